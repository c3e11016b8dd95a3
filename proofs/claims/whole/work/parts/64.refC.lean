/-! THE REFERENCE: a law's value -/
theorem labs_t {x : Int} (h0 : -9223372036854775808 < x) (h1 : x < 9223372036854775808) : am_labs x = (x.natAbs : Int) := by
  unfold am_labs
  by_cases q : 0 < x
  · rw [if_pos q]; omega
  · rw [if_neg q, w64_t (by omega) (by omega)]; omega
theorem jt {v : Int} {h : am_H} : (if 1000000000000 < v then some (some (.inl 0), h) else if v < -1000000000000 then some (some (.inl 0), h) else some (some (.inl 1), h) : Option am_Res) = some (some (.inl (if v ≤ LG ∧ -LG ≤ v then 1 else 0)), h) := by
  unfold LG
  by_cases q1 : 1000000000000 < v
  · rw [if_pos q1, if_neg (by omega)]
  · rw [if_neg q1]
    by_cases q2 : v < -1000000000000
    · rw [if_pos q2, if_neg (by omega)]
    · rw [if_neg q2, if_pos (by omega)]
theorem tdiv_abs (x y : Int) : (Int.tdiv x y).natAbs ≤ x.natAbs := by
  rw [Int.natAbs_tdiv]
  exact Nat.div_le_self _ _
theorem mul_bd {x y : Int} (hx : x ≠ 0) (h : (y.natAbs : Int) ≤ Int.tdiv 1000000000000 (x.natAbs : Int)) : -1000000000000 ≤ x * y ∧ x * y ≤ 1000000000000 := by
  have e : Int.tdiv 1000000000000 (x.natAbs : Int) = ((1000000000000 / x.natAbs : Nat) : Int) := rfl
  rw [e] at h
  have h2 : y.natAbs ≤ 1000000000000 / x.natAbs := by omega
  have h3 : x.natAbs * y.natAbs ≤ 1000000000000 := Nat.le_trans (Nat.mul_le_mul_left _ h2) (Nat.mul_div_le _ _)
  have h4 : (x * y).natAbs ≤ 1000000000000 := by rw [Int.natAbs_mul]; exact h3
  omega
section REF
variable {ρ : Nat → Nat → Nat} {μ : Nat → Nat → Int} {cs : Nat × Nat × Nat} {d : Nat} {sh : List (Nat × Nat)}
def joinR (ρ : Nat → Nat → Nat) (μ : Nat → Nat → Int) (cs : Nat × Nat × Nat) (n : Int) (v : Option Int) : Option am_Res := match v with
  | none => some (some (.inl 0), (SH, ρ, μ, cs))
  | some v => some (some (.inl (if v ≤ LG ∧ -LG ≤ v then 1 else 0)), (SH, ρ, am_up μ 120 (n - 1).toNat v, cs))
theorem j_some {n v : Int} : joinR ρ μ cs n (some v) = some (some (.inl (if v ≤ LG ∧ -LG ≤ v then 1 else 0)), (SH, ρ, am_up μ 120 (n - 1).toNat v, cs)) := rfl
theorem j_1 {n : Int} : joinR ρ μ cs n (some 1) = some (some (.inl 1), (SH, ρ, am_up μ 120 (n - 1).toNat 1, cs)) := rfl
theorem j_0 {n : Int} : joinR ρ μ cs n (some 0) = some (some (.inl 1), (SH, ρ, am_up μ 120 (n - 1).toNat 0, cs)) := rfl

theorem R_join43 (hρ : RM ρ) {n x y : Int} (h36 : μ 99 36 = n) (hn1 : 1 ≤ n) (hn : n ≤ 64) (hx0 : -1000000000000 ≤ x) (hx1 : x ≤ 1000000000000) (hy0 : -1000000000000 ≤ y) (hy1 : y ≤ 1000000000000) (s0 : Int) : am_E (d + 1) 179 70 [some (.inr (.inr 99)), some (.inl s0), some (.inr (.inl y)), none, some (.inr (.inl x)), none, none, none] [.inl 43] (SH, ρ, μ, cs) = joinR ρ μ cs n (op2 43 x y) := by
  rw [show op2 43 x y = some (x + y) from rfl, j_some]
  simp (disch := (first | omega | (simp (disch := omega) only [sr_up, wr_up_o]; omega))) only [e179_70_c43, ks_120, ks_99, rm_worked hρ, isk_t, i20_t, w20_t, l23_t, b21_t, b22_t, w_t, bif_t, bif_f, bif_d, if_pos, if_neg, if_true, if_false, not_true_eq_false, not_false_eq_true, Option.bind_some, Option.toList_some, Option.toList_none, List.cons_append, List.nil_append, Int.toNat_natCast, Int.reduceToNat, up_eq, up_p, up_k, sN,  lc_gt, lc_lt, lc_eq, lc_le, lc_ge, h36, w64_t, labs_t, j_1, j_0 ]
  exact jt
theorem R_join45 (hρ : RM ρ) {n x y : Int} (h36 : μ 99 36 = n) (hn1 : 1 ≤ n) (hn : n ≤ 64) (hx0 : -1000000000000 ≤ x) (hx1 : x ≤ 1000000000000) (hy0 : -1000000000000 ≤ y) (hy1 : y ≤ 1000000000000) (s0 : Int) : am_E (d + 1) 179 70 [some (.inr (.inr 99)), some (.inl s0), some (.inr (.inl y)), none, some (.inr (.inl x)), none, none, none] [.inl 45] (SH, ρ, μ, cs) = joinR ρ μ cs n (op2 45 x y) := by
  rw [show op2 45 x y = some (x - y) from rfl, j_some]
  simp (disch := (first | omega | (simp (disch := omega) only [sr_up, wr_up_o]; omega))) only [e179_70_c45, ks_120, ks_99, rm_worked hρ, isk_t, i20_t, w20_t, l23_t, b21_t, b22_t, w_t, bif_t, bif_f, bif_d, if_pos, if_neg, if_true, if_false, not_true_eq_false, not_false_eq_true, Option.bind_some, Option.toList_some, Option.toList_none, List.cons_append, List.nil_append, Int.toNat_natCast, Int.reduceToNat, up_eq, up_p, up_k, sN,  lc_gt, lc_lt, lc_eq, lc_le, lc_ge, h36, w64_t, labs_t, j_1, j_0 ]
  exact jt
theorem R_join42 (hρ : RM ρ) {n x y : Int} (h36 : μ 99 36 = n) (hn1 : 1 ≤ n) (hn : n ≤ 64) (hx0 : -1000000000000 ≤ x) (hx1 : x ≤ 1000000000000) (hy0 : -1000000000000 ≤ y) (hy1 : y ≤ 1000000000000) (s0 : Int) : am_E (d + 1) 179 70 [some (.inr (.inr 99)), some (.inl s0), some (.inr (.inl y)), none, some (.inr (.inl x)), none, none, none] [.inl 42] (SH, ρ, μ, cs) = joinR ρ μ cs n (op2 42 x y) := by
  rw [show op2 42 x y = (if x ≠ 0 ∧ Int.tdiv LG (Int.natAbs x) < (Int.natAbs y : Int) then none else some (x * y)) from rfl]
  by_cases q : x = 0
  · subst q
    rw [if_neg (by simp), j_some]
    simp only [Int.zero_mul]
    simp (disch := (first | omega | (simp (disch := omega) only [sr_up, wr_up_o]; omega))) only [e179_70_c42, ks_120, ks_99, rm_worked hρ, isk_t, i20_t, w20_t, l23_t, b21_t, b22_t, w_t, bif_t, bif_f, bif_d, if_pos, if_neg, if_true, if_false, not_true_eq_false, not_false_eq_true, Option.bind_some, Option.toList_some, Option.toList_none, List.cons_append, List.nil_append, Int.toNat_natCast, Int.reduceToNat, up_eq, up_p, up_k, sN,  lc_gt, lc_lt, lc_eq, lc_le, lc_ge, h36, w64_t, labs_t, j_1, j_0, Int.zero_mul ]
    rfl
  · have hq : (Int.tdiv 1000000000000 (x.natAbs : Int)).natAbs ≤ 1000000000000 := tdiv_abs 1000000000000 (x.natAbs : Int)
    by_cases q2 : (y.natAbs : Int) ≤ Int.tdiv 1000000000000 (x.natAbs : Int)
    · have hb := mul_bd q q2
      rw [if_neg (by unfold LG; omega), j_some]
      simp (disch := (first | omega | (simp (disch := omega) only [sr_up, wr_up_o]; omega))) only [e179_70_c42, ks_120, ks_99, rm_worked hρ, isk_t, i20_t, w20_t, l23_t, b21_t, b22_t, w_t, bif_t, bif_f, bif_d, if_pos, if_neg, if_true, if_false, not_true_eq_false, not_false_eq_true, Option.bind_some, Option.toList_some, Option.toList_none, List.cons_append, List.nil_append, Int.toNat_natCast, Int.reduceToNat, up_eq, up_p, up_k, sN,  lc_gt, lc_lt, lc_eq, lc_le, lc_ge, h36, w64_t, labs_t, j_1, j_0 ]
      rw [if_pos (by unfold LG; omega)]
    · rw [if_pos (by unfold LG; omega)]
      simp (disch := (first | omega | (simp (disch := omega) only [sr_up, wr_up_o]; omega))) only [e179_70_c42, ks_120, ks_99, rm_worked hρ, isk_t, i20_t, w20_t, l23_t, b21_t, b22_t, w_t, bif_t, bif_f, bif_d, if_pos, if_neg, if_true, if_false, not_true_eq_false, not_false_eq_true, Option.bind_some, Option.toList_some, Option.toList_none, List.cons_append, List.nil_append, Int.toNat_natCast, Int.reduceToNat, up_eq, up_p, up_k, sN,  lc_gt, lc_lt, lc_eq, lc_le, lc_ge, h36, w64_t, labs_t, j_1, j_0 ]
      rfl
theorem R_join47 (hρ : RM ρ) {n x y : Int} (h36 : μ 99 36 = n) (hn1 : 1 ≤ n) (hn : n ≤ 64) (hx0 : -1000000000000 ≤ x) (hx1 : x ≤ 1000000000000) (hy0 : -1000000000000 ≤ y) (hy1 : y ≤ 1000000000000) (s0 : Int) : am_E (d + 1) 179 70 [some (.inr (.inr 99)), some (.inl s0), some (.inr (.inl y)), none, some (.inr (.inl x)), none, none, none] [.inl 47] (SH, ρ, μ, cs) = joinR ρ μ cs n (op2 47 x y) := by
  rw [show op2 47 x y = (if y = 0 then none else some (Int.tdiv x y)) from rfl]
  have hq := tdiv_abs x y
  by_cases q : y = 0
  · rw [if_pos q]
    simp (disch := (first | omega | (simp (disch := omega) only [sr_up, wr_up_o]; omega))) only [e179_70_c47, ks_120, ks_99, rm_worked hρ, isk_t, i20_t, w20_t, l23_t, b21_t, b22_t, w_t, bif_t, bif_f, bif_d, if_pos, if_neg, if_true, if_false, not_true_eq_false, not_false_eq_true, Option.bind_some, Option.toList_some, Option.toList_none, List.cons_append, List.nil_append, Int.toNat_natCast, Int.reduceToNat, up_eq, up_p, up_k, sN,  lc_gt, lc_lt, lc_eq, lc_le, lc_ge, h36, w64_t, labs_t, j_1, j_0 ]
    rfl
  · rw [if_neg q, j_some]
    simp (disch := (first | omega | (simp (disch := omega) only [sr_up, wr_up_o]; omega))) only [e179_70_c47, ks_120, ks_99, rm_worked hρ, isk_t, i20_t, w20_t, l23_t, b21_t, b22_t, w_t, bif_t, bif_f, bif_d, if_pos, if_neg, if_true, if_false, not_true_eq_false, not_false_eq_true, Option.bind_some, Option.toList_some, Option.toList_none, List.cons_append, List.nil_append, Int.toNat_natCast, Int.reduceToNat, up_eq, up_p, up_k, sN,  lc_gt, lc_lt, lc_eq, lc_le, lc_ge, h36, w64_t, labs_t, j_1, j_0 ]
    rw [if_pos (by unfold LG; omega)]
theorem R_join60 (hρ : RM ρ) {n x y : Int} (h36 : μ 99 36 = n) (hn1 : 1 ≤ n) (hn : n ≤ 64) (hx0 : -1000000000000 ≤ x) (hx1 : x ≤ 1000000000000) (hy0 : -1000000000000 ≤ y) (hy1 : y ≤ 1000000000000) (s0 : Int) : am_E (d + 1) 179 70 [some (.inr (.inr 99)), some (.inl s0), some (.inr (.inl y)), none, some (.inr (.inl x)), none, none, none] [.inl 60] (SH, ρ, μ, cs) = joinR ρ μ cs n (op2 60 x y) := by
  rw [show op2 60 x y = some (if x < y then 1 else 0) from rfl]
  by_cases q : x < y
  · rw [if_pos q]
    simp (disch := (first | omega | (simp (disch := omega) only [sr_up, wr_up_o]; omega))) only [e179_70_c60, e178_0, e179_253, ks_120, ks_99, rm_worked hρ, isk_t, i20_t, w20_t, l23_t, b21_t, b22_t, w_t, bif_t, bif_f, bif_d, if_pos, if_neg, if_true, if_false, not_true_eq_false, not_false_eq_true, Option.bind_some, Option.toList_some, Option.toList_none, List.cons_append, List.nil_append, Int.toNat_natCast, Int.reduceToNat, up_eq, up_p, up_k, sN,  lc_gt, lc_lt, lc_eq, lc_le, lc_ge, h36, w64_t, labs_t, j_1, j_0 ]
  · rw [if_neg q]
    by_cases q1 : x = 0
    · simp (disch := (first | omega | (simp (disch := omega) only [sr_up, wr_up_o]; omega))) only [e179_70_c60, e178_0, e179_253, ks_120, ks_99, rm_worked hρ, isk_t, i20_t, w20_t, l23_t, b21_t, b22_t, w_t, bif_t, bif_f, bif_d, if_pos, if_neg, if_true, if_false, not_true_eq_false, not_false_eq_true, Option.bind_some, Option.toList_some, Option.toList_none, List.cons_append, List.nil_append, Int.toNat_natCast, Int.reduceToNat, up_eq, up_p, up_k, sN,  lc_gt, lc_lt, lc_eq, lc_le, lc_ge, h36, w64_t, labs_t, j_1, j_0 ]
    · simp (disch := (first | omega | (simp (disch := omega) only [sr_up, wr_up_o]; omega))) only [e179_70_c60, e178_0, e179_253, ks_120, ks_99, rm_worked hρ, isk_t, i20_t, w20_t, l23_t, b21_t, b22_t, w_t, bif_t, bif_f, bif_d, if_pos, if_neg, if_true, if_false, not_true_eq_false, not_false_eq_true, Option.bind_some, Option.toList_some, Option.toList_none, List.cons_append, List.nil_append, Int.toNat_natCast, Int.reduceToNat, up_eq, up_p, up_k, sN,  lc_gt, lc_lt, lc_eq, lc_le, lc_ge, h36, w64_t, labs_t, j_1, j_0 ]
theorem R_join62 (hρ : RM ρ) {n x y : Int} (h36 : μ 99 36 = n) (hn1 : 1 ≤ n) (hn : n ≤ 64) (hx0 : -1000000000000 ≤ x) (hx1 : x ≤ 1000000000000) (hy0 : -1000000000000 ≤ y) (hy1 : y ≤ 1000000000000) (s0 : Int) : am_E (d + 1) 179 70 [some (.inr (.inr 99)), some (.inl s0), some (.inr (.inl y)), none, some (.inr (.inl x)), none, none, none] [.inl 62] (SH, ρ, μ, cs) = joinR ρ μ cs n (op2 62 x y) := by
  rw [show op2 62 x y = some (if x > y then 1 else 0) from rfl]
  by_cases q : x > y
  · rw [if_pos q]
    simp (disch := (first | omega | (simp (disch := omega) only [sr_up, wr_up_o]; omega))) only [e179_70_c62, e178_0, e179_273, ks_120, ks_99, rm_worked hρ, isk_t, i20_t, w20_t, l23_t, b21_t, b22_t, w_t, bif_t, bif_f, bif_d, if_pos, if_neg, if_true, if_false, not_true_eq_false, not_false_eq_true, Option.bind_some, Option.toList_some, Option.toList_none, List.cons_append, List.nil_append, Int.toNat_natCast, Int.reduceToNat, up_eq, up_p, up_k, sN,  lc_gt, lc_lt, lc_eq, lc_le, lc_ge, h36, w64_t, labs_t, j_1, j_0 ]
  · rw [if_neg q]
    by_cases q1 : x = 0
    · simp (disch := (first | omega | (simp (disch := omega) only [sr_up, wr_up_o]; omega))) only [e179_70_c62, e178_0, e179_273, ks_120, ks_99, rm_worked hρ, isk_t, i20_t, w20_t, l23_t, b21_t, b22_t, w_t, bif_t, bif_f, bif_d, if_pos, if_neg, if_true, if_false, not_true_eq_false, not_false_eq_true, Option.bind_some, Option.toList_some, Option.toList_none, List.cons_append, List.nil_append, Int.toNat_natCast, Int.reduceToNat, up_eq, up_p, up_k, sN,  lc_gt, lc_lt, lc_eq, lc_le, lc_ge, h36, w64_t, labs_t, j_1, j_0 ]
    · simp (disch := (first | omega | (simp (disch := omega) only [sr_up, wr_up_o]; omega))) only [e179_70_c62, e178_0, e179_273, ks_120, ks_99, rm_worked hρ, isk_t, i20_t, w20_t, l23_t, b21_t, b22_t, w_t, bif_t, bif_f, bif_d, if_pos, if_neg, if_true, if_false, not_true_eq_false, not_false_eq_true, Option.bind_some, Option.toList_some, Option.toList_none, List.cons_append, List.nil_append, Int.toNat_natCast, Int.reduceToNat, up_eq, up_p, up_k, sN,  lc_gt, lc_lt, lc_eq, lc_le, lc_ge, h36, w64_t, labs_t, j_1, j_0 ]
theorem R_join61 (hρ : RM ρ) {n x y : Int} (h36 : μ 99 36 = n) (hn1 : 1 ≤ n) (hn : n ≤ 64) (hx0 : -1000000000000 ≤ x) (hx1 : x ≤ 1000000000000) (hy0 : -1000000000000 ≤ y) (hy1 : y ≤ 1000000000000) (s0 : Int) : am_E (d + 1) 179 70 [some (.inr (.inr 99)), some (.inl s0), some (.inr (.inl y)), none, some (.inr (.inl x)), none, none, none] [.inl 61] (SH, ρ, μ, cs) = joinR ρ μ cs n (op2 61 x y) := by
  rw [show op2 61 x y = some (if x = y then 1 else 0) from rfl]
  by_cases q : x = y
  · rw [if_pos q]
    simp (disch := (first | omega | (simp (disch := omega) only [sr_up, wr_up_o]; omega))) only [e179_70_c61, e178_0, e179_293, ks_120, ks_99, rm_worked hρ, isk_t, i20_t, w20_t, l23_t, b21_t, b22_t, w_t, bif_t, bif_f, bif_d, if_pos, if_neg, if_true, if_false, not_true_eq_false, not_false_eq_true, Option.bind_some, Option.toList_some, Option.toList_none, List.cons_append, List.nil_append, Int.toNat_natCast, Int.reduceToNat, up_eq, up_p, up_k, sN,  lc_gt, lc_lt, lc_eq, lc_le, lc_ge, h36, w64_t, labs_t, j_1, j_0 ]
  · rw [if_neg q]
    by_cases q1 : x = 0
    · simp (disch := (first | omega | (simp (disch := omega) only [sr_up, wr_up_o]; omega))) only [e179_70_c61, e178_0, e179_293, ks_120, ks_99, rm_worked hρ, isk_t, i20_t, w20_t, l23_t, b21_t, b22_t, w_t, bif_t, bif_f, bif_d, if_pos, if_neg, if_true, if_false, not_true_eq_false, not_false_eq_true, Option.bind_some, Option.toList_some, Option.toList_none, List.cons_append, List.nil_append, Int.toNat_natCast, Int.reduceToNat, up_eq, up_p, up_k, sN,  lc_gt, lc_lt, lc_eq, lc_le, lc_ge, h36, w64_t, labs_t, j_1, j_0 ]
    · simp (disch := (first | omega | (simp (disch := omega) only [sr_up, wr_up_o]; omega))) only [e179_70_c61, e178_0, e179_293, ks_120, ks_99, rm_worked hρ, isk_t, i20_t, w20_t, l23_t, b21_t, b22_t, w_t, bif_t, bif_f, bif_d, if_pos, if_neg, if_true, if_false, not_true_eq_false, not_false_eq_true, Option.bind_some, Option.toList_some, Option.toList_none, List.cons_append, List.nil_append, Int.toNat_natCast, Int.reduceToNat, up_eq, up_p, up_k, sN,  lc_gt, lc_lt, lc_eq, lc_le, lc_ge, h36, w64_t, labs_t, j_1, j_0 ]
theorem R_join256 (hρ : RM ρ) {n x y : Int} (h36 : μ 99 36 = n) (hn1 : 1 ≤ n) (hn : n ≤ 64) (hx0 : -1000000000000 ≤ x) (hx1 : x ≤ 1000000000000) (hy0 : -1000000000000 ≤ y) (hy1 : y ≤ 1000000000000) (s0 : Int) : am_E (d + 1) 179 70 [some (.inr (.inr 99)), some (.inl s0), some (.inr (.inl y)), none, some (.inr (.inl x)), none, none, none] [.inl 256] (SH, ρ, μ, cs) = joinR ρ μ cs n (op2 256 x y) := by
  rw [show op2 256 x y = some (if x ≤ y then 1 else 0) from rfl]
  by_cases q : x ≤ y
  · rw [if_pos q]
    simp (disch := (first | omega | (simp (disch := omega) only [sr_up, wr_up_o]; omega))) only [e179_70_c256, e178_0, e179_313, ks_120, ks_99, rm_worked hρ, isk_t, i20_t, w20_t, l23_t, b21_t, b22_t, w_t, bif_t, bif_f, bif_d, if_pos, if_neg, if_true, if_false, not_true_eq_false, not_false_eq_true, Option.bind_some, Option.toList_some, Option.toList_none, List.cons_append, List.nil_append, Int.toNat_natCast, Int.reduceToNat, up_eq, up_p, up_k, sN,  lc_gt, lc_lt, lc_eq, lc_le, lc_ge, h36, w64_t, labs_t, j_1, j_0 ]
  · rw [if_neg q]
    by_cases q1 : x = 0
    · simp (disch := (first | omega | (simp (disch := omega) only [sr_up, wr_up_o]; omega))) only [e179_70_c256, e178_0, e179_313, ks_120, ks_99, rm_worked hρ, isk_t, i20_t, w20_t, l23_t, b21_t, b22_t, w_t, bif_t, bif_f, bif_d, if_pos, if_neg, if_true, if_false, not_true_eq_false, not_false_eq_true, Option.bind_some, Option.toList_some, Option.toList_none, List.cons_append, List.nil_append, Int.toNat_natCast, Int.reduceToNat, up_eq, up_p, up_k, sN,  lc_gt, lc_lt, lc_eq, lc_le, lc_ge, h36, w64_t, labs_t, j_1, j_0 ]
    · simp (disch := (first | omega | (simp (disch := omega) only [sr_up, wr_up_o]; omega))) only [e179_70_c256, e178_0, e179_313, ks_120, ks_99, rm_worked hρ, isk_t, i20_t, w20_t, l23_t, b21_t, b22_t, w_t, bif_t, bif_f, bif_d, if_pos, if_neg, if_true, if_false, not_true_eq_false, not_false_eq_true, Option.bind_some, Option.toList_some, Option.toList_none, List.cons_append, List.nil_append, Int.toNat_natCast, Int.reduceToNat, up_eq, up_p, up_k, sN,  lc_gt, lc_lt, lc_eq, lc_le, lc_ge, h36, w64_t, labs_t, j_1, j_0 ]
theorem R_join258 (hρ : RM ρ) {n x y : Int} (h36 : μ 99 36 = n) (hn1 : 1 ≤ n) (hn : n ≤ 64) (hx0 : -1000000000000 ≤ x) (hx1 : x ≤ 1000000000000) (hy0 : -1000000000000 ≤ y) (hy1 : y ≤ 1000000000000) (s0 : Int) : am_E (d + 1) 179 70 [some (.inr (.inr 99)), some (.inl s0), some (.inr (.inl y)), none, some (.inr (.inl x)), none, none, none] [.inl 258] (SH, ρ, μ, cs) = joinR ρ μ cs n (op2 258 x y) := by
  rw [show op2 258 x y = some (if x ≥ y then 1 else 0) from rfl]
  by_cases q : x ≥ y
  · rw [if_pos q]
    simp (disch := (first | omega | (simp (disch := omega) only [sr_up, wr_up_o]; omega))) only [e179_70_c258, e178_0, e179_333, ks_120, ks_99, rm_worked hρ, isk_t, i20_t, w20_t, l23_t, b21_t, b22_t, w_t, bif_t, bif_f, bif_d, if_pos, if_neg, if_true, if_false, not_true_eq_false, not_false_eq_true, Option.bind_some, Option.toList_some, Option.toList_none, List.cons_append, List.nil_append, Int.toNat_natCast, Int.reduceToNat, up_eq, up_p, up_k, sN,  lc_gt, lc_lt, lc_eq, lc_le, lc_ge, h36, w64_t, labs_t, j_1, j_0 ]
  · rw [if_neg q]
    by_cases q1 : x = 0
    · simp (disch := (first | omega | (simp (disch := omega) only [sr_up, wr_up_o]; omega))) only [e179_70_c258, e178_0, e179_333, ks_120, ks_99, rm_worked hρ, isk_t, i20_t, w20_t, l23_t, b21_t, b22_t, w_t, bif_t, bif_f, bif_d, if_pos, if_neg, if_true, if_false, not_true_eq_false, not_false_eq_true, Option.bind_some, Option.toList_some, Option.toList_none, List.cons_append, List.nil_append, Int.toNat_natCast, Int.reduceToNat, up_eq, up_p, up_k, sN,  lc_gt, lc_lt, lc_eq, lc_le, lc_ge, h36, w64_t, labs_t, j_1, j_0 ]
    · simp (disch := (first | omega | (simp (disch := omega) only [sr_up, wr_up_o]; omega))) only [e179_70_c258, e178_0, e179_333, ks_120, ks_99, rm_worked hρ, isk_t, i20_t, w20_t, l23_t, b21_t, b22_t, w_t, bif_t, bif_f, bif_d, if_pos, if_neg, if_true, if_false, not_true_eq_false, not_false_eq_true, Option.bind_some, Option.toList_some, Option.toList_none, List.cons_append, List.nil_append, Int.toNat_natCast, Int.reduceToNat, up_eq, up_p, up_k, sN,  lc_gt, lc_lt, lc_eq, lc_le, lc_ge, h36, w64_t, labs_t, j_1, j_0 ]
theorem R_join257 (hρ : RM ρ) {n x y : Int} (h36 : μ 99 36 = n) (hn1 : 1 ≤ n) (hn : n ≤ 64) (hx0 : -1000000000000 ≤ x) (hx1 : x ≤ 1000000000000) (hy0 : -1000000000000 ≤ y) (hy1 : y ≤ 1000000000000) (s0 : Int) : am_E (d + 1) 179 70 [some (.inr (.inr 99)), some (.inl s0), some (.inr (.inl y)), none, some (.inr (.inl x)), none, none, none] [.inl 257] (SH, ρ, μ, cs) = joinR ρ μ cs n (op2 257 x y) := by
  rw [show op2 257 x y = some (if x ≠ y then 1 else 0) from rfl]
  by_cases q : x ≠ y
  · rw [if_pos q]
    simp (disch := (first | omega | (simp (disch := omega) only [sr_up, wr_up_o]; omega))) only [e179_70_c257, e178_0, e179_353, ks_120, ks_99, rm_worked hρ, isk_t, i20_t, w20_t, l23_t, b21_t, b22_t, w_t, bif_t, bif_f, bif_d, if_pos, if_neg, if_true, if_false, not_true_eq_false, not_false_eq_true, Option.bind_some, Option.toList_some, Option.toList_none, List.cons_append, List.nil_append, Int.toNat_natCast, Int.reduceToNat, up_eq, up_p, up_k, sN,  lc_gt, lc_lt, lc_eq, lc_le, lc_ge, h36, w64_t, labs_t, j_1, j_0 ]
  · rw [if_neg q]
    by_cases q1 : x = 0
    · simp (disch := (first | omega | (simp (disch := omega) only [sr_up, wr_up_o]; omega))) only [e179_70_c257, e178_0, e179_353, ks_120, ks_99, rm_worked hρ, isk_t, i20_t, w20_t, l23_t, b21_t, b22_t, w_t, bif_t, bif_f, bif_d, if_pos, if_neg, if_true, if_false, not_true_eq_false, not_false_eq_true, Option.bind_some, Option.toList_some, Option.toList_none, List.cons_append, List.nil_append, Int.toNat_natCast, Int.reduceToNat, up_eq, up_p, up_k, sN,  lc_gt, lc_lt, lc_eq, lc_le, lc_ge, h36, w64_t, labs_t, j_1, j_0 ]
    · simp (disch := (first | omega | (simp (disch := omega) only [sr_up, wr_up_o]; omega))) only [e179_70_c257, e178_0, e179_353, ks_120, ks_99, rm_worked hρ, isk_t, i20_t, w20_t, l23_t, b21_t, b22_t, w_t, bif_t, bif_f, bif_d, if_pos, if_neg, if_true, if_false, not_true_eq_false, not_false_eq_true, Option.bind_some, Option.toList_some, Option.toList_none, List.cons_append, List.nil_append, Int.toNat_natCast, Int.reduceToNat, up_eq, up_p, up_k, sN,  lc_gt, lc_lt, lc_eq, lc_le, lc_ge, h36, w64_t, labs_t, j_1, j_0 ]
theorem R_join261 (hρ : RM ρ) {n x y : Int} (h36 : μ 99 36 = n) (hn1 : 1 ≤ n) (hn : n ≤ 64) (hx0 : -1000000000000 ≤ x) (hx1 : x ≤ 1000000000000) (hy0 : -1000000000000 ≤ y) (hy1 : y ≤ 1000000000000) (s0 : Int) : am_E (d + 1) 179 70 [some (.inr (.inr 99)), some (.inl s0), some (.inr (.inl y)), none, some (.inr (.inl x)), none, none, none] [.inl 261] (SH, ρ, μ, cs) = joinR ρ μ cs n (op2 261 x y) := by
  rw [show op2 261 x y = some (if x ≠ 0 ∧ y ≠ 0 then 1 else 0) from rfl]
  by_cases q : x ≠ 0 ∧ y ≠ 0
  · rw [if_pos q]
    simp (disch := (first | omega | (simp (disch := omega) only [sr_up, wr_up_o]; omega))) only [e179_70_c261, e178_0, e179_379, ks_120, ks_99, rm_worked hρ, isk_t, i20_t, w20_t, l23_t, b21_t, b22_t, w_t, bif_t, bif_f, bif_d, if_pos, if_neg, if_true, if_false, not_true_eq_false, not_false_eq_true, Option.bind_some, Option.toList_some, Option.toList_none, List.cons_append, List.nil_append, Int.toNat_natCast, Int.reduceToNat, up_eq, up_p, up_k, sN,  lc_gt, lc_lt, lc_eq, lc_le, lc_ge, h36, w64_t, labs_t, j_1, j_0 ]
  · rw [if_neg q]
    by_cases q1 : x = 0
    · simp (disch := (first | omega | (simp (disch := omega) only [sr_up, wr_up_o]; omega))) only [e179_70_c261, e178_0, e179_379, ks_120, ks_99, rm_worked hρ, isk_t, i20_t, w20_t, l23_t, b21_t, b22_t, w_t, bif_t, bif_f, bif_d, if_pos, if_neg, if_true, if_false, not_true_eq_false, not_false_eq_true, Option.bind_some, Option.toList_some, Option.toList_none, List.cons_append, List.nil_append, Int.toNat_natCast, Int.reduceToNat, up_eq, up_p, up_k, sN,  lc_gt, lc_lt, lc_eq, lc_le, lc_ge, h36, w64_t, labs_t, j_1, j_0 ]
    · simp (disch := (first | omega | (simp (disch := omega) only [sr_up, wr_up_o]; omega))) only [e179_70_c261, e178_0, e179_379, ks_120, ks_99, rm_worked hρ, isk_t, i20_t, w20_t, l23_t, b21_t, b22_t, w_t, bif_t, bif_f, bif_d, if_pos, if_neg, if_true, if_false, not_true_eq_false, not_false_eq_true, Option.bind_some, Option.toList_some, Option.toList_none, List.cons_append, List.nil_append, Int.toNat_natCast, Int.reduceToNat, up_eq, up_p, up_k, sN,  lc_gt, lc_lt, lc_eq, lc_le, lc_ge, h36, w64_t, labs_t, j_1, j_0 ]
theorem R_joinD (hρ : RM ρ) {n x y : Int} (h36 : μ 99 36 = n) (hn1 : 1 ≤ n) (hn : n ≤ 64) (hx0 : -1000000000000 ≤ x) (hx1 : x ≤ 1000000000000) (hy0 : -1000000000000 ≤ y) (hy1 : y ≤ 1000000000000) (s0 : Int) {s : Int} (hs : s ≠ 43 ∧ s ≠ 45 ∧ s ≠ 42 ∧ s ≠ 47 ∧ s ≠ 60 ∧ s ≠ 62 ∧ s ≠ 61 ∧ s ≠ 256 ∧ s ≠ 258 ∧ s ≠ 257 ∧ s ≠ 261) : am_E (d + 1) 179 70 [some (.inr (.inr 99)), some (.inl s0), some (.inr (.inl y)), none, some (.inr (.inl x)), none, none, none] [.inl s] (SH, ρ, μ, cs) = joinR ρ μ cs n (op2 s x y) := by
  have e : op2 s x y = some (if x ≠ 0 ∨ y ≠ 0 then 1 else 0) := by
    unfold op2
    rw [if_neg (by omega), if_neg (by omega), if_neg (by omega), if_neg (by omega), if_neg (by omega), if_neg (by omega), if_neg (by omega), if_neg (by omega), if_neg (by omega), if_neg (by omega), if_neg (by omega)]
  rw [e, e179_70_d _ _ _ _ _ _ _ _ _ _ (by omega)]
  by_cases q : x ≠ 0 ∨ y ≠ 0
  · rw [if_pos q]
    by_cases q1 : x = 0
    · simp (disch := (first | omega | (simp (disch := omega) only [sr_up, wr_up_o]; omega))) only [e178_0, e179_405, ks_120, ks_99, rm_worked hρ, isk_t, i20_t, w20_t, l23_t, b21_t, b22_t, w_t, bif_t, bif_f, bif_d, if_pos, if_neg, if_true, if_false, not_true_eq_false, not_false_eq_true, Option.bind_some, Option.toList_some, Option.toList_none, List.cons_append, List.nil_append, Int.toNat_natCast, Int.reduceToNat, up_eq, up_p, up_k, sN,  lc_gt, lc_lt, lc_eq, lc_le, lc_ge, h36, w64_t, labs_t, j_1, j_0 ]
    · simp (disch := (first | omega | (simp (disch := omega) only [sr_up, wr_up_o]; omega))) only [e178_0, e179_405, ks_120, ks_99, rm_worked hρ, isk_t, i20_t, w20_t, l23_t, b21_t, b22_t, w_t, bif_t, bif_f, bif_d, if_pos, if_neg, if_true, if_false, not_true_eq_false, not_false_eq_true, Option.bind_some, Option.toList_some, Option.toList_none, List.cons_append, List.nil_append, Int.toNat_natCast, Int.reduceToNat, up_eq, up_p, up_k, sN,  lc_gt, lc_lt, lc_eq, lc_le, lc_ge, h36, w64_t, labs_t, j_1, j_0 ]
  · rw [if_neg q]
    simp (disch := (first | omega | (simp (disch := omega) only [sr_up, wr_up_o]; omega))) only [e178_0, e179_405, ks_120, ks_99, rm_worked hρ, isk_t, i20_t, w20_t, l23_t, b21_t, b22_t, w_t, bif_t, bif_f, bif_d, if_pos, if_neg, if_true, if_false, not_true_eq_false, not_false_eq_true, Option.bind_some, Option.toList_some, Option.toList_none, List.cons_append, List.nil_append, Int.toNat_natCast, Int.reduceToNat, up_eq, up_p, up_k, sN,  lc_gt, lc_lt, lc_eq, lc_le, lc_ge, h36, w64_t, labs_t, j_1, j_0 ]
theorem R_join (hρ : RM ρ) {n x y : Int} (h36 : μ 99 36 = n) (hn1 : 1 ≤ n) (hn : n ≤ 64) (hx0 : -1000000000000 ≤ x) (hx1 : x ≤ 1000000000000) (hy0 : -1000000000000 ≤ y) (hy1 : y ≤ 1000000000000) (s0 : Int) (s : Int) : am_E (d + 1) 179 70 [some (.inr (.inr 99)), some (.inl s0), some (.inr (.inl y)), none, some (.inr (.inl x)), none, none, none] [.inl s] (SH, ρ, μ, cs) = joinR ρ μ cs n (op2 s x y) := by
  by_cases h43 : s = 43
  · subst h43; exact R_join43 hρ h36 hn1 hn hx0 hx1 hy0 hy1 s0
  by_cases h45 : s = 45
  · subst h45; exact R_join45 hρ h36 hn1 hn hx0 hx1 hy0 hy1 s0
  by_cases h42 : s = 42
  · subst h42; exact R_join42 hρ h36 hn1 hn hx0 hx1 hy0 hy1 s0
  by_cases h47 : s = 47
  · subst h47; exact R_join47 hρ h36 hn1 hn hx0 hx1 hy0 hy1 s0
  by_cases h60 : s = 60
  · subst h60; exact R_join60 hρ h36 hn1 hn hx0 hx1 hy0 hy1 s0
  by_cases h62 : s = 62
  · subst h62; exact R_join62 hρ h36 hn1 hn hx0 hx1 hy0 hy1 s0
  by_cases h61 : s = 61
  · subst h61; exact R_join61 hρ h36 hn1 hn hx0 hx1 hy0 hy1 s0
  by_cases h256 : s = 256
  · subst h256; exact R_join256 hρ h36 hn1 hn hx0 hx1 hy0 hy1 s0
  by_cases h258 : s = 258
  · subst h258; exact R_join258 hρ h36 hn1 hn hx0 hx1 hy0 hy1 s0
  by_cases h257 : s = 257
  · subst h257; exact R_join257 hρ h36 hn1 hn hx0 hx1 hy0 hy1 s0
  by_cases h261 : s = 261
  · subst h261; exact R_join261 hρ h36 hn1 hn hx0 hx1 hy0 hy1 s0
  exact R_joinD hρ h36 hn1 hn hx0 hx1 hy0 hy1 s0 (by omega)
/-- the stack, its top first -/
def stk (μ : Nat → Nat → Int) : Nat → List Int
  | 0 => []
  | n + 1 => μ 120 n :: stk μ n
theorem R_worksN (hρ : RM ρ) {n : Int} (h36 : μ 99 36 = n) (hn1 : 1 ≤ n) (hn : n ≤ 64) : am_E (d + 1) 179 0 [some (.inr (.inr 99)), some (.inl 260), none, none, none, none, none, none] [] (SH, ρ, μ, cs) = some (some (.inl 1), (SH, ρ, am_up μ 120 (n - 1).toNat (if μ 120 (n - 1).toNat = 0 then 1 else 0), cs)) := by
  by_cases q : μ 120 (n - 1).toNat = 0
  · simp (disch := (first | omega | (simp (disch := omega) only [sr_up, wr_up_o]; omega))) only [e179_0, e178_0, e179_43, ks_120, ks_99, rm_worked hρ, isk_t, i20_t, w20_t, l23_t, b21_t, b22_t, w_t, bif_t, bif_f, bif_d, if_pos, if_neg, if_true, if_false, not_true_eq_false, not_false_eq_true, Option.bind_some, Option.toList_some, Option.toList_none, List.cons_append, List.nil_append, Int.toNat_natCast, Int.reduceToNat, up_eq, up_p, up_k, sN,  lc_eq, h36, ks_120 ]
  · simp (disch := (first | omega | (simp (disch := omega) only [sr_up, wr_up_o]; omega))) only [e179_0, e178_0, e179_43, ks_120, ks_99, rm_worked hρ, isk_t, i20_t, w20_t, l23_t, b21_t, b22_t, w_t, bif_t, bif_f, bif_d, if_pos, if_neg, if_true, if_false, not_true_eq_false, not_false_eq_true, Option.bind_some, Option.toList_some, Option.toList_none, List.cons_append, List.nil_append, Int.toNat_natCast, Int.reduceToNat, up_eq, up_p, up_k, sN,  lc_eq, h36, ks_120 ]
theorem R_works2 (hρ : RM ρ) {n s : Int} (h36 : μ 99 36 = n) (hn1 : 2 ≤ n) (hn : n ≤ 64) (hs : s ≠ 260) (hb : ∀ i : Nat, (i : Int) < n → -1000000000000 ≤ μ 120 i ∧ μ 120 i ≤ 1000000000000) : am_E (d + 1) 179 0 [some (.inr (.inr 99)), some (.inl s), none, none, none, none, none, none] [] (SH, ρ, μ, cs) = joinR ρ (am_up μ 99 36 (n - 1)) cs (n - 1) (op2 s (μ 120 (n - 2).toNat) (μ 120 (n - 1).toNat)) := by
  have b1 := hb (n - 1).toNat (by omega)
  have b2 := hb (n - 2).toNat (by omega)
  simp (disch := (first | omega | (simp (disch := omega) only [sr_up, wr_up_o]; omega))) only [e179_0, ks_120, ks_99, rm_worked hρ, isk_t, i20_t, w20_t, l23_t, b21_t, b22_t, w_t, bif_t, bif_f, bif_d, if_pos, if_neg, if_true, if_false, not_true_eq_false, not_false_eq_true, Option.bind_some, Option.toList_some, Option.toList_none, List.cons_append, List.nil_append, Int.toNat_natCast, Int.reduceToNat, up_eq, up_p, up_k, sN,  h36 ]
  exact R_join hρ up_eq (by omega) (by omega) b2.1 b2.2 b1.1 b1.2 s s
end REF
