/-! TEXT: the reference's words -/
def cS (k : Nat) : Int := am_sch 1000004 k
def RW : List (Nat × Nat) := [(0, 3), (4, 5), (10, 4), (15, 3), (19, 4), (24, 4), (29, 3), (33, 4), (38, 4), (43, 3), (47, 6), (54, 4), (59, 5), (65, 2), (68, 3), (72, 3), (76, 4), (81, 4), (86, 3), (90, 5), (96, 4), (101, 4), (106, 3)]
def wok (q : Nat × Nat) : Bool := decide (q.2 ≤ 6 ∧ q.1 + q.2 < 110 ∧ cS (q.1 + q.2) = 32) && (List.range q.2).all (fun j => decide (97 ≤ cS (q.1 + j) ∧ cS (q.1 + j) ≤ 122))
def chn : List (Nat × Nat) → Nat → Bool
  | [], o => decide (o = 110)
  | q :: L, o => decide (q.1 = o) && (wok q && chn L (o + q.2 + 1))
theorem rw_ok : chn RW 0 = true := by decide +kernel
def langR : List Int := [437714944, 679786720, 642960384, 773619712, 676737024, 475056128, 202964992, 672541696, 642945024, 404455424, 109099237, 211438592, 556055168, 522190848, 48365568, 486146048, 270158848, 72830976, 516030464, 50383488, 437740544, 687214592, 136085504]
def rmp (k : Int) : Int := if k ≤ 12 then k else if k ≤ 19 then k + 3 else if k = 20 then 15 else if k = 21 then 14 else if k = 22 then 13 else -1
theorem lang_r (z : Int) : fnd (fun i => langR.getD i 0) 0 z 23 0 = rmp (wkd z) := by
  by_cases h : z ∈ lang
  · have : ∀ y ∈ lang, fnd (fun i => langR.getD i 0) 0 y 23 0 = rmp (wkd y) := by decide +kernel
    exact this z h
  · have hl : ∀ i, i < 23 → lang.getD i 0 ≠ z := by
      intro i hi e
      refine h ?_
      rw [← e]
      have : ∀ i, i < 23 → lang.getD i 0 ∈ lang := by decide +kernel
      exact this i hi
    have hr : ∀ i, i < 23 → langR.getD i 0 ≠ z := by
      intro i hi e
      refine h ?_
      rw [← e]
      have : ∀ i, i < 23 → langR.getD i 0 ∈ lang := by decide +kernel
      exact this i hi
    have none : ∀ (f : Nat → Int) (n k : Nat), (∀ j, k ≤ j → j < k + n → f j ≠ z) → fnd f 0 z n k = -1 := by
      intro f n
      induction n with
      | zero => intro k _; rfl
      | succ n ih =>
        intro k hk
        show (if f (0 + k) = z then (k : Int) else fnd f 0 z n (k + 1)) = -1
        rw [Nat.zero_add, if_neg (hk k (by omega) (by omega)), ih (k + 1) (fun j h0 h1 => hk j (by omega) (by omega))]
    rw [none _ 23 0 (fun j _ h1 => hr j (by omega))]
    unfold wkd
    rw [none _ 23 0 (fun j _ h1 => hl j (by omega))]
    decide
def d6 (a b c d e f : Int) : Int := ((((((0 * 32 + a) * 32 + b) * 32 + c) * 32 + d) * 32 + e) * 32 + f)
def dS (o l j : Nat) : Int := if j < l then cS (o + j) - 96 else 0
def cdS (q : Nat × Nat) : Int := d6 (dS q.1 q.2 0) (dS q.1 q.2 1) (dS q.1 q.2 2) (dS q.1 q.2 3) (dS q.1 q.2 4) (dS q.1 q.2 5)
theorem rw_cd : ∀ i, i < 23 → cdS (RW.getD i (0, 0)) = langR.getD i 0 := by decide +kernel
theorem d6_inj {a b c d e f a' b' c' d' e' f' : Int} (h : d6 a b c d e f = d6 a' b' c' d' e' f') (h1 : 0 ≤ a ∧ a < 32) (h2 : 0 ≤ b ∧ b < 32) (h3 : 0 ≤ c ∧ c < 32) (h4 : 0 ≤ d ∧ d < 32) (h5 : 0 ≤ e ∧ e < 32) (h6 : 0 ≤ f ∧ f < 32) (g1 : 0 ≤ a' ∧ a' < 32) (g2 : 0 ≤ b' ∧ b' < 32) (g3 : 0 ≤ c' ∧ c' < 32) (g4 : 0 ≤ d' ∧ d' < 32) (g5 : 0 ≤ e' ∧ e' < 32) (g6 : 0 ≤ f' ∧ f' < 32) : a = a' ∧ b = b' ∧ c = c' ∧ d = d' ∧ e = e' ∧ f = f' := by
  unfold d6 at h
  omega
/-- a word of the text is a word of the language -/
def Mw (b : Nat → Int) (p e : Nat) (q : Nat × Nat) : Prop := e - p = q.2 ∧ ∀ j, j < q.2 → b (p + j) = cS (q.1 + j)
theorem mw_iff {b : Nat → Int} {p e : Nat} {q : Nat × Nat} (hl : ∀ j, p ≤ j → j < e → ltr (b j) = true) (hp : p < e) (h6 : e - p ≤ 6) (hq : wok q = true) : Mw b p e q ↔ wc b p e = cdS q := by
  obtain ⟨o, l⟩ := q
  simp only [wok, Bool.and_eq_true, decide_eq_true_eq, List.all_eq_true, List.mem_range] at hq
  obtain ⟨⟨q1, q2, q3⟩, q4⟩ := hq
  have hd : ∀ j, 0 ≤ dg b p e j ∧ dg b p e j < 32 ∧ (p + j < e → 1 ≤ dg b p e j) := by
    intro j
    unfold dg
    by_cases c : p + j < e
    · rw [if_pos c]
      have := hl (p + j) (by omega) c
      simp only [ltr, decide_eq_true_eq] at this
      omega
    · rw [if_neg c]; omega
  have hs : ∀ j, 0 ≤ dS o l j ∧ dS o l j < 32 ∧ (j < l → 1 ≤ dS o l j) := by
    intro j
    unfold dS
    by_cases c : j < l
    · rw [if_pos c]
      have := q4 j c
      omega
    · rw [if_neg c]; omega
  have ew : wc b p e = d6 (dg b p e 0) (dg b p e 1) (dg b p e 2) (dg b p e 3) (dg b p e 4) (dg b p e 5) := rfl
  constructor
  · rintro ⟨m1, m2⟩
    have e1 : ∀ j, dg b p e j = dS o l j := by
      intro j
      have m1 : e - p = l := m1
      unfold dg dS
      by_cases c : j < l
      · rw [if_pos (by omega), if_pos c, m2 j c]
      · rw [if_neg (by omega), if_neg c]
    rw [ew, e1, e1, e1, e1, e1, e1]
    all_goals rfl
  · intro h
    rw [ew] at h
    obtain ⟨i0, i1, i2, i3, i4, i5⟩ := d6_inj h ⟨(hd 0).1, (hd 0).2.1⟩ ⟨(hd 1).1, (hd 1).2.1⟩ ⟨(hd 2).1, (hd 2).2.1⟩ ⟨(hd 3).1, (hd 3).2.1⟩ ⟨(hd 4).1, (hd 4).2.1⟩ ⟨(hd 5).1, (hd 5).2.1⟩ ⟨(hs 0).1, (hs 0).2.1⟩ ⟨(hs 1).1, (hs 1).2.1⟩ ⟨(hs 2).1, (hs 2).2.1⟩ ⟨(hs 3).1, (hs 3).2.1⟩ ⟨(hs 4).1, (hs 4).2.1⟩ ⟨(hs 5).1, (hs 5).2.1⟩
    have ea : ∀ j, j < 6 → dg b p e j = dS o l j := by
      intro j hj
      rcases (show j = 0 ∨ j = 1 ∨ j = 2 ∨ j = 3 ∨ j = 4 ∨ j = 5 by omega) with rfl | rfl | rfl | rfl | rfl | rfl <;> assumption
    have el : ∀ j, j < 6 → (p + j < e ↔ j < l) := by
      intro j hj
      have h1 := ea j hj
      have h2 := hd j
      have h3 := hs j
      constructor
      · intro c
        rcases Nat.lt_or_ge j l with q | q
        · exact q
        · have : dS o l j = 0 := by unfold dS; rw [if_neg (by omega)]
          have := h2.2.2 c
          omega
      · intro c
        rcases Nat.lt_or_ge (p + j) e with q | q
        · exact q
        · have : dg b p e j = 0 := by unfold dg; rw [if_neg (by omega)]
          have := h3.2.2 c
          omega
    have elen : e - p = l := by
      rcases Nat.lt_trichotomy (e - p) l with c | c | c
      · have := (el (e - p) (by omega)).mpr c
        omega
      · exact c
      · have := (el l (by omega)).mp (by omega)
        omega
    refine ⟨elen, fun j hj => ?_⟩
    have hj : j < l := hj
    have h1 := ea j (by omega)
    unfold dg dS at h1
    rw [if_pos (by omega), if_pos hj] at h1
    show b (p + j) = cS (o + j)
    omega
noncomputable def srch (b : Nat → Int) (p e : Nat) : List (Nat × Nat) → Int → Int
  | [], _ => -1
  | q :: L, i => @ite _ (Mw b p e q) (Classical.propDecidable _) i (srch b p e L (i + 1))
theorem srch_no {b : Nat → Int} {p e : Nat} (h : 6 < e - p) : ∀ (L : List (Nat × Nat)) (o : Nat) (i : Int), chn L o = true → srch b p e L i = -1 := by
  intro L
  induction L with
  | nil => intro o i _; rfl
  | cons q L ih =>
    intro o i hc
    simp only [chn, Bool.and_eq_true] at hc
    have hq := hc.2.1
    simp only [wok, Bool.and_eq_true, decide_eq_true_eq] at hq
    show @ite _ (Mw b p e q) (Classical.propDecidable _) i (srch b p e L (i + 1)) = -1
    rw [if_neg (fun m => by have := m.1; have := hq.1.1; omega)]
    exact ih _ _ hc.2.2
theorem srch_fnd {b : Nat → Int} {p e : Nat} (hl : ∀ j, p ≤ j → j < e → ltr (b j) = true) (hp : p < e) (h6 : e - p ≤ 6) : ∀ (L : List (Nat × Nat)) (o i : Nat), chn L o = true → (∀ j, j < L.length → cdS (L.getD j (0, 0)) = langR.getD (i + j) 0) → srch b p e L i = fnd (fun i => langR.getD i 0) 0 (wc b p e) L.length i := by
  intro L
  induction L with
  | nil => intro o i _ _; rfl
  | cons q L ih =>
    intro o i hc hj
    simp only [chn, Bool.and_eq_true] at hc
    have h0 : cdS q = langR.getD i 0 := hj 0 (by simp)
    have hm := mw_iff (b := b) hl hp h6 hc.2.1
    have e2 : srch b p e L ((i : Int) + 1) = fnd (fun i => langR.getD i 0) 0 (wc b p e) L.length (i + 1) := ih _ (i + 1) hc.2.2 (fun j h => by
      have := hj (j + 1) (by simpa using h)
      rw [show i + 1 + j = i + (j + 1) by omega]
      exact this)
    show @ite _ (Mw b p e q) (Classical.propDecidable _) (i : Int) (srch b p e L (i + 1)) = (if langR.getD (0 + i) 0 = wc b p e then (i : Int) else fnd (fun i => langR.getD i 0) 0 (wc b p e) L.length (i + 1))
    rw [e2, Nat.zero_add]
    by_cases c : langR.getD i 0 = wc b p e
    · rw [if_pos c, if_pos (hm.mpr (by rw [← c, h0]))]
    · rw [if_neg c, if_neg (fun m => c (by rw [hm.mp m, h0]))]
section RTK
variable {ρ : Nat → Nat → Nat} {μ : Nat → Nat → Int} {cs : Nat × Nat × Nat} {d n p e : Nat} {b : Nat → Int}
theorem R_wi (hρ : RM ρ) (hn : n ≤ 700) (hen : e ≤ n) (hpe : p < e) (hl : ∀ j, p ≤ j → j < e → ltr (b j) = true) (hb : ∀ i, i < n → μ 100 i = b i % 256) (h24 : μ 99 24 = (e : Int)) (h25 : μ 99 25 = (p : Int)) {o l : Nat} {N : Int} (hw : wok (o, l) = true) : ∀ (m i : Nat), i + m = l → (p + i ≤ e) → (∀ j, j < i → b (p + j) = cS (o + j)) → (Mw b p e (o, l) ∧ am_E (d + 5) 147 15 [some (.inr (.inr 99)), some (.inl N), some (.inl (o : Int)), some (.inl (i : Int))] [] (SH, ρ, μ, cs) = some (some (.inl N), (SH, ρ, μ, cs))) ∨ (¬ Mw b p e (o, l) ∧ ∃ x : Int, am_E (d + 5) 147 15 [some (.inr (.inr 99)), some (.inl N), some (.inl (o : Int)), some (.inl (i : Int))] [] (SH, ρ, μ, cs) = am_E (d + 5) 147 97 [some (.inr (.inr 99)), some (.inl N), some (.inl (o : Int)), some (.inl x)] [] (SH, ρ, μ, cs)) := by
  simp only [wok, Bool.and_eq_true, decide_eq_true_eq, List.all_eq_true, List.mem_range] at hw
  obtain ⟨⟨q1, q2, q3⟩, q4⟩ := hw
  have hS : am_isS 1000004 = true := rfl
  intro m
  induction m with
  | zero =>
    intro i hi hpi hj
    obtain rfl : i = l := by omega
    have hin : am_in ((o : Int) + (i : Int)) 110 = true := by simp [am_in]; omega
    have hc : am_sch 1000004 ((o : Int) + (i : Int)) = 32 := q3
    by_cases c : p + i = e
    · refine Or.inl ⟨⟨by show e - p = i; omega, hj⟩, ?_⟩
      rw [e147_15]; simp (disch := (first | omega | (simp (disch := omega) only [sr_up, wr_up_o]; omega))) only [ks_100, ks_99, rm_tape hρ, ite_self, Bool.false_eq_true, eq_self, isk_t, i20_t, w20_t, l23_t, b21_t, b22_t, w_t, bif_t, bif_f, bif_d, if_pos, if_neg, if_true, if_false, not_true_eq_false, not_false_eq_true, Option.bind_some, Option.toList_some, Option.toList_none, List.cons_append, List.nil_append, Int.toNat_natCast, Int.reduceToNat, up_eq, up_p, up_k, sN,  h24, h25, hS, hin, hc, Bool.true_and ]
    · refine Or.inr ⟨fun h => by have : e - p = i := h.1; omega, (i : Int), ?_⟩
      rw [e147_15]; simp (disch := (first | omega | (simp (disch := omega) only [sr_up, wr_up_o]; omega))) only [ks_100, ks_99, rm_tape hρ, ite_self, Bool.false_eq_true, eq_self, isk_t, i20_t, w20_t, l23_t, b21_t, b22_t, w_t, bif_t, bif_f, bif_d, if_pos, if_neg, if_true, if_false, not_true_eq_false, not_false_eq_true, Option.bind_some, Option.toList_some, Option.toList_none, List.cons_append, List.nil_append, Int.toNat_natCast, Int.reduceToNat, up_eq, up_p, up_k, sN,  h24, h25, hS, hin, hc, Bool.true_and ]
  | succ m ih =>
    intro i hi hpi hj
    have hin : am_in ((o : Int) + (i : Int)) 110 = true := by simp [am_in]; omega
    have hr := q4 i (by omega)
    have hc : am_sch 1000004 ((o : Int) + (i : Int)) = cS (o + i) := rfl
    generalize hg : cS (o + i) = z at hr hc
    by_cases c : p + i < e
    · have hbk := hb (p + i) (by omega)
      have hlk := hl (p + i) (by omega) c
      simp only [ltr, decide_eq_true_eq] at hlk
      have ebk : b (p + i) % 256 = b (p + i) := by omega
      rw [ebk] at hbk
      have et : ((p : Int) + (i : Int)).toNat = p + i := by omega
      by_cases c2 : b (p + i) = z
      · have h := ih (i + 1) (by omega) (by omega) (fun j h1 => by
          rcases Nat.lt_or_ge j i with q | q
          · exact hj j q
          · rw [show j = i by omega, c2, hg])
        rw [show ((i + 1 : Nat) : Int) = (i : Int) + 1 by omega] at h
        have e1 : am_E (d + 5) 147 15 [some (.inr (.inr 99)), some (.inl N), some (.inl (o : Int)), some (.inl (i : Int))] [] (SH, ρ, μ, cs) = am_E (d + 5) 147 15 [some (.inr (.inr 99)), some (.inl N), some (.inl (o : Int)), some (.inl ((i : Int) + 1))] [] (SH, ρ, μ, cs) := by
          rw [e147_15]; simp (disch := (first | omega | (simp (disch := omega) only [sr_up, wr_up_o]; omega))) only [ks_100, ks_99, rm_tape hρ, ite_self, Bool.false_eq_true, eq_self, isk_t, i20_t, w20_t, l23_t, b21_t, b22_t, w_t, bif_t, bif_f, bif_d, if_pos, if_neg, if_true, if_false, not_true_eq_false, not_false_eq_true, Option.bind_some, Option.toList_some, Option.toList_none, List.cons_append, List.nil_append, Int.toNat_natCast, Int.reduceToNat, up_eq, up_p, up_k, sN,  h24, h25, hS, hin, hc, Bool.true_and, et, hbk, c2 ]
        rw [e1]
        exact h
      · refine Or.inr ⟨fun h => c2 (by rw [h.2 i (by show i < l; omega), hg]), (i : Int), ?_⟩
        rw [e147_15]; simp (disch := (first | omega | (simp (disch := omega) only [sr_up, wr_up_o]; omega))) only [ks_100, ks_99, rm_tape hρ, ite_self, Bool.false_eq_true, eq_self, isk_t, i20_t, w20_t, l23_t, b21_t, b22_t, w_t, bif_t, bif_f, bif_d, if_pos, if_neg, if_true, if_false, not_true_eq_false, not_false_eq_true, Option.bind_some, Option.toList_some, Option.toList_none, List.cons_append, List.nil_append, Int.toNat_natCast, Int.reduceToNat, up_eq, up_p, up_k, sN,  h24, h25, hS, hin, hc, Bool.true_and, et, hbk, c2 ]
    · refine Or.inr ⟨fun h => by have : e - p = l := h.1; omega, (i : Int), ?_⟩
      rw [e147_15]; simp (disch := (first | omega | (simp (disch := omega) only [sr_up, wr_up_o]; omega))) only [ks_100, ks_99, rm_tape hρ, ite_self, Bool.false_eq_true, eq_self, isk_t, i20_t, w20_t, l23_t, b21_t, b22_t, w_t, bif_t, bif_f, bif_d, if_pos, if_neg, if_true, if_false, not_true_eq_false, not_false_eq_true, Option.bind_some, Option.toList_some, Option.toList_none, List.cons_append, List.nil_append, Int.toNat_natCast, Int.reduceToNat, up_eq, up_p, up_k, sN,  h24, h25, hS, hin, hc, Bool.true_and ]
theorem R_wj {o l : Nat} {N x : Int} (hN : 0 ≤ N) (hN1 : N < 1000) (hw : wok (o, l) = true) : ∀ (m j : Nat), j + m = l → am_E (d + 5) 147 97 [some (.inr (.inr 99)), some (.inl N), some (.inl ((o + j : Nat) : Int)), some (.inl x)] [] (SH, ρ, μ, cs) = am_E (d + 5) 147 4 [some (.inr (.inr 99)), some (.inl (N + 1)), some (.inl ((o : Int) + l + 1)), some (.inl x)] [] (SH, ρ, μ, cs) := by
  simp only [wok, Bool.and_eq_true, decide_eq_true_eq, List.all_eq_true, List.mem_range] at hw
  obtain ⟨⟨q1, q2, q3⟩, q4⟩ := hw
  have hS : am_isS 1000004 = true := rfl
  intro m
  induction m with
  | zero =>
    intro j hj
    obtain rfl : j = l := by omega
    have hin : am_in ((o + j : Nat) : Int) 110 = true := by simp [am_in]; omega
    have hc : am_sch 1000004 ((o + j : Nat) : Int) = 32 := q3
    rw [show (o : Int) + j + 1 = ((o + j : Nat) : Int) + 1 by omega]
    rw [e147_97]; simp (disch := (first | omega | (simp (disch := omega) only [sr_up, wr_up_o]; omega))) only [ks_99, ite_self, Bool.false_eq_true, eq_self, isk_t, i20_t, w20_t, l23_t, b21_t, b22_t, w_t, bif_t, bif_f, bif_d, if_pos, if_neg, if_true, if_false, not_true_eq_false, not_false_eq_true, Option.bind_some, Option.toList_some, Option.toList_none, List.cons_append, List.nil_append, Int.toNat_natCast, Int.reduceToNat, up_eq, up_p, up_k, sN,  hS, hin, hc, Bool.true_and ]
  | succ m ih =>
    intro j hj
    have hin : am_in ((o + j : Nat) : Int) 110 = true := by simp [am_in]; omega
    have hr := q4 j (by omega)
    have hc : am_sch 1000004 ((o + j : Nat) : Int) = cS (o + j) := rfl
    generalize hg : cS (o + j) = z at hr hc
    have h := ih (j + 1) (by omega)
    rw [show ((o + (j + 1) : Nat) : Int) = ((o + j : Nat) : Int) + 1 by omega] at h
    rw [← h]
    rw [e147_97]; simp (disch := (first | omega | (simp (disch := omega) only [sr_up, wr_up_o]; omega))) only [ks_99, ite_self, Bool.false_eq_true, eq_self, isk_t, i20_t, w20_t, l23_t, b21_t, b22_t, w_t, bif_t, bif_f, bif_d, if_pos, if_neg, if_true, if_false, not_true_eq_false, not_false_eq_true, Option.bind_some, Option.toList_some, Option.toList_none, List.cons_append, List.nil_append, Int.toNat_natCast, Int.reduceToNat, up_eq, up_p, up_k, sN,  hS, hin, hc, Bool.true_and ]
theorem R_ws (hρ : RM ρ) (hn : n ≤ 700) (hen : e ≤ n) (hpe : p < e) (hl : ∀ j, p ≤ j → j < e → ltr (b j) = true) (hb : ∀ i, i < n → μ 100 i = b i % 256) (h24 : μ 99 24 = (e : Int)) (h25 : μ 99 25 = (p : Int)) : ∀ (L : List (Nat × Nat)) (o : Nat) (N : Int), 0 ≤ N → N + L.length < 1000 → o ≤ 110 → chn L o = true → am_E (d + 5) 147 4 [some (.inr (.inr 99)), some (.inl N), some (.inl (o : Int)), none] [] (SH, ρ, μ, cs) = some (some (.inl (srch b p e L N)), (SH, ρ, μ, cs)) := by
  have hS : am_isS 1000004 = true := rfl
  intro L
  induction L with
  | nil =>
    intro o N _ _ _ hc
    simp only [chn, decide_eq_true_eq] at hc
    subst hc
    rw [e147_4]; simp (disch := (first | omega | (simp (disch := omega) only [sr_up, wr_up_o]; omega))) only [ks_99, ite_self, Bool.false_eq_true, eq_self, isk_t, i20_t, w20_t, l23_t, b21_t, b22_t, w_t, bif_t, bif_f, bif_d, if_pos, if_neg, if_true, if_false, not_true_eq_false, not_false_eq_true, Option.bind_some, Option.toList_some, Option.toList_none, List.cons_append, List.nil_append, Int.toNat_natCast, Int.reduceToNat, up_eq, up_p, up_k, sN,  hS ]
    all_goals rfl
  | cons q L ih =>
    intro o N hN hN1 ho hc
    obtain ⟨o', l⟩ := q
    simp only [chn, Bool.and_eq_true, decide_eq_true_eq] at hc
    obtain ⟨rfl, hw, hc⟩ := hc
    have hw2 := hw
    simp only [wok, Bool.and_eq_true, decide_eq_true_eq] at hw2
    simp only [List.length_cons] at hN1
    have e4 : am_E (d + 5) 147 4 [some (.inr (.inr 99)), some (.inl N), some (.inl (o' : Int)), none] [] (SH, ρ, μ, cs) = am_E (d + 5) 147 15 [some (.inr (.inr 99)), some (.inl N), some (.inl (o' : Int)), some (.inl ((0 : Nat) : Int))] [] (SH, ρ, μ, cs) := by
      rw [e147_4]; simp (disch := (first | omega | (simp (disch := omega) only [sr_up, wr_up_o]; omega))) only [ks_99, ite_self, Bool.false_eq_true, eq_self, isk_t, i20_t, w20_t, l23_t, b21_t, b22_t, w_t, bif_t, bif_f, bif_d, if_pos, if_neg, if_true, if_false, not_true_eq_false, not_false_eq_true, Option.bind_some, Option.toList_some, Option.toList_none, List.cons_append, List.nil_append, Int.toNat_natCast, Int.reduceToNat, up_eq, up_p, up_k, sN,  hS ]
      all_goals rfl
    rw [e4]
    show _ = some (some (Sum.inl (@ite _ (Mw b p e (o', l)) (Classical.propDecidable _) N (srch b p e L (N + 1)))), _)
    rcases R_wi (d := d) (cs := cs) (N := N) hρ hn hen hpe hl hb h24 h25 hw l 0 (by omega) (by omega) (fun j h => by omega) with ⟨h1, h2⟩ | ⟨h1, x, h2⟩
    · rw [if_pos h1, h2]
    · rw [if_neg h1, h2]
      have h3 := R_wj (ρ := ρ) (μ := μ) (cs := cs) (d := d) (x := x) hN (by omega) hw l 0 (by omega)
      have h3 : am_E (d + 5) 147 97 [some (.inr (.inr 99)), some (.inl N), some (.inl (o' : Int)), some (.inl x)] [] (SH, ρ, μ, cs) = am_E (d + 5) 147 4 [some (.inr (.inr 99)), some (.inl (N + 1)), some (.inl ((o' : Int) + l + 1)), some (.inl x)] [] (SH, ρ, μ, cs) := h3
      rw [h3]
      have h4 := ih (o' + l + 1) (N + 1) (by omega) (by omega) (by omega) hc
      rw [show ((o' + l + 1 : Nat) : Int) = (o' : Int) + l + 1 by omega] at h4
      exact am_E_le (am_lq_of _ _ (by simp [am_leb])) h4
/-- word() -/
theorem R_word (hρ : RM ρ) (hn : n ≤ 700) (hen : e ≤ n) (hpe : p < e) (hl : ∀ j, p ≤ j → j < e → ltr (b j) = true) (hb : ∀ i, i < n → μ 100 i = b i % 256) (h24 : μ 99 24 = (e : Int)) (h25 : μ 99 25 = (p : Int)) : am_E (d + 5) 147 0 [some (.inr (.inr 99)), none, none, none] [] (SH, ρ, μ, cs) = some (some (.inl (if 6 < e - p then -1 else rmp (wkd (wc b p e)))), (SH, ρ, μ, cs)) := by
  have h := R_ws (d := d) (cs := cs) hρ hn hen hpe hl hb h24 h25 RW 0 0 (by omega) (by decide) (by omega) rw_ok
  have e0 : am_E (d + 5) 147 0 [some (.inr (.inr 99)), none, none, none] [] (SH, ρ, μ, cs) = am_E (d + 5) 147 4 [some (.inr (.inr 99)), some (.inl 0), some (.inl ((0 : Nat) : Int)), none] [] (SH, ρ, μ, cs) := by
    simp (disch := (first | omega | (simp (disch := omega) only [sr_up, wr_up_o]; omega))) only [e147_0, ks_99, ite_self, Bool.false_eq_true, eq_self, isk_t, i20_t, w20_t, l23_t, b21_t, b22_t, w_t, bif_t, bif_f, bif_d, if_pos, if_neg, if_true, if_false, not_true_eq_false, not_false_eq_true, Option.bind_some, Option.toList_some, Option.toList_none, List.cons_append, List.nil_append, Int.toNat_natCast, Int.reduceToNat, up_eq, up_p, up_k, sN]
    all_goals rfl
  rw [e0, h]
  by_cases c : 6 < e - p
  · rw [if_pos c, srch_no c RW 0 0 rw_ok]
  · rw [if_neg c]
    have h2 := srch_fnd hl hpe (by omega) RW 0 0 rw_ok (fun j hj => by rw [Nat.zero_add]; exact rw_cd j hj)
    have h2 : srch b p e RW 0 = fnd (fun i => langR.getD i 0) 0 (wc b p e) 23 0 := h2
    rw [h2, lang_r]
end RTK
