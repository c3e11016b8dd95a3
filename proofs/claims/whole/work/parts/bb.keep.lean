/-! the script and the two static rows stay as they are -/
def am_kp (h h' : am_H) : Prop := ∀ p j, 1000000 ≤ p → h'.2.2.1 p j = h.2.2.1 p j
theorem am_kp_rf (h : am_H) : am_kp h h := fun _ _ _ => rfl
theorem am_kp_tr {a b c : am_H} (h1 : am_kp a b) (h2 : am_kp b c) : am_kp a c := fun p j hp => (h2 p j hp).trans (h1 p j hp)
def am_kq (h : am_H) (a : am_Act) : Prop := match a with
  | .inl (some r) => am_kp h r.2
  | .inl none => True
  | .inr (.inl n) => am_kp h n.2.2.2
  | .inr (.inr (.inl q)) => (q.1 = true → ∀ x, q.2.1 = some x → am_kp h x.2.2.2) ∧ (q.1 = false → ∀ x, q.2.2 = some x → am_kp h x.2.2.2)
  | .inr (.inr (.inr _)) => True
theorem am_kq_no (h : am_H) : am_kq h am_no := trivial
theorem am_kq_go {h : am_H} {pc : Nat} {lv : am_L} {st : List am_V} {h' : am_H} (g : am_kp h h') : am_kq h (am_go pc lv st h') := g
theorem am_kq_ck {h : am_H} {b : Bool} {pc : Nat} {lv : am_L} {st : List am_V} {h' : am_H} (g : b = true → am_kp h h') : am_kq h (am_ck b pc lv st h') := ⟨fun hb x hx => by cases hx; exact g hb, fun _ x hx => by cases hx⟩
theorem am_kq_br {h : am_H} {b : Bool} {p1 p2 : Nat} {lv : am_L} {st : List am_V} : am_kq h (am_br b p1 p2 lv st h) := ⟨fun _ x hx => by cases hx; exact am_kp_rf _, fun _ x hx => by cases hx; exact am_kp_rf _⟩
theorem am_kq_if {h : am_H} {b : Bool} {x y : am_Act} (hx : am_kq h x) (hy : am_kq h y) : am_kq h (bif b then x else y) := by cases b <;> assumption
theorem am_kq_ret {h : am_H} {b : Bool} {v : Option am_V} : am_kq h (.inl (bif b then some (v, h) else none)) := by
  cases b
  · trivial
  · exact am_kp_rf h
theorem am_kl_hi {h : am_H} {p : Nat} (hp : 1000000 ≤ p) : (am_kl h p).1 = 24 ∨ (am_kl h p).1 = 99 := by
  unfold am_kl am_ks
  have e : Nat.blt p 1000000 = false := by
    cases hb : Nat.blt p 1000000 with
    | false => rfl
    | true => exact absurd (Nat.blt_eq.mp hb) (by omega)
  rw [e]
  show (bif Nat.beq p 1000000 then ((24, h.2.2.2.2.2) : Nat × Nat) else bif Nat.blt p 1000003 then (24, 4) else (99, 0)).1 = 24 ∨ _
  cases Nat.beq p 1000000 with
  | true => exact Or.inl rfl
  | false =>
    cases Nat.blt p 1000003 with
    | true => exact Or.inl rfl
    | false => exact Or.inr rfl
theorem am_kp_wr {h : am_H} {p k : Nat} {z : Int} (hp : p < 1000000) : am_kp h (am_wr h p k z) := fun q j hq => if_neg (fun e => by omega)
theorem am_lo {h : am_H} {p c : Nat} (hc : Nat.beq (am_kl h p).1 c = true) (h1 : c ≠ 24) (h2 : c ≠ 99) : p < 1000000 := by
  rcases Nat.lt_or_ge p 1000000 with q | q
  · exact q
  · have e := Nat.eq_of_beq_eq_true hc
    rcases am_kl_hi (h := h) q with z | z
    · exact absurd (e.symm.trans z) h1
    · exact absurd (e.symm.trans z) h2
theorem am_kq_iast {h : am_H} {pc : Nat} {lv : am_L} {st : List am_V} : am_kq h (am_iast pc lv st h) := by
  unfold am_iast
  split
  · refine am_kq_ck (fun hb => am_kp_wr ?_)
    unfold am_w20 at hb
    rw [Bool.and_eq_true] at hb
    exact am_lo hb.1 (by decide) (by decide)
  · exact am_kq_no h
theorem am_kq_bast {h : am_H} {pc : Nat} {lv : am_L} {st : List am_V} : am_kq h (am_bast pc lv st h) := by
  unfold am_bast
  split
  · refine am_kq_ck (fun hb => am_kp_wr ?_)
    unfold am_b21 at hb
    rw [Bool.and_eq_true, Bool.or_eq_true] at hb
    rcases hb.1 with z | z
    · exact am_lo z (by decide) (by decide)
    · exact am_lo z (by decide) (by decide)
  · exact am_kq_no h
theorem am_kq_last {h : am_H} {pc : Nat} {lv : am_L} {st : List am_V} : am_kq h (am_last pc lv st h) := by
  unfold am_last
  split
  · refine am_kq_ck (fun hb => am_kp_wr ?_)
    unfold am_l23 at hb
    rw [Bool.and_eq_true] at hb
    exact am_lo hb.1 (by decide) (by decide)
  · exact am_kq_no h
theorem am_kq_put {h : am_H} {ci k t pc : Nat} {lv : am_L} {st : List am_V} (hc : ci ≤ 17) : am_kq h (am_put ci k t pc lv st h) := by
  unfold am_put
  split
  · refine am_kq_if (am_kq_ck (fun hb => am_kp_wr (am_lo hb (by omega) (by omega)))) (am_kq_if (am_kq_ck (fun hb => am_kp_wr ?_)) (am_kq_no h))
    rw [Bool.and_eq_true] at hb
    exact am_lo hb.1 (by omega) (by omega)
  · exact am_kq_if (am_kq_ck (fun hb => am_kp_wr (am_lo hb (by omega) (by omega)))) (am_kq_no h)
  · exact am_kq_if (am_kq_ck (fun _ => fun _ _ _ => rfl)) (am_kq_no h)
  · exact am_kq_no h
theorem am_kp_mk {h : am_H} {k n : Nat} (hb : Nat.blt h.1.length 999999 = true) : am_kp h (am_mk h k n) := fun q j hq => if_neg (fun e => by
  have := Nat.blt_eq.mp hb
  omega)
def am_pc1 : Bool := (List.range 18).all (fun o => (am_PP.getD o []).all (fun ch => ch.all (fun e => !(Nat.beq e.2.1 1) || Nat.ble e.2.2.1 17)))
theorem am_pc1_ok : am_pc1 = true := by decide +kernel
theorem am_pool1 {m idx a b w : Nat} {z : Int} (h : am_pool m idx = some (1, a, b, z, w)) : a ≤ 17 := by
  unfold am_pool at h
  have hm := am_find_mem h
  rcases am_getD_mem (l := am_PP.getD (am_own m) []) (i := idx / 16) (d := []) with h1 | h1
  · have ho : am_own m < 18 := by
      rcases Nat.lt_or_ge (am_own m) 18 with q | q
      · exact q
      · exfalso
        rw [List.getD_eq_getElem?_getD (l := am_PP), List.getElem?_eq_none (by rw [am_PP_len]; exact q)] at h1
        exact absurd h1 List.not_mem_nil
    have k0 := am_pc1_ok
    unfold am_pc1 at k0
    have k1 := List.all_eq_true.mp k0 (am_own m) (List.mem_range.mpr ho)
    have k2 := List.all_eq_true.mp (List.all_eq_true.mp k1 _ h1) _ hm
    simp only [Bool.or_eq_true] at k2
    rcases k2 with k2 | k2
    · cases k2
    · exact Nat.le_of_ble_eq_true k2
  · rw [h1] at hm
    exact absurd hm List.not_mem_nil
theorem am_kq_inv {h : am_H} {e : Option (Nat × Nat × Nat × Int × Nat)} {lo hi d pc : Nat} {lv : am_L} {st : List am_V} : am_kq h (am_inv e lo hi d pc lv st h) := by
  unfold am_inv
  split
  · refine am_kq_if (am_kq_if ?_ (am_kq_if ?_ ?_)) (am_kq_no h)
    · unfold am_obj
      split
      · exact am_kq_if (am_kq_ck (fun _ => am_kp_rf h)) (am_kq_no h)
      · exact am_kq_no h
    · unfold am_acp
      split
      · refine am_kq_if (am_kq_ck (fun hb q j hq => if_neg (fun e => ?_))) (am_kq_no h)
        unfold am_cpk at hb
        rw [Bool.and_eq_true, Bool.and_eq_true, Bool.and_eq_true, Bool.and_eq_true] at hb
        have := am_lo hb.1.1.1.1 (by decide) (by decide)
        omega
      · exact am_kq_no h
    · unfold am_call
      exact am_kq_if (am_kq_if trivial (am_kq_no h)) (am_kq_if trivial (am_kq_no h))
  · exact am_kq_no h
theorem am_kq_slen {h : am_H} {d pc : Nat} {lv : am_L} {st : List am_V} : am_kq h (am_slen d pc lv st h) := by
  unfold am_slen
  split
  · exact am_kq_if (am_kq_ck (fun _ => am_kp_rf h)) (am_kq_no h)
  · exact am_kq_no h
theorem am_kq_scat {h : am_H} {d pc : Nat} {lv : am_L} {st : List am_V} : am_kq h (am_scat d pc lv st h) := by
  unfold am_scat
  split
  · exact am_kq_if (am_kq_ck (fun _ => am_kp_rf h)) (am_kq_no h)
  · exact am_kq_no h
theorem am_kq_hl {h : am_H} {lv : am_L} {st : List am_V} : am_kq h (am_hl lv st h) := by
  unfold am_hl
  split
  · split
    · exact am_kp_rf h
    · exact am_kq_no h
  · exact am_kq_no h
theorem am_kq_hT {h : am_H} {lv : am_L} {st : List am_V} : am_kq h (am_hT lv st h) := by
  unfold am_hT
  split
  · split
    · exact am_kq_ret
    · exact am_kq_no h
  · exact am_kq_no h
theorem am_kq_iinc {h : am_H} {i : Nat} {c : Int} {n pc : Nat} {lv : am_L} {st : List am_V} : am_kq h (am_iinc i c n pc lv st h) := by
  unfold am_iinc
  split
  · exact am_kq_go (am_kp_rf h)
  · exact am_kq_no h
theorem am_kq_newa {h : am_H} {a : ArrayType} {pc : Nat} {lv : am_L} {st : List am_V} : am_kq h (am_newa a pc lv st h) := by
  unfold am_newa
  repeat' split
  all_goals first
    | exact am_kq_no h
    | exact am_kq_ck (fun hb => am_kp_mk (by rw [Bool.and_eq_true] at hb; exact hb.2))
theorem am_kq_new {h : am_H} {ci n pc : Nat} {lv : am_L} {st : List am_V} : am_kq h (am_new ci n pc lv st h) := am_kq_ck (fun hb => am_kp_mk hb)
theorem am_kq_act1 (d m pc : Nat) (lv : am_L) (st : List am_V) (h : am_H) (i : Instr) (n : Nat) : am_kq h (am_act1 d m pc lv st h i n) := by
  unfold am_act1
  split
  all_goals first
    | exact am_kq_go (am_kp_rf h)
    | exact am_kq_no h
    | exact am_kq_inv
    | exact am_kq_if am_kq_slen (am_kq_if am_kq_scat am_kq_inv)
    | exact am_kq_if (am_kq_if am_kq_hl am_kq_iinc) (am_kq_no h)
    | exact am_kq_iast
    | exact am_kq_bast
    | exact am_kq_last
    | exact am_kq_newa
    | exact am_kq_new
    | skip
  all_goals try unfold am_iload
  all_goals try unfold am_lload
  all_goals try unfold am_aload
  all_goals try unfold am_istore
  all_goals try unfold am_lstore
  all_goals try unfold am_astore
  all_goals try unfold am_iinc
  all_goals try unfold am_un
  all_goals try unfold am_bin
  all_goals try unfold am_div
  all_goals try unfold am_lun
  all_goals try unfold am_lbin
  all_goals try unfold am_ldiv
  all_goals try unfold am_lcmp
  all_goals try unfold am_i2l
  all_goals try unfold am_l2i
  all_goals try unfold am_if
  all_goals try unfold am_icmp
  all_goals try unfold am_goto
  all_goals try unfold am_tsw
  all_goals try unfold am_lsw
  all_goals try unfold am_dup
  all_goals try unfold am_pop
  all_goals try unfold am_dup2
  all_goals try unfold am_get
  all_goals try unfold am_iald
  all_goals try unfold am_bald
  all_goals try unfold am_lald
  all_goals try unfold am_alen
  all_goals try unfold am_mu1
  all_goals try unfold am_mu2
  all_goals try unfold am_ml1
  all_goals try unfold am_ml2
  all_goals try unfold am_ret
  all_goals try unfold am_lret
  all_goals try unfold am_vret
  all_goals repeat' split
  all_goals first
    | exact am_kq_go (am_kp_rf h)
    | exact am_kq_no h
    | exact am_kq_inv
    | exact am_kq_ck (fun _ => am_kp_rf h)
    | exact am_kq_put (am_pool1 (by assumption))
    | exact am_kq_newa
    | exact am_kq_new
    | exact am_kq_iast
    | exact am_kq_bast
    | exact am_kq_last
    | exact am_kq_br
    | exact am_kq_if am_kq_hT (am_kq_no h)
    | exact am_kq_ret
    | exact am_kp_rf h
    | exact am_kq_if (am_kq_go (am_kp_rf h)) (am_kq_no h)
    | exact am_kq_if (am_kq_no h) (am_kq_no h)
    | exact am_kq_if am_kq_br (am_kq_no h)
    | exact am_kq_if (am_kq_ck (fun _ => am_kp_rf h)) (am_kq_no h)
    | exact am_kq_if (am_kq_ck (fun _ => am_kp_rf h)) (am_kq_if (am_kq_ck (fun _ => am_kp_rf h)) (am_kq_no h))
    | skip
theorem am_kq_act (d m pc : Nat) (lv : am_L) (st : List am_V) (h : am_H) : am_kq h (am_act d m pc lv st h) := by
  unfold am_act
  split
  · exact am_kq_act1 _ _ _ _ _ _ _ _
  · exact am_kq_no h
theorem am_x_keep (n : Nat) : ∀ (d m pc : Nat) (lv : am_L) (st : List am_V) (h : am_H) (r : am_Res), am_x n d m pc lv st h = some r → am_kp h r.2 := by
  induction n with
  | zero => intro d m pc lv st h r hr; cases hr
  | succ n ih =>
    intro d m pc lv st h r hr
    have hg := am_kq_act d m pc lv st h
    have hr : am_F (am_x n) (am_x n) d m pc lv st h = some r := hr
    unfold am_F at hr
    split at hr
    · rename_i r' hr'
      rw [hr', hr] at hg
      exact hg
    · rename_i pc' lv' st' h' hr'
      rw [hr'] at hg
      exact am_kp_tr hg (ih _ _ _ _ _ _ _ hr)
    · rename_i b o1 o2 hr'
      rw [hr'] at hg
      cases b with
      | true =>
        cases o1 with
        | none => cases hr
        | some x => exact am_kp_tr (hg.1 rfl x rfl) (ih _ _ _ _ _ _ _ hr)
      | false =>
        cases o2 with
        | none => cases hr
        | some x => exact am_kp_tr (hg.2 rfl x rfl) (ih _ _ _ _ _ _ _ hr)
    · rename_i b m' a pc' st' hr'
      cases b with
      | false => cases hr
      | true =>
        cases d with
        | zero => cases hr
        | succ d' =>
          obtain ⟨q, hq1, hq2⟩ := Option.bind_eq_some_iff.mp hr
          exact am_kp_tr (ih _ _ _ _ _ _ _ hq1) (ih _ _ _ _ _ _ _ hq2)
/-- a run leaves the script as it is -/
theorem am_E_keep {d m pc : Nat} {lv : am_L} {st : List am_V} {h : am_H} {r : am_Res} (hr : am_E d m pc lv st h = some r) : am_kp h r.2 := by
  obtain ⟨n, hn⟩ := am_E_iff.mp hr
  exact am_x_keep n _ _ _ _ _ _ _ hn
