/-! what was made is never unmade -/
def am_ge (h h' : am_H) : Prop := h.2.2.2.1 ≤ h'.2.2.2.1 ∧ h.2.2.2.2.1 ≤ h'.2.2.2.2.1 ∧ h.1.length ≤ h'.1.length ∧ h'.2.2.2.2.2 = h.2.2.2.2.2
theorem am_ge_rf (h : am_H) : am_ge h h := ⟨Nat.le_refl _, Nat.le_refl _, Nat.le_refl _, rfl⟩
theorem am_ge_tr {a b c : am_H} (h1 : am_ge a b) (h2 : am_ge b c) : am_ge a c := ⟨Nat.le_trans h1.1 h2.1, Nat.le_trans h1.2.1 h2.2.1, Nat.le_trans h1.2.2.1 h2.2.2.1, h2.2.2.2.trans h1.2.2.2⟩
def am_ga (h : am_H) (a : am_Act) : Prop := match a with
  | .inl (some r) => am_ge h r.2
  | .inl none => True
  | .inr (.inl n) => am_ge h n.2.2.2
  | .inr (.inr (.inl q)) => (∀ x, q.2.1 = some x → am_ge h x.2.2.2) ∧ ∀ x, q.2.2 = some x → am_ge h x.2.2.2
  | .inr (.inr (.inr _)) => True
theorem am_ga_no (h : am_H) : am_ga h am_no := trivial
theorem am_ga_go {h : am_H} {pc : Nat} {lv : am_L} {st : List am_V} {h' : am_H} (g : am_ge h h') : am_ga h (am_go pc lv st h') := g
theorem am_ga_ck {h : am_H} {b : Bool} {pc : Nat} {lv : am_L} {st : List am_V} {h' : am_H} (g : am_ge h h') : am_ga h (am_ck b pc lv st h') := ⟨fun x hx => by cases hx; exact g, fun x hx => by cases hx⟩
theorem am_ga_br {h : am_H} {b : Bool} {p1 p2 : Nat} {lv : am_L} {st : List am_V} : am_ga h (am_br b p1 p2 lv st h) := ⟨fun x hx => by cases hx; exact am_ge_rf _, fun x hx => by cases hx; exact am_ge_rf _⟩
theorem am_ga_if {h : am_H} {b : Bool} {x y : am_Act} (hx : am_ga h x) (hy : am_ga h y) : am_ga h (bif b then x else y) := by cases b <;> assumption
theorem am_ge_mk (h : am_H) (k n : Nat) : am_ge h (am_mk h k n) := ⟨Nat.le_succ _, Nat.le_add_right _ _, by show _ ≤ (h.1 ++ [(k, n)]).length; rw [List.length_append]; exact Nat.le_add_right _ _, rfl⟩
theorem am_ga_ret {h : am_H} {b : Bool} {v : Option am_V} : am_ga h (.inl (bif b then some (v, h) else none)) := by
  cases b
  · trivial
  · exact am_ge_rf h
theorem am_ga_inv {h : am_H} {e : Option (Nat × Nat × Nat × Int × Nat)} {lo hi d pc : Nat} {lv : am_L} {st : List am_V} : am_ga h (am_inv e lo hi d pc lv st h) := by
  unfold am_inv
  split
  · refine am_ga_if (am_ga_if ?_ (am_ga_if ?_ ?_)) (am_ga_no h)
    · unfold am_obj
      split
      · exact am_ga_if (am_ga_ck (am_ge_rf h)) (am_ga_no h)
      · exact am_ga_no h
    · unfold am_acp
      split
      · exact am_ga_if (am_ga_ck ⟨Nat.le_refl _, Nat.le_refl _, Nat.le_refl _, rfl⟩) (am_ga_no h)
      · exact am_ga_no h
    · unfold am_call
      exact am_ga_if (am_ga_if trivial (am_ga_no h)) (am_ga_if trivial (am_ga_no h))
  · exact am_ga_no h
theorem am_ga_slen {h : am_H} {d pc : Nat} {lv : am_L} {st : List am_V} : am_ga h (am_slen d pc lv st h) := by
  unfold am_slen
  split
  · exact am_ga_if (am_ga_ck (am_ge_rf h)) (am_ga_no h)
  · exact am_ga_no h
theorem am_ga_scat {h : am_H} {d pc : Nat} {lv : am_L} {st : List am_V} : am_ga h (am_scat d pc lv st h) := by
  unfold am_scat
  split
  · exact am_ga_if (am_ga_ck (am_ge_rf h)) (am_ga_no h)
  · exact am_ga_no h
theorem am_ga_hl {h : am_H} {lv : am_L} {st : List am_V} : am_ga h (am_hl lv st h) := by
  unfold am_hl
  split
  · split
    · exact am_ge_rf h
    · exact am_ga_no h
  · exact am_ga_no h
theorem am_ga_hT {h : am_H} {lv : am_L} {st : List am_V} : am_ga h (am_hT lv st h) := by
  unfold am_hT
  split
  · split
    · exact am_ga_ret
    · exact am_ga_no h
  · exact am_ga_no h
theorem am_ga_iinc {h : am_H} {i : Nat} {c : Int} {n pc : Nat} {lv : am_L} {st : List am_V} : am_ga h (am_iinc i c n pc lv st h) := by
  unfold am_iinc
  split
  · exact am_ga_go (am_ge_rf h)
  · exact am_ga_no h
theorem am_ga_act1 (d m pc : Nat) (lv : am_L) (st : List am_V) (h : am_H) (i : Instr) (n : Nat) : am_ga h (am_act1 d m pc lv st h i n) := by
  unfold am_act1
  split
  all_goals first
    | exact am_ga_go (am_ge_rf h)
    | exact am_ga_no h
    | exact am_ga_inv
    | exact am_ga_if am_ga_slen (am_ga_if am_ga_scat am_ga_inv)
    | exact am_ga_if (am_ga_if am_ga_hl am_ga_iinc) (am_ga_no h)
    | skip
  all_goals try unfold am_iload
  all_goals try unfold am_lload
  all_goals try unfold am_aload
  all_goals try unfold am_istore
  all_goals try unfold am_lstore
  all_goals try unfold am_astore
  all_goals try unfold am_iinc
  all_goals try unfold am_un
  all_goals try unfold am_bin
  all_goals try unfold am_div
  all_goals try unfold am_lun
  all_goals try unfold am_lbin
  all_goals try unfold am_ldiv
  all_goals try unfold am_lcmp
  all_goals try unfold am_i2l
  all_goals try unfold am_l2i
  all_goals try unfold am_if
  all_goals try unfold am_icmp
  all_goals try unfold am_goto
  all_goals try unfold am_tsw
  all_goals try unfold am_lsw
  all_goals try unfold am_dup
  all_goals try unfold am_pop
  all_goals try unfold am_dup2
  all_goals try unfold am_get
  all_goals try unfold am_put
  all_goals try unfold am_iald
  all_goals try unfold am_bald
  all_goals try unfold am_lald
  all_goals try unfold am_iast
  all_goals try unfold am_bast
  all_goals try unfold am_last
  all_goals try unfold am_alen
  all_goals try unfold am_newa
  all_goals try unfold am_new
  all_goals try unfold am_mu1
  all_goals try unfold am_mu2
  all_goals try unfold am_ml1
  all_goals try unfold am_ml2
  all_goals try unfold am_ret
  all_goals try unfold am_lret
  all_goals try unfold am_vret
  all_goals repeat' split
  all_goals first
    | exact am_ga_go (am_ge_rf h)
    | exact am_ga_no h
    | exact am_ga_inv
    | exact am_ga_ck (am_ge_rf h)
    | exact am_ga_ck ⟨Nat.le_refl _, Nat.le_refl _, Nat.le_refl _, rfl⟩
    | exact am_ga_ck (am_ge_mk _ _ _)
    | exact am_ga_br
    | exact am_ga_if am_ga_hT (am_ga_no h)
    | exact am_ga_ret
    | exact am_ge_rf h
    | exact am_ga_if (am_ga_go (am_ge_rf h)) (am_ga_no h)
    | exact am_ga_if (am_ga_no h) (am_ga_no h)
    | exact am_ga_if am_ga_br (am_ga_no h)
    | exact am_ga_if (am_ga_ck (am_ge_rf h)) (am_ga_no h)
    | exact am_ga_if (am_ga_ck ⟨Nat.le_refl _, Nat.le_refl _, Nat.le_refl _, rfl⟩) (am_ga_no h)
    | exact am_ga_if (am_ga_ck ⟨Nat.le_refl _, Nat.le_refl _, Nat.le_refl _, rfl⟩) (am_ga_if (am_ga_ck ⟨Nat.le_refl _, Nat.le_refl _, Nat.le_refl _, rfl⟩) (am_ga_no h))
    | skip
theorem am_ga_act (d m pc : Nat) (lv : am_L) (st : List am_V) (h : am_H) : am_ga h (am_act d m pc lv st h) := by
  unfold am_act
  split
  · exact am_ga_act1 _ _ _ _ _ _ _ _
  · exact am_ga_no h
theorem am_x_grow (n : Nat) : ∀ (d m pc : Nat) (lv : am_L) (st : List am_V) (h : am_H) (r : am_Res), am_x n d m pc lv st h = some r → am_ge h r.2 := by
  induction n with
  | zero => intro d m pc lv st h r hr; cases hr
  | succ n ih =>
    intro d m pc lv st h r hr
    have hg := am_ga_act d m pc lv st h
    have hr : am_F (am_x n) (am_x n) d m pc lv st h = some r := hr
    unfold am_F at hr
    split at hr
    · rename_i r' hr'
      rw [hr', hr] at hg
      exact hg
    · rename_i pc' lv' st' h' hr'
      rw [hr'] at hg
      exact am_ge_tr hg (ih _ _ _ _ _ _ _ hr)
    · rename_i b o1 o2 hr'
      rw [hr'] at hg
      cases b with
      | true =>
        cases o1 with
        | none => cases hr
        | some x => exact am_ge_tr (hg.1 x rfl) (ih _ _ _ _ _ _ _ hr)
      | false =>
        cases o2 with
        | none => cases hr
        | some x => exact am_ge_tr (hg.2 x rfl) (ih _ _ _ _ _ _ _ hr)
    · rename_i b m' a pc' st' hr'
      cases b with
      | false => cases hr
      | true =>
        cases d with
        | zero => cases hr
        | succ d' =>
          obtain ⟨q, hq1, hq2⟩ := Option.bind_eq_some_iff.mp hr
          exact am_ge_tr (ih _ _ _ _ _ _ _ hq1) (ih _ _ _ _ _ _ _ hq2)
