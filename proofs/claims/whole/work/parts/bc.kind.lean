/-! what kind of value a method comes to -/
def am_vkd (m : Nat) (v : Option am_V) : Prop := ((am_M m).2.2.2.1 = some .int ∨ (am_M m).2.2.2.1 = some .boolean → ∃ z, v = some (.inl z)) ∧ ((am_M m).2.2.2.1 = some .long → ∃ z, v = some (.inr (.inl z)))
def am_rI (m : Nat) (a : am_Act) : Prop := match a with
  | .inl (some r) => am_vkd m r.1
  | _ => True
section RI
variable {m d pc lo hi : Nat} {lv : am_L} {st : List am_V} {h : am_H}
theorem rI_no : am_rI m am_no := trivial
theorem rI_go {h' : am_H} : am_rI m (am_go pc lv st h') := trivial
theorem rI_ck {b : Bool} {h' : am_H} : am_rI m (am_ck b pc lv st h') := trivial
theorem rI_br {b : Bool} {p1 p2 : Nat} : am_rI m (am_br b p1 p2 lv st h) := trivial
theorem rI_if {b : Bool} {x y : am_Act} (hx : am_rI m x) (hy : am_rI m y) : am_rI m (bif b then x else y) := by cases b <;> assumption
theorem rI_inv {e : Option (Nat × Nat × Nat × Int × Nat)} : am_rI m (am_inv e lo hi d pc lv st h) := by
  unfold am_inv
  split
  · refine rI_if (rI_if ?_ (rI_if ?_ ?_)) rI_no
    · unfold am_obj
      split
      · exact rI_if rI_ck rI_no
      · exact rI_no
    · unfold am_acp
      split
      · exact rI_if rI_ck rI_no
      · exact rI_no
    · unfold am_call
      exact rI_if (rI_if trivial rI_no) (rI_if trivial rI_no)
  · exact rI_no
theorem rI_slen : am_rI m (am_slen d pc lv st h) := by
  unfold am_slen
  split
  · exact rI_if rI_ck rI_no
  · exact rI_no
theorem rI_scat : am_rI m (am_scat d pc lv st h) := by
  unfold am_scat
  split
  · exact rI_if rI_ck rI_no
  · exact rI_no
theorem rI_iinc {i : Nat} {c : Int} {n : Nat} : am_rI m (am_iinc i c n pc lv st h) := by
  unfold am_iinc
  split
  · exact rI_go
  · exact rI_no
theorem rI_b {b : Bool} {z : Int} (hl : (am_M m).2.2.2.1 ≠ some .long) : am_rI m (.inl (bif b then some (some (.inl z), h) else none)) := by
  cases b with
  | true => exact ⟨fun _ => ⟨_, rfl⟩, fun e => absurd e hl⟩
  | false => trivial
theorem rI_ret : am_rI m (am_ret m st h) := by
  unfold am_ret
  split
  · split
    · rename_i hm
      exact ⟨fun _ => ⟨_, rfl⟩, fun e => by rw [hm] at e; cases e⟩
    · rename_i hm
      exact rI_b (fun e => by rw [hm] at e; cases e)
    · rename_i hm
      exact rI_b (fun e => by rw [hm] at e; cases e)
    · rename_i hm
      exact rI_b (fun e => by rw [hm] at e; cases e)
    · exact rI_no
  · exact rI_no
theorem rI_lret : am_rI m (am_lret m st h) := by
  unfold am_lret
  split
  · split
    · rename_i z hm
      exact ⟨fun e => (by rw [hm] at e; rcases e with e | e <;> cases e), fun _ => ⟨_, rfl⟩⟩
    · exact rI_no
  · exact rI_no
theorem rI_vret : am_rI m (am_vret m st h) := by
  unfold am_vret
  split
  · split
    · rename_i hm
      exact ⟨fun e => (by rw [hm] at e; rcases e with e | e <;> cases e), fun e => by rw [hm] at e; cases e⟩
    · exact rI_no
  · exact rI_no
theorem rI_n {x : am_Act} (hm : m ≠ 276) {y : am_Act} {pp : Nat} (hy : am_rI m y) : am_rI m (bif Nat.beq m 276 && Nat.beq pc pp then x else y) := by
  have e : Nat.beq m 276 = false := by
    cases hb : Nat.beq m 276 with
    | false => rfl
    | true => exact absurd (Nat.eq_of_beq_eq_true hb) hm
  rw [e]
  exact hy
theorem rI_act1 (hm : m ≠ 276) (i : Instr) (n : Nat) : am_rI m (am_act1 d m pc lv st h i n) := by
  unfold am_act1
  split
  all_goals first
    | exact rI_go
    | exact rI_no
    | exact rI_inv
    | exact rI_if rI_slen (rI_if rI_scat rI_inv)
    | exact rI_if (rI_n hm rI_iinc) rI_no
    | exact rI_ret
    | exact rI_lret
    | exact rI_vret
    | skip
  all_goals try unfold am_iload
  all_goals try unfold am_lload
  all_goals try unfold am_aload
  all_goals try unfold am_istore
  all_goals try unfold am_lstore
  all_goals try unfold am_astore
  all_goals try unfold am_iinc
  all_goals try unfold am_un
  all_goals try unfold am_bin
  all_goals try unfold am_div
  all_goals try unfold am_lun
  all_goals try unfold am_lbin
  all_goals try unfold am_ldiv
  all_goals try unfold am_lcmp
  all_goals try unfold am_i2l
  all_goals try unfold am_l2i
  all_goals try unfold am_if
  all_goals try unfold am_icmp
  all_goals try unfold am_goto
  all_goals try unfold am_tsw
  all_goals try unfold am_lsw
  all_goals try unfold am_dup
  all_goals try unfold am_pop
  all_goals try unfold am_dup2
  all_goals try unfold am_get
  all_goals try unfold am_put
  all_goals try unfold am_iald
  all_goals try unfold am_bald
  all_goals try unfold am_lald
  all_goals try unfold am_iast
  all_goals try unfold am_bast
  all_goals try unfold am_last
  all_goals try unfold am_alen
  all_goals try unfold am_newa
  all_goals try unfold am_new
  all_goals try unfold am_mu1
  all_goals try unfold am_mu2
  all_goals try unfold am_ml1
  all_goals try unfold am_ml2
  all_goals repeat' split
  all_goals first
    | exact rI_go
    | exact rI_no
    | exact rI_inv
    | exact rI_ck
    | exact rI_br
    | exact rI_n hm rI_no
    | exact rI_if (rI_n hm rI_no) rI_no
    | exact rI_if rI_go rI_no
    | exact rI_if rI_no rI_no
    | exact rI_if rI_br rI_no
    | exact rI_if rI_ck rI_no
    | exact rI_if rI_ck (rI_if rI_ck rI_no)
    | skip
theorem rI_act (hm : m ≠ 276) : am_rI m (am_act d m pc lv st h) := by
  unfold am_act
  split
  · exact rI_act1 hm _ _
  · exact rI_no
end RI
theorem am_x_rk (n : Nat) : ∀ (d m pc : Nat) (lv : am_L) (st : List am_V) (h : am_H) (r : am_Res), m ≠ 276 → am_x n d m pc lv st h = some r → am_vkd m r.1 := by
  induction n with
  | zero => intro d m pc lv st h r _ hr; cases hr
  | succ n ih =>
    intro d m pc lv st h r hm hr
    have hg := rI_act (d := d) (pc := pc) (lv := lv) (st := st) (h := h) hm
    have hr : am_F (am_x n) (am_x n) d m pc lv st h = some r := hr
    unfold am_F at hr
    split at hr
    · rename_i r' hr'
      rw [hr', hr] at hg
      exact hg
    · exact ih _ _ _ _ _ _ _ hm hr
    · rename_i b o1 o2 hr'
      cases b with
      | true =>
        cases o1 with
        | none => cases hr
        | some x => exact ih _ _ _ _ _ _ _ hm hr
      | false =>
        cases o2 with
        | none => cases hr
        | some x => exact ih _ _ _ _ _ _ _ hm hr
    · rename_i b m' a pc' st' hr'
      cases b with
      | false => cases hr
      | true =>
        cases d with
        | zero => cases hr
        | succ d' =>
          obtain ⟨q, hq1, hq2⟩ := Option.bind_eq_some_iff.mp hr
          exact ih _ _ _ _ _ _ _ hm hq2
theorem am_E_rk {d m pc : Nat} {lv : am_L} {st : List am_V} {h : am_H} {r : am_Res} (hm : m ≠ 276) (hr : am_E d m pc lv st h = some r) : am_vkd m r.1 := by
  obtain ⟨n, hn⟩ := am_E_iff.mp hr
  exact am_x_rk n _ _ _ _ _ _ _ hm hn
