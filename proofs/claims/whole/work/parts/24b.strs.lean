/-! THE ABSTRACT MACHINE'S RUNS ARE THE REAL ONE'S: String constants, the law's halts -/
def am_pc10 : Bool := (List.range 18).all (fun o => (am_PP.getD o []).all (fun ch => ch.all (fun e => !(Nat.beq e.2.1 10) || ((Nat.beq o 7 && (Nat.beq e.1 19 && Nat.beq e.2.2.1 1000003)) || (Nat.beq o 10 && (Nat.beq e.1 194 && Nat.beq e.2.2.1 1000004))))))
theorem am_pc10_ok : am_pc10 = true := by decide +kernel
theorem am_PP_len : am_PP.length = 18 := rfl
theorem am_pool10 {m idx a b w : Nat} {z : Int} (h : am_pool m idx = some (10, a, b, z, w)) : (am_own m = 7 ∧ idx = 19 ∧ a = 1000003) ∨ (am_own m = 10 ∧ idx = 194 ∧ a = 1000004) := by
  unfold am_pool at h
  have hm := am_find_mem h
  rcases am_getD_mem (l := am_PP.getD (am_own m) []) (i := idx / 16) (d := []) with h1 | h1
  · have ho : am_own m < 18 := by
      rcases Nat.lt_or_ge (am_own m) 18 with q | q
      · exact q
      · exfalso
        rw [List.getD_eq_getElem?_getD (l := am_PP), List.getElem?_eq_none (by rw [am_PP_len]; exact q)] at h1
        exact absurd h1 List.not_mem_nil
    have k0 := am_pc10_ok
    unfold am_pc10 at k0
    have k1 := List.all_eq_true.mp k0 (am_own m) (List.mem_range.mpr ho)
    have k2 := List.all_eq_true.mp (List.all_eq_true.mp k1 _ h1) _ hm
    simp only [Bool.or_eq_true, Bool.and_eq_true] at k2
    rcases k2 with k2 | ⟨k2, k3, k4⟩ | ⟨k2, k3, k4⟩
    · cases k2
    · exact Or.inl ⟨Nat.eq_of_beq_eq_true k2, Nat.eq_of_beq_eq_true k3, Nat.eq_of_beq_eq_true k4⟩
    · exact Or.inr ⟨Nat.eq_of_beq_eq_true k2, Nat.eq_of_beq_eq_true k3, Nat.eq_of_beq_eq_true k4⟩
  · rw [h1] at hm
    exact absurd hm List.not_mem_nil
theorem am_ps_pool {m idx k : Nat} (h : am_ps m idx k = true) : ∃ b z w, am_pool m idx = some (2, k, b, z, w) := by
  unfold am_ps at h
  split at h
  · rename_i e he
    obtain ⟨tag, a, b, z, w⟩ := e
    rw [Bool.and_eq_true] at h
    have h1 : tag = 2 := Nat.eq_of_beq_eq_true h.1
    have h2 : a = k := Nat.eq_of_beq_eq_true h.2
    subst h1
    subst h2
    exact ⟨b, z, w, he⟩
  · cases h
section AMS
variable {l : Launch} {p : Program} {e : Env} {R : Room} {s : State} {mt : MethodId} {args : Array Value} {below : List Frame} {meth : Method} {c : Code} {Q : State → Prop} {D : va_G} {cy : Nat → ClassId} {A : Nat → Prop} {m d c0 s0 : Nat} {r : am_Res} {ad : Nat → Nat} {h : am_H} {H : Heap} {locs : List Loc} {cells slots : Nat} {ls : Array Slot} {lv : am_L} {st : List am_V} {pc n : Nat}
theorem s_ldcS {idx a b w : Nat} {z : Int} (hd : decode (am_M m).2.1 pc = .ok (.ldc idx, 2)) (hp : am_pool m idx = some (10, a, b, z, w)) (ih : am_Sd l n) (X : am_Cx l p e R s mt args below meth c Q D cy A m d c0 s0 r ad h H locs cells slots) (hl : am_lr ad h.1.length ls (am_M m).2.2.1 lv) (hs : am_so h.1.length st) (hx : am_FA (am_x n) d m lv h (am_go (pc + 2) lv (.inr (.inr a) :: st) h) = some r) : am_Wc l p e R s mt args below meth c Q H locs cells slots pc ls (st.map (am_av ad)) := by
  obtain ⟨hex, hcb, hml, hown, hts, -⟩ := id X.1
  obtain ⟨y1, y2, -⟩ := X.2.2.1.2.2.2.2.2.2.2.2.2.2.2
  rcases am_pool10 hp with ⟨h1, h2, h3⟩ | ⟨h1, h2, h3⟩
  · subst h2
    subst h3
    rw [h1] at hown
    exact va_ldcS hex hcb hown y1 hd (s_push ih X hl hs (v := .inr (.inr 1000003)) (Or.inr (by decide)) hx rfl)
  · subst h2
    subst h3
    rw [h1] at hown
    exact va_ldcS hex hcb hown y2 hd (s_push ih X hl hs (v := .inr (.inr 1000004)) (Or.inr (by decide)) hx rfl)
theorem s_iincH {i : Nat} {k : Int} (hd : decode (am_M m).2.1 pc = .ok (.iinc i k, 3)) (ih : am_Sd l n) (X : am_Cx l p e R s mt args below meth c Q D cy A m d c0 s0 r ad h H locs cells slots) (hl : am_lr ad h.1.length ls (am_M m).2.2.1 lv) (hs : am_so h.1.length st) (hx : am_FA (am_x n) d m lv h (bif Nat.beq m 276 && Nat.beq pc 1533 then am_hl lv st h else am_iinc i k 3 pc lv st h) = some r) : am_Wc l p e R s mt args below meth c Q H locs cells slots pc ls (st.map (am_av ad)) := by
  cases hb : (Nat.beq m 276 && Nat.beq pc 1533) with
  | false =>
    rw [hb] at hx
    exact s_iinc hd ih X hl hs hx
  | true =>
    rw [hb] at hx
    rw [Bool.and_eq_true] at hb
    have hm : m = 276 := Nat.eq_of_beq_eq_true hb.1
    have hpc : pc = 1533 := Nat.eq_of_beq_eq_true hb.2
    subst hpc
    have hx : am_FA (am_x n) d m lv h (am_hl lv st h) = some r := hx
    unfold am_hl at hx
    split at hx
    · split at hx
      · rename_i j hj
        obtain rfl := Option.some.inj hx
        exact X.2.2.2.2.2.2.2 hm 1533 ad H locs ls cells slots lv [] j (fun _ _ => rfl) X.2.2.1 X.2.2.2.2.1.1 X.2.2.2.2.1.2 hl hs hj (Or.inl ⟨rfl, rfl, rfl⟩)
      · cases hx
    · cases hx
theorem s_hT (ih : am_Sd l n) (X : am_Cx l p e R s mt args below meth c Q D cy A m d c0 s0 r ad h H locs cells slots) (hl : am_lr ad h.1.length ls (am_M m).2.2.1 lv) (hs : am_so h.1.length st) (hx : am_FA (am_x n) d m lv h (bif Nat.beq m 276 && Nat.beq pc 374 then am_hT lv st h else am_no) = some r) : am_Wc l p e R s mt args below meth c Q H locs cells slots pc ls (st.map (am_av ad)) := by
  cases hb : (Nat.beq m 276 && Nat.beq pc 374) with
  | false =>
    rw [hb] at hx
    cases hx
  | true =>
    rw [hb] at hx
    rw [Bool.and_eq_true] at hb
    have hm : m = 276 := Nat.eq_of_beq_eq_true hb.1
    have hpc : pc = 374 := Nat.eq_of_beq_eq_true hb.2
    subst hpc
    have hx : am_FA (am_x n) d m lv h (am_hT lv st h) = some r := hx
    unfold am_hT at hx
    split at hx
    · rename_i o p1 p0 x hxo
      split at hx
      · rename_i j hj
        have hx : (bif Nat.beq o 141 && (Nat.beq x 0 && decide (p0 = h.2.2.1 1000000 (j.toNat + 1) ∧ p1 = h.2.2.1 1000000 (j.toNat + 2))) then some (some (Sum.inr (Sum.inr (2 * j.toNat + 1))), h) else none) = some r := hx
        cases hg : (Nat.beq o 141 && (Nat.beq x 0 && decide (p0 = h.2.2.1 1000000 (j.toNat + 1) ∧ p1 = h.2.2.1 1000000 (j.toNat + 2)))) with
        | false => rw [hg] at hx; cases hx
        | true =>
          rw [hg] at hx
          obtain rfl := Option.some.inj hx
          rw [Bool.and_eq_true, Bool.and_eq_true, decide_eq_true_eq] at hg
          obtain ⟨g1, g2, g3, g4⟩ := hg
          have g1 := Nat.eq_of_beq_eq_true g1
          have g2 := Nat.eq_of_beq_eq_true g2
          subst g1
          subst g2
          subst g3
          subst g4
          exact X.2.2.2.2.2.2.2 hm 374 ad H locs ls cells slots lv _ j (fun _ _ => rfl) X.2.2.1 X.2.2.2.2.1.1 X.2.2.2.2.1.2 hl hs hj (Or.inr ⟨rfl, rfl, rfl⟩)
      · cases hx
    · cases hx
end AMS
