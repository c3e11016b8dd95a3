theorem n_go {d m pc q : Nat} {lv lv' : am_L} {st st' : List am_V} {h h' : am_H} {X : Option am_Res} (hc : am_act d m pc lv st h = am_go q lv' st' h') (k : am_E d m q lv' st' h' = X) : am_E d m pc lv st h = X := by
  rw [am_E_fix]
  unfold am_F
  rw [hc]
  exact k
theorem n_ck {d m pc q : Nat} {b : Bool} {lv lv' : am_L} {st st' : List am_V} {h h' : am_H} {X : Option am_Res} (hc : am_act d m pc lv st h = am_ck b q lv' st' h') (k : am_E d m q lv' st' h' = X) : am_E d m pc lv st h = cond b X none := by
  rw [am_E_fix]
  unfold am_F
  rw [hc, ← k]
  rfl
theorem n_br {d m pc q1 q2 : Nat} {b : Bool} {lv lv' : am_L} {st st' : List am_V} {h h' : am_H} {X Y : Option am_Res} (hc : am_act d m pc lv st h = am_br b q1 q2 lv' st' h') (k1 : am_E d m q1 lv' st' h' = X) (k2 : am_E d m q2 lv' st' h' = Y) : am_E d m pc lv st h = cond b X Y := by
  rw [am_E_fix]
  unfold am_F
  rw [hc, ← k1, ← k2]
  rfl
theorem n_act {d m pc : Nat} {lv : am_L} {st : List am_V} {h : am_H} {i : Instr} {n : Nat} (hc : am_code m pc = some (i, n)) : am_act d m pc lv st h = am_act1 d m pc lv st h i n := by
  unfold am_act
  rw [hc]
theorem n_iconst {d m pc q : Nat} {lv : am_L} {st : List am_V} {sh : List (Nat × Nat)} {ρ : Nat → Nat → Nat} {μ : Nat → Nat → Int} {cs : Nat × Nat × Nat} {X : Option am_Res} {z : Int} (hc : am_code m pc = some (.iconst z, 1)) (hq : pc + 1 = q) (k : am_E d m q lv (.inl z :: st) (sh, ρ, μ, cs) = X) : am_E d m pc lv st (sh, ρ, μ, cs) = X := by
  subst hq
  exact n_go ((n_act hc).trans (rfl)) k
theorem n_bipush {d m pc q : Nat} {lv : am_L} {st : List am_V} {sh : List (Nat × Nat)} {ρ : Nat → Nat → Nat} {μ : Nat → Nat → Int} {cs : Nat × Nat × Nat} {X : Option am_Res} {z : Int} (hc : am_code m pc = some (.bipush z, 2)) (hq : pc + 2 = q) (k : am_E d m q lv (.inl z :: st) (sh, ρ, μ, cs) = X) : am_E d m pc lv st (sh, ρ, μ, cs) = X := by
  subst hq
  exact n_go ((n_act hc).trans (rfl)) k
theorem n_sipush {d m pc q : Nat} {lv : am_L} {st : List am_V} {sh : List (Nat × Nat)} {ρ : Nat → Nat → Nat} {μ : Nat → Nat → Int} {cs : Nat × Nat × Nat} {X : Option am_Res} {z : Int} (hc : am_code m pc = some (.sipush z, 3)) (hq : pc + 3 = q) (k : am_E d m q lv (.inl z :: st) (sh, ρ, μ, cs) = X) : am_E d m pc lv st (sh, ρ, μ, cs) = X := by
  subst hq
  exact n_go ((n_act hc).trans (rfl)) k
theorem n_lconst {d m pc q : Nat} {lv : am_L} {st : List am_V} {sh : List (Nat × Nat)} {ρ : Nat → Nat → Nat} {μ : Nat → Nat → Int} {cs : Nat × Nat × Nat} {X : Option am_Res} {f : Fin 2} {z : Int} (hc : am_code m pc = some (.lconst f, 1)) (hq : pc + 1 = q) (hz : ((f : Nat) : Int) = z) (k : am_E d m q lv (.inr (.inl z) :: st) (sh, ρ, μ, cs) = X) : am_E d m pc lv st (sh, ρ, μ, cs) = X := by
  subst hq
  subst hz
  exact n_go ((n_act hc).trans rfl) k
theorem n_ldc {d m pc q : Nat} {lv : am_L} {st : List am_V} {sh : List (Nat × Nat)} {ρ : Nat → Nat → Nat} {μ : Nat → Nat → Int} {cs : Nat × Nat × Nat} {X : Option am_Res} {i a b w : Nat} {z : Int} (hc : am_code m pc = some (.ldc i, 2)) (hq : pc + 2 = q) (hp : am_pool m i = some (8, a, b, z, w)) (k : am_E d m q lv (.inl z :: st) (sh, ρ, μ, cs) = X) : am_E d m pc lv st (sh, ρ, μ, cs) = X := by
  subst hq
  refine n_go ((n_act hc).trans ?_) k
  show (match am_pool m i with
    | some (8, _, _, z, _) => am_go (pc + 2) lv (.inl z :: st) (sh, ρ, μ, cs)
    | some (10, a, _, _, _) => am_go (pc + 2) lv (.inr (.inr a) :: st) (sh, ρ, μ, cs)
    | _ => am_no) = _
  rw [hp]
  rfl
theorem n_ldc_w {d m pc q : Nat} {lv : am_L} {st : List am_V} {sh : List (Nat × Nat)} {ρ : Nat → Nat → Nat} {μ : Nat → Nat → Int} {cs : Nat × Nat × Nat} {X : Option am_Res} {i a b w : Nat} {z : Int} (hc : am_code m pc = some (.ldc_w i, 3)) (hq : pc + 3 = q) (hp : am_pool m i = some (8, a, b, z, w)) (k : am_E d m q lv (.inl z :: st) (sh, ρ, μ, cs) = X) : am_E d m pc lv st (sh, ρ, μ, cs) = X := by
  subst hq
  refine n_go ((n_act hc).trans ?_) k
  show (match am_pool m i with
    | some (8, _, _, z, _) => am_go (pc + 3) lv (.inl z :: st) (sh, ρ, μ, cs)
    | _ => am_no) = _
  rw [hp]
  rfl
theorem n_ldc2_w {d m pc q : Nat} {lv : am_L} {st : List am_V} {sh : List (Nat × Nat)} {ρ : Nat → Nat → Nat} {μ : Nat → Nat → Int} {cs : Nat × Nat × Nat} {X : Option am_Res} {i a b w : Nat} {z : Int} (hc : am_code m pc = some (.ldc2_w i, 3)) (hq : pc + 3 = q) (hp : am_pool m i = some (9, a, b, z, w)) (k : am_E d m q lv (.inr (.inl z) :: st) (sh, ρ, μ, cs) = X) : am_E d m pc lv st (sh, ρ, μ, cs) = X := by
  subst hq
  refine n_go ((n_act hc).trans ?_) k
  show (match am_pool m i with
    | some (9, _, _, z, _) => am_go (pc + 3) lv (.inr (.inl z) :: st) (sh, ρ, μ, cs)
    | _ => am_no) = _
  rw [hp]
  rfl
theorem n_ldcS {d m pc q : Nat} {lv : am_L} {st : List am_V} {sh : List (Nat × Nat)} {ρ : Nat → Nat → Nat} {μ : Nat → Nat → Int} {cs : Nat × Nat × Nat} {X : Option am_Res} {i a b w : Nat} {z : Int} (hc : am_code m pc = some (.ldc i, 2)) (hq : pc + 2 = q) (hp : am_pool m i = some (10, a, b, z, w)) (k : am_E d m q lv (.inr (.inr a) :: st) (sh, ρ, μ, cs) = X) : am_E d m pc lv st (sh, ρ, μ, cs) = X := by
  subst hq
  refine n_go ((n_act hc).trans ?_) k
  unfold am_act1
  dsimp only
  rw [hp]
  rfl
theorem n_slen {d m pc q : Nat} {lv : am_L} {st : List am_V} {sh : List (Nat × Nat)} {ρ : Nat → Nat → Nat} {μ : Nat → Nat → Int} {cs : Nat × Nat × Nat} {X : Option am_Res} {i p : Nat} (hc : am_code m pc = some (.invokevirtual i, 3)) (hq : pc + 3 = q) (hp : am_ps m i 264 = true) (hr : am_rm st = true) (k : am_E (d + 5) m q lv (.inl 110 :: st) (sh, ρ, μ, cs) = X) : am_E (d + 5) m pc lv (.inr (.inr p) :: st) (sh, ρ, μ, cs) = cond (am_isS p) X none := by
  subst hq
  refine n_ck ((n_act hc).trans ?_) k
  show (bif am_ps m i 264 then _ else _) = _
  rw [hp]
  show (bif true && am_rm st then _ else am_no) = _
  rw [hr]
  rfl
theorem n_scat {d m pc q : Nat} {lv : am_L} {st : List am_V} {sh : List (Nat × Nat)} {ρ : Nat → Nat → Nat} {μ : Nat → Nat → Int} {cs : Nat × Nat × Nat} {X : Option am_Res} {i p : Nat} {x : Int} (hc : am_code m pc = some (.invokevirtual i, 3)) (hq : pc + 3 = q) (hp : am_ps m i 264 = false) (hp2 : am_ps m i 265 = true) (hr : am_rm st = true) (k : am_E (d + 5) m q lv (.inl (am_sch p x) :: st) (sh, ρ, μ, cs) = X) : am_E (d + 5) m pc lv (.inl x :: .inr (.inr p) :: st) (sh, ρ, μ, cs) = cond (am_isS p && am_in x 110) X none := by
  subst hq
  refine n_ck ((n_act hc).trans ?_) k
  show (bif am_ps m i 264 then _ else bif am_ps m i 265 then _ else _) = _
  rw [hp, hp2]
  show (bif true && am_rm st then _ else am_no) = _
  rw [hr]
  rfl
theorem n_iload {d m pc q : Nat} {lv : am_L} {st : List am_V} {sh : List (Nat × Nat)} {ρ : Nat → Nat → Nat} {μ : Nat → Nat → Int} {cs : Nat × Nat × Nat} {X : Option am_Res} {i : Nat} {z : Int} (hc : am_code m pc = some (.iload i, 2)) (hq : pc + 2 = q) (hl : lv.getD i none = some (.inl z)) (k : am_E d m q lv (.inl z :: st) (sh, ρ, μ, cs) = X) : am_E d m pc lv st (sh, ρ, μ, cs) = X := by
  subst hq
  refine n_go ((n_act hc).trans ?_) k
  show am_iload i 2 pc lv st _ = _
  unfold am_iload
  rw [hl]
theorem n_iload_n {d m pc q : Nat} {lv : am_L} {st : List am_V} {sh : List (Nat × Nat)} {ρ : Nat → Nat → Nat} {μ : Nat → Nat → Int} {cs : Nat × Nat × Nat} {X : Option am_Res} {i : Fin 4} {z : Int} (hc : am_code m pc = some (.iload_n i, 1)) (hq : pc + 1 = q) (hl : lv.getD i none = some (.inl z)) (k : am_E d m q lv (.inl z :: st) (sh, ρ, μ, cs) = X) : am_E d m pc lv st (sh, ρ, μ, cs) = X := by
  subst hq
  refine n_go ((n_act hc).trans ?_) k
  show am_iload i 1 pc lv st _ = _
  unfold am_iload
  rw [hl]
theorem n_lload {d m pc q : Nat} {lv : am_L} {st : List am_V} {sh : List (Nat × Nat)} {ρ : Nat → Nat → Nat} {μ : Nat → Nat → Int} {cs : Nat × Nat × Nat} {X : Option am_Res} {i : Nat} {z : Int} (hc : am_code m pc = some (.lload i, 2)) (hq : pc + 2 = q) (hl : lv.getD i none = some (.inr (.inl z))) (k : am_E d m q lv (.inr (.inl z) :: st) (sh, ρ, μ, cs) = X) : am_E d m pc lv st (sh, ρ, μ, cs) = X := by
  subst hq
  refine n_go ((n_act hc).trans ?_) k
  show am_lload i 2 pc lv st _ = _
  unfold am_lload
  rw [hl]
theorem n_lload_n {d m pc q : Nat} {lv : am_L} {st : List am_V} {sh : List (Nat × Nat)} {ρ : Nat → Nat → Nat} {μ : Nat → Nat → Int} {cs : Nat × Nat × Nat} {X : Option am_Res} {i : Fin 4} {z : Int} (hc : am_code m pc = some (.lload_n i, 1)) (hq : pc + 1 = q) (hl : lv.getD i none = some (.inr (.inl z))) (k : am_E d m q lv (.inr (.inl z) :: st) (sh, ρ, μ, cs) = X) : am_E d m pc lv st (sh, ρ, μ, cs) = X := by
  subst hq
  refine n_go ((n_act hc).trans ?_) k
  show am_lload i 1 pc lv st _ = _
  unfold am_lload
  rw [hl]
theorem n_aload {d m pc q : Nat} {lv : am_L} {st : List am_V} {sh : List (Nat × Nat)} {ρ : Nat → Nat → Nat} {μ : Nat → Nat → Int} {cs : Nat × Nat × Nat} {X : Option am_Res} {i : Nat} {z : Nat} (hc : am_code m pc = some (.aload i, 2)) (hq : pc + 2 = q) (hl : lv.getD i none = some (.inr (.inr z))) (k : am_E d m q lv (.inr (.inr z) :: st) (sh, ρ, μ, cs) = X) : am_E d m pc lv st (sh, ρ, μ, cs) = X := by
  subst hq
  refine n_go ((n_act hc).trans ?_) k
  show am_aload i 2 pc lv st _ = _
  unfold am_aload
  rw [hl]
theorem n_aload_n {d m pc q : Nat} {lv : am_L} {st : List am_V} {sh : List (Nat × Nat)} {ρ : Nat → Nat → Nat} {μ : Nat → Nat → Int} {cs : Nat × Nat × Nat} {X : Option am_Res} {i : Fin 4} {z : Nat} (hc : am_code m pc = some (.aload_n i, 1)) (hq : pc + 1 = q) (hl : lv.getD i none = some (.inr (.inr z))) (k : am_E d m q lv (.inr (.inr z) :: st) (sh, ρ, μ, cs) = X) : am_E d m pc lv st (sh, ρ, μ, cs) = X := by
  subst hq
  refine n_go ((n_act hc).trans ?_) k
  show am_aload i 1 pc lv st _ = _
  unfold am_aload
  rw [hl]
theorem n_istore {d m pc q : Nat} {lv : am_L} {st : List am_V} {sh : List (Nat × Nat)} {ρ : Nat → Nat → Nat} {μ : Nat → Nat → Int} {cs : Nat × Nat × Nat} {X : Option am_Res} {i : Nat} {z : Int} {lv' : am_L} (hc : am_code m pc = some (.istore i, 2)) (hq : pc + 2 = q) (hb : Nat.blt i lv.length = true) (hl : am_set lv i (.inl z) = lv') (k : am_E d m q lv' st (sh, ρ, μ, cs) = X) : am_E d m pc lv (.inl z :: st) (sh, ρ, μ, cs) = X := by
  subst hq
  subst hl
  refine n_go ((n_act hc).trans ?_) k
  show (bif Nat.blt i lv.length then am_go (pc + 2) (am_set lv i (.inl z)) st _ else am_no) = _
  rw [hb]
  rfl
theorem n_istore_n {d m pc q : Nat} {lv : am_L} {st : List am_V} {sh : List (Nat × Nat)} {ρ : Nat → Nat → Nat} {μ : Nat → Nat → Int} {cs : Nat × Nat × Nat} {X : Option am_Res} {i : Fin 4} {z : Int} {lv' : am_L} (hc : am_code m pc = some (.istore_n i, 1)) (hq : pc + 1 = q) (hb : Nat.blt (i : Nat) lv.length = true) (hl : am_set lv (i : Nat) (.inl z) = lv') (k : am_E d m q lv' st (sh, ρ, μ, cs) = X) : am_E d m pc lv (.inl z :: st) (sh, ρ, μ, cs) = X := by
  subst hq
  subst hl
  refine n_go ((n_act hc).trans ?_) k
  show (bif Nat.blt (i : Nat) lv.length then am_go (pc + 1) (am_set lv (i : Nat) (.inl z)) st _ else am_no) = _
  rw [hb]
  rfl
theorem n_lstore {d m pc q : Nat} {lv : am_L} {st : List am_V} {sh : List (Nat × Nat)} {ρ : Nat → Nat → Nat} {μ : Nat → Nat → Int} {cs : Nat × Nat × Nat} {X : Option am_Res} {i : Nat} {z : Int} {lv' : am_L} (hc : am_code m pc = some (.lstore i, 2)) (hq : pc + 2 = q) (hb : Nat.blt (i + 1) lv.length = true) (hl : am_set2 lv i (.inr (.inl z)) = lv') (k : am_E d m q lv' st (sh, ρ, μ, cs) = X) : am_E d m pc lv (.inr (.inl z) :: st) (sh, ρ, μ, cs) = X := by
  subst hq
  subst hl
  refine n_go ((n_act hc).trans ?_) k
  show (bif Nat.blt (i + 1) lv.length then am_go (pc + 2) (am_set2 lv i (.inr (.inl z))) st _ else am_no) = _
  rw [hb]
  rfl
theorem n_lstore_n {d m pc q : Nat} {lv : am_L} {st : List am_V} {sh : List (Nat × Nat)} {ρ : Nat → Nat → Nat} {μ : Nat → Nat → Int} {cs : Nat × Nat × Nat} {X : Option am_Res} {i : Fin 4} {z : Int} {lv' : am_L} (hc : am_code m pc = some (.lstore_n i, 1)) (hq : pc + 1 = q) (hb : Nat.blt ((i : Nat) + 1) lv.length = true) (hl : am_set2 lv (i : Nat) (.inr (.inl z)) = lv') (k : am_E d m q lv' st (sh, ρ, μ, cs) = X) : am_E d m pc lv (.inr (.inl z) :: st) (sh, ρ, μ, cs) = X := by
  subst hq
  subst hl
  refine n_go ((n_act hc).trans ?_) k
  show (bif Nat.blt ((i : Nat) + 1) lv.length then am_go (pc + 1) (am_set2 lv (i : Nat) (.inr (.inl z))) st _ else am_no) = _
  rw [hb]
  rfl
theorem n_astore {d m pc q : Nat} {lv : am_L} {st : List am_V} {sh : List (Nat × Nat)} {ρ : Nat → Nat → Nat} {μ : Nat → Nat → Int} {cs : Nat × Nat × Nat} {X : Option am_Res} {i : Nat} {z : Nat} {lv' : am_L} (hc : am_code m pc = some (.astore i, 2)) (hq : pc + 2 = q) (hb : Nat.blt i lv.length = true) (hl : am_set lv i (.inr (.inr z)) = lv') (k : am_E d m q lv' st (sh, ρ, μ, cs) = X) : am_E d m pc lv (.inr (.inr z) :: st) (sh, ρ, μ, cs) = X := by
  subst hq
  subst hl
  refine n_go ((n_act hc).trans ?_) k
  show (bif Nat.blt i lv.length then am_go (pc + 2) (am_set lv i (.inr (.inr z))) st _ else am_no) = _
  rw [hb]
  rfl
theorem n_astore_n {d m pc q : Nat} {lv : am_L} {st : List am_V} {sh : List (Nat × Nat)} {ρ : Nat → Nat → Nat} {μ : Nat → Nat → Int} {cs : Nat × Nat × Nat} {X : Option am_Res} {i : Fin 4} {z : Nat} {lv' : am_L} (hc : am_code m pc = some (.astore_n i, 1)) (hq : pc + 1 = q) (hb : Nat.blt (i : Nat) lv.length = true) (hl : am_set lv (i : Nat) (.inr (.inr z)) = lv') (k : am_E d m q lv' st (sh, ρ, μ, cs) = X) : am_E d m pc lv (.inr (.inr z) :: st) (sh, ρ, μ, cs) = X := by
  subst hq
  subst hl
  refine n_go ((n_act hc).trans ?_) k
  show (bif Nat.blt (i : Nat) lv.length then am_go (pc + 1) (am_set lv (i : Nat) (.inr (.inr z))) st _ else am_no) = _
  rw [hb]
  rfl
theorem n_iinc {d m pc q : Nat} {lv : am_L} {st : List am_V} {sh : List (Nat × Nat)} {ρ : Nat → Nat → Nat} {μ : Nat → Nat → Int} {cs : Nat × Nat × Nat} {X : Option am_Res} {i : Nat} {c z : Int} {lv' : am_L} (hc : am_code m pc = some (.iinc i c, 3)) (hq : pc + 3 = q) (hz : (Nat.beq m 276 && Nat.beq pc 1533) = false) (hg : lv.getD i none = some (.inl z)) (hl : am_set lv i (.inl (am_w (z + c))) = lv') (k : am_E d m q lv' st (sh, ρ, μ, cs) = X) : am_E d m pc lv st (sh, ρ, μ, cs) = X := by
  subst hq
  subst hl
  refine n_go ((n_act hc).trans ?_) k
  show (bif (Nat.beq m 276 && Nat.beq pc 1533) then _ else am_iinc i c 3 pc lv st _) = _
  rw [hz]
  show am_iinc i c 3 pc lv st _ = _
  unfold am_iinc
  rw [hg]
theorem n_iadd {d m pc q : Nat} {lv : am_L} {st : List am_V} {sh : List (Nat × Nat)} {ρ : Nat → Nat → Nat} {μ : Nat → Nat → Int} {cs : Nat × Nat × Nat} {X : Option am_Res} {x y : Int} (hc : am_code m pc = some (.iadd, 1)) (hq : pc + 1 = q) (k : am_E d m q lv (.inl (am_w (x + y)) :: st) (sh, ρ, μ, cs) = X) : am_E d m pc lv (.inl y :: .inl x :: st) (sh, ρ, μ, cs) = X := by
  subst hq
  exact n_go ((n_act hc).trans (rfl)) k
theorem n_isub {d m pc q : Nat} {lv : am_L} {st : List am_V} {sh : List (Nat × Nat)} {ρ : Nat → Nat → Nat} {μ : Nat → Nat → Int} {cs : Nat × Nat × Nat} {X : Option am_Res} {x y : Int} (hc : am_code m pc = some (.isub, 1)) (hq : pc + 1 = q) (k : am_E d m q lv (.inl (am_w (x - y)) :: st) (sh, ρ, μ, cs) = X) : am_E d m pc lv (.inl y :: .inl x :: st) (sh, ρ, μ, cs) = X := by
  subst hq
  exact n_go ((n_act hc).trans (rfl)) k
theorem n_imul {d m pc q : Nat} {lv : am_L} {st : List am_V} {sh : List (Nat × Nat)} {ρ : Nat → Nat → Nat} {μ : Nat → Nat → Int} {cs : Nat × Nat × Nat} {X : Option am_Res} {x y : Int} (hc : am_code m pc = some (.imul, 1)) (hq : pc + 1 = q) (k : am_E d m q lv (.inl (am_w (x * y)) :: st) (sh, ρ, μ, cs) = X) : am_E d m pc lv (.inl y :: .inl x :: st) (sh, ρ, μ, cs) = X := by
  subst hq
  exact n_go ((n_act hc).trans (rfl)) k
theorem n_iand {d m pc q : Nat} {lv : am_L} {st : List am_V} {sh : List (Nat × Nat)} {ρ : Nat → Nat → Nat} {μ : Nat → Nat → Int} {cs : Nat × Nat × Nat} {X : Option am_Res} {x y : Int} (hc : am_code m pc = some (.iand, 1)) (hq : pc + 1 = q) (k : am_E d m q lv (.inl (am_and x y) :: st) (sh, ρ, μ, cs) = X) : am_E d m pc lv (.inl y :: .inl x :: st) (sh, ρ, μ, cs) = X := by
  subst hq
  exact n_go ((n_act hc).trans (rfl)) k
theorem n_ior {d m pc q : Nat} {lv : am_L} {st : List am_V} {sh : List (Nat × Nat)} {ρ : Nat → Nat → Nat} {μ : Nat → Nat → Int} {cs : Nat × Nat × Nat} {X : Option am_Res} {x y : Int} (hc : am_code m pc = some (.ior, 1)) (hq : pc + 1 = q) (k : am_E d m q lv (.inl (am_or x y) :: st) (sh, ρ, μ, cs) = X) : am_E d m pc lv (.inl y :: .inl x :: st) (sh, ρ, μ, cs) = X := by
  subst hq
  exact n_go ((n_act hc).trans (rfl)) k
theorem n_ixor {d m pc q : Nat} {lv : am_L} {st : List am_V} {sh : List (Nat × Nat)} {ρ : Nat → Nat → Nat} {μ : Nat → Nat → Int} {cs : Nat × Nat × Nat} {X : Option am_Res} {x y : Int} (hc : am_code m pc = some (.ixor, 1)) (hq : pc + 1 = q) (k : am_E d m q lv (.inl (am_xor x y) :: st) (sh, ρ, μ, cs) = X) : am_E d m pc lv (.inl y :: .inl x :: st) (sh, ρ, μ, cs) = X := by
  subst hq
  exact n_go ((n_act hc).trans (rfl)) k
theorem n_ishl {d m pc q : Nat} {lv : am_L} {st : List am_V} {sh : List (Nat × Nat)} {ρ : Nat → Nat → Nat} {μ : Nat → Nat → Int} {cs : Nat × Nat × Nat} {X : Option am_Res} {x y : Int} (hc : am_code m pc = some (.ishl, 1)) (hq : pc + 1 = q) (k : am_E d m q lv (.inl (am_shl x y) :: st) (sh, ρ, μ, cs) = X) : am_E d m pc lv (.inl y :: .inl x :: st) (sh, ρ, μ, cs) = X := by
  subst hq
  exact n_go ((n_act hc).trans (rfl)) k
theorem n_ishr {d m pc q : Nat} {lv : am_L} {st : List am_V} {sh : List (Nat × Nat)} {ρ : Nat → Nat → Nat} {μ : Nat → Nat → Int} {cs : Nat × Nat × Nat} {X : Option am_Res} {x y : Int} (hc : am_code m pc = some (.ishr, 1)) (hq : pc + 1 = q) (k : am_E d m q lv (.inl (am_shr x y) :: st) (sh, ρ, μ, cs) = X) : am_E d m pc lv (.inl y :: .inl x :: st) (sh, ρ, μ, cs) = X := by
  subst hq
  exact n_go ((n_act hc).trans (rfl)) k
theorem n_iushr {d m pc q : Nat} {lv : am_L} {st : List am_V} {sh : List (Nat × Nat)} {ρ : Nat → Nat → Nat} {μ : Nat → Nat → Int} {cs : Nat × Nat × Nat} {X : Option am_Res} {x y : Int} (hc : am_code m pc = some (.iushr, 1)) (hq : pc + 1 = q) (k : am_E d m q lv (.inl (am_ushr x y) :: st) (sh, ρ, μ, cs) = X) : am_E d m pc lv (.inl y :: .inl x :: st) (sh, ρ, μ, cs) = X := by
  subst hq
  exact n_go ((n_act hc).trans (rfl)) k
theorem n_ladd {d m pc q : Nat} {lv : am_L} {st : List am_V} {sh : List (Nat × Nat)} {ρ : Nat → Nat → Nat} {μ : Nat → Nat → Int} {cs : Nat × Nat × Nat} {X : Option am_Res} {x y : Int} (hc : am_code m pc = some (.ladd, 1)) (hq : pc + 1 = q) (k : am_E d m q lv (.inr (.inl (am_w64 (x + y))) :: st) (sh, ρ, μ, cs) = X) : am_E d m pc lv (.inr (.inl y) :: .inr (.inl x) :: st) (sh, ρ, μ, cs) = X := by
  subst hq
  exact n_go ((n_act hc).trans (rfl)) k
theorem n_lsub {d m pc q : Nat} {lv : am_L} {st : List am_V} {sh : List (Nat × Nat)} {ρ : Nat → Nat → Nat} {μ : Nat → Nat → Int} {cs : Nat × Nat × Nat} {X : Option am_Res} {x y : Int} (hc : am_code m pc = some (.lsub, 1)) (hq : pc + 1 = q) (k : am_E d m q lv (.inr (.inl (am_w64 (x - y))) :: st) (sh, ρ, μ, cs) = X) : am_E d m pc lv (.inr (.inl y) :: .inr (.inl x) :: st) (sh, ρ, μ, cs) = X := by
  subst hq
  exact n_go ((n_act hc).trans (rfl)) k
theorem n_lmul {d m pc q : Nat} {lv : am_L} {st : List am_V} {sh : List (Nat × Nat)} {ρ : Nat → Nat → Nat} {μ : Nat → Nat → Int} {cs : Nat × Nat × Nat} {X : Option am_Res} {x y : Int} (hc : am_code m pc = some (.lmul, 1)) (hq : pc + 1 = q) (k : am_E d m q lv (.inr (.inl (am_w64 (x * y))) :: st) (sh, ρ, μ, cs) = X) : am_E d m pc lv (.inr (.inl y) :: .inr (.inl x) :: st) (sh, ρ, μ, cs) = X := by
  subst hq
  exact n_go ((n_act hc).trans (rfl)) k
theorem n_land {d m pc q : Nat} {lv : am_L} {st : List am_V} {sh : List (Nat × Nat)} {ρ : Nat → Nat → Nat} {μ : Nat → Nat → Int} {cs : Nat × Nat × Nat} {X : Option am_Res} {x y : Int} (hc : am_code m pc = some (.land, 1)) (hq : pc + 1 = q) (k : am_E d m q lv (.inr (.inl (am_land x y)) :: st) (sh, ρ, μ, cs) = X) : am_E d m pc lv (.inr (.inl y) :: .inr (.inl x) :: st) (sh, ρ, μ, cs) = X := by
  subst hq
  exact n_go ((n_act hc).trans (rfl)) k
theorem n_ineg {d m pc q : Nat} {lv : am_L} {st : List am_V} {sh : List (Nat × Nat)} {ρ : Nat → Nat → Nat} {μ : Nat → Nat → Int} {cs : Nat × Nat × Nat} {X : Option am_Res} {x : Int} (hc : am_code m pc = some (.ineg, 1)) (hq : pc + 1 = q) (k : am_E d m q lv (.inl (am_w (-x)) :: st) (sh, ρ, μ, cs) = X) : am_E d m pc lv (.inl x :: st) (sh, ρ, μ, cs) = X := by
  subst hq
  exact n_go ((n_act hc).trans (rfl)) k
theorem n_i2b {d m pc q : Nat} {lv : am_L} {st : List am_V} {sh : List (Nat × Nat)} {ρ : Nat → Nat → Nat} {μ : Nat → Nat → Int} {cs : Nat × Nat × Nat} {X : Option am_Res} {x : Int} (hc : am_code m pc = some (.i2b, 1)) (hq : pc + 1 = q) (k : am_E d m q lv (.inl (am_b x) :: st) (sh, ρ, μ, cs) = X) : am_E d m pc lv (.inl x :: st) (sh, ρ, μ, cs) = X := by
  subst hq
  exact n_go ((n_act hc).trans (rfl)) k
theorem n_i2c {d m pc q : Nat} {lv : am_L} {st : List am_V} {sh : List (Nat × Nat)} {ρ : Nat → Nat → Nat} {μ : Nat → Nat → Int} {cs : Nat × Nat × Nat} {X : Option am_Res} {x : Int} (hc : am_code m pc = some (.i2c, 1)) (hq : pc + 1 = q) (k : am_E d m q lv (.inl (am_ch x) :: st) (sh, ρ, μ, cs) = X) : am_E d m pc lv (.inl x :: st) (sh, ρ, μ, cs) = X := by
  subst hq
  exact n_go ((n_act hc).trans (rfl)) k
theorem n_lneg {d m pc q : Nat} {lv : am_L} {st : List am_V} {sh : List (Nat × Nat)} {ρ : Nat → Nat → Nat} {μ : Nat → Nat → Int} {cs : Nat × Nat × Nat} {X : Option am_Res} {x : Int} (hc : am_code m pc = some (.lneg, 1)) (hq : pc + 1 = q) (k : am_E d m q lv (.inr (.inl (am_w64 (-x))) :: st) (sh, ρ, μ, cs) = X) : am_E d m pc lv (.inr (.inl x) :: st) (sh, ρ, μ, cs) = X := by
  subst hq
  exact n_go ((n_act hc).trans (rfl)) k
theorem n_lcmp {d m pc q : Nat} {lv : am_L} {st : List am_V} {sh : List (Nat × Nat)} {ρ : Nat → Nat → Nat} {μ : Nat → Nat → Int} {cs : Nat × Nat × Nat} {X : Option am_Res} {x y : Int} (hc : am_code m pc = some (.lcmp, 1)) (hq : pc + 1 = q) (k : am_E d m q lv (.inl (am_lc x y) :: st) (sh, ρ, μ, cs) = X) : am_E d m pc lv (.inr (.inl y) :: .inr (.inl x) :: st) (sh, ρ, μ, cs) = X := by
  subst hq
  exact n_go ((n_act hc).trans (rfl)) k
theorem n_i2l {d m pc q : Nat} {lv : am_L} {st : List am_V} {sh : List (Nat × Nat)} {ρ : Nat → Nat → Nat} {μ : Nat → Nat → Int} {cs : Nat × Nat × Nat} {X : Option am_Res} {x : Int} (hc : am_code m pc = some (.i2l, 1)) (hq : pc + 1 = q) (k : am_E d m q lv (.inr (.inl x) :: st) (sh, ρ, μ, cs) = X) : am_E d m pc lv (.inl x :: st) (sh, ρ, μ, cs) = X := by
  subst hq
  exact n_go ((n_act hc).trans (rfl)) k
theorem n_l2i {d m pc q : Nat} {lv : am_L} {st : List am_V} {sh : List (Nat × Nat)} {ρ : Nat → Nat → Nat} {μ : Nat → Nat → Int} {cs : Nat × Nat × Nat} {X : Option am_Res} {x : Int} (hc : am_code m pc = some (.l2i, 1)) (hq : pc + 1 = q) (k : am_E d m q lv (.inl (am_w x) :: st) (sh, ρ, μ, cs) = X) : am_E d m pc lv (.inr (.inl x) :: st) (sh, ρ, μ, cs) = X := by
  subst hq
  exact n_go ((n_act hc).trans (rfl)) k
theorem n_dupI {d m pc q : Nat} {lv : am_L} {st : List am_V} {sh : List (Nat × Nat)} {ρ : Nat → Nat → Nat} {μ : Nat → Nat → Int} {cs : Nat × Nat × Nat} {X : Option am_Res} {x : Int} (hc : am_code m pc = some (.dup, 1)) (hq : pc + 1 = q) (k : am_E d m q lv (.inl x :: .inl x :: st) (sh, ρ, μ, cs) = X) : am_E d m pc lv (.inl x :: st) (sh, ρ, μ, cs) = X := by
  subst hq
  exact n_go ((n_act hc).trans (rfl)) k
theorem n_dupR {d m pc q : Nat} {lv : am_L} {st : List am_V} {sh : List (Nat × Nat)} {ρ : Nat → Nat → Nat} {μ : Nat → Nat → Int} {cs : Nat × Nat × Nat} {X : Option am_Res} {x : Nat} (hc : am_code m pc = some (.dup, 1)) (hq : pc + 1 = q) (k : am_E d m q lv (.inr (.inr x) :: .inr (.inr x) :: st) (sh, ρ, μ, cs) = X) : am_E d m pc lv (.inr (.inr x) :: st) (sh, ρ, μ, cs) = X := by
  subst hq
  exact n_go ((n_act hc).trans (rfl)) k
theorem n_popI {d m pc q : Nat} {lv : am_L} {st : List am_V} {sh : List (Nat × Nat)} {ρ : Nat → Nat → Nat} {μ : Nat → Nat → Int} {cs : Nat × Nat × Nat} {X : Option am_Res} {x : Int} (hc : am_code m pc = some (.pop, 1)) (hq : pc + 1 = q) (k : am_E d m q lv st (sh, ρ, μ, cs) = X) : am_E d m pc lv (.inl x :: st) (sh, ρ, μ, cs) = X := by
  subst hq
  exact n_go ((n_act hc).trans (rfl)) k
theorem n_popR {d m pc q : Nat} {lv : am_L} {st : List am_V} {sh : List (Nat × Nat)} {ρ : Nat → Nat → Nat} {μ : Nat → Nat → Int} {cs : Nat × Nat × Nat} {X : Option am_Res} {x : Nat} (hc : am_code m pc = some (.pop, 1)) (hq : pc + 1 = q) (k : am_E d m q lv st (sh, ρ, μ, cs) = X) : am_E d m pc lv (.inr (.inr x) :: st) (sh, ρ, μ, cs) = X := by
  subst hq
  exact n_go ((n_act hc).trans (rfl)) k
theorem n_dup2 {d m pc q : Nat} {lv : am_L} {st : List am_V} {sh : List (Nat × Nat)} {ρ : Nat → Nat → Nat} {μ : Nat → Nat → Int} {cs : Nat × Nat × Nat} {X : Option am_Res} {y : Int} {x : Nat} (hc : am_code m pc = some (.dup2, 1)) (hq : pc + 1 = q) (k : am_E d m q lv (.inl y :: .inr (.inr x) :: .inl y :: .inr (.inr x) :: st) (sh, ρ, μ, cs) = X) : am_E d m pc lv (.inl y :: .inr (.inr x) :: st) (sh, ρ, μ, cs) = X := by
  subst hq
  exact n_go ((n_act hc).trans (rfl)) k
theorem n_idiv {d m pc q : Nat} {lv : am_L} {st : List am_V} {sh : List (Nat × Nat)} {ρ : Nat → Nat → Nat} {μ : Nat → Nat → Int} {cs : Nat × Nat × Nat} {X : Option am_Res} {x y : Int} (hc : am_code m pc = some (.idiv, 1)) (hq : pc + 1 = q) (k : am_E d m q lv (.inl (am_w (Int.tdiv x y)) :: st) (sh, ρ, μ, cs) = X) : am_E d m pc lv (.inl y :: .inl x :: st) (sh, ρ, μ, cs) = cond (decide (y ≠ 0)) X none := by
  subst hq
  exact n_ck ((n_act hc).trans rfl) k
theorem n_irem {d m pc q : Nat} {lv : am_L} {st : List am_V} {sh : List (Nat × Nat)} {ρ : Nat → Nat → Nat} {μ : Nat → Nat → Int} {cs : Nat × Nat × Nat} {X : Option am_Res} {x y : Int} (hc : am_code m pc = some (.irem, 1)) (hq : pc + 1 = q) (k : am_E d m q lv (.inl (Int.tmod x y) :: st) (sh, ρ, μ, cs) = X) : am_E d m pc lv (.inl y :: .inl x :: st) (sh, ρ, μ, cs) = cond (decide (y ≠ 0)) X none := by
  subst hq
  exact n_ck ((n_act hc).trans rfl) k
theorem n_ldiv {d m pc q : Nat} {lv : am_L} {st : List am_V} {sh : List (Nat × Nat)} {ρ : Nat → Nat → Nat} {μ : Nat → Nat → Int} {cs : Nat × Nat × Nat} {X : Option am_Res} {x y : Int} (hc : am_code m pc = some (.ldiv, 1)) (hq : pc + 1 = q) (k : am_E d m q lv (.inr (.inl (am_w64 (Int.tdiv x y))) :: st) (sh, ρ, μ, cs) = X) : am_E d m pc lv (.inr (.inl y) :: .inr (.inl x) :: st) (sh, ρ, μ, cs) = cond (decide (y ≠ 0)) X none := by
  subst hq
  exact n_ck ((n_act hc).trans rfl) k
theorem n_lrem {d m pc q : Nat} {lv : am_L} {st : List am_V} {sh : List (Nat × Nat)} {ρ : Nat → Nat → Nat} {μ : Nat → Nat → Int} {cs : Nat × Nat × Nat} {X : Option am_Res} {x y : Int} (hc : am_code m pc = some (.lrem, 1)) (hq : pc + 1 = q) (k : am_E d m q lv (.inr (.inl (Int.tmod x y)) :: st) (sh, ρ, μ, cs) = X) : am_E d m pc lv (.inr (.inl y) :: .inr (.inl x) :: st) (sh, ρ, μ, cs) = cond (decide (y ≠ 0)) X none := by
  subst hq
  exact n_ck ((n_act hc).trans rfl) k
theorem n_if_eq {d m pc q : Nat} {lv : am_L} {st : List am_V} {sh : List (Nat × Nat)} {ρ : Nat → Nat → Nat} {μ : Nat → Nat → Int} {cs : Nat × Nat × Nat} {X : Option am_Res} {Y : Option am_Res} {q2 : Nat} {off x : Int} (hc : am_code m pc = some (.ifCond .eq off, 3)) (ht : am_tk pc off = true) (hq : am_tg pc off = q) (hq2 : pc + 3 = q2) (k1 : am_E d m q lv st (sh, ρ, μ, cs) = X) (k2 : am_E d m q2 lv st (sh, ρ, μ, cs) = Y) : am_E d m pc lv (.inl x :: st) (sh, ρ, μ, cs) = cond (decide (x = 0)) X Y := by
  subst hq
  subst hq2
  refine n_br ((n_act hc).trans ?_) k1 k2
  show (bif am_tk pc off then _ else am_no) = _
  rw [ht]
  rfl
theorem n_icmp_eq {d m pc q : Nat} {lv : am_L} {st : List am_V} {sh : List (Nat × Nat)} {ρ : Nat → Nat → Nat} {μ : Nat → Nat → Int} {cs : Nat × Nat × Nat} {X : Option am_Res} {Y : Option am_Res} {q2 : Nat} {off x y : Int} (hc : am_code m pc = some (.if_icmp .eq off, 3)) (ht : am_tk pc off = true) (hq : am_tg pc off = q) (hq2 : pc + 3 = q2) (k1 : am_E d m q lv st (sh, ρ, μ, cs) = X) (k2 : am_E d m q2 lv st (sh, ρ, μ, cs) = Y) : am_E d m pc lv (.inl y :: .inl x :: st) (sh, ρ, μ, cs) = cond (decide (x = y)) X Y := by
  subst hq
  subst hq2
  refine n_br ((n_act hc).trans ?_) k1 k2
  show (bif am_tk pc off then _ else am_no) = _
  rw [ht]
  rfl
theorem n_if_ne {d m pc q : Nat} {lv : am_L} {st : List am_V} {sh : List (Nat × Nat)} {ρ : Nat → Nat → Nat} {μ : Nat → Nat → Int} {cs : Nat × Nat × Nat} {X : Option am_Res} {Y : Option am_Res} {q2 : Nat} {off x : Int} (hc : am_code m pc = some (.ifCond .ne off, 3)) (ht : am_tk pc off = true) (hq : am_tg pc off = q) (hq2 : pc + 3 = q2) (k1 : am_E d m q lv st (sh, ρ, μ, cs) = X) (k2 : am_E d m q2 lv st (sh, ρ, μ, cs) = Y) : am_E d m pc lv (.inl x :: st) (sh, ρ, μ, cs) = cond (decide (¬ x = 0)) X Y := by
  subst hq
  subst hq2
  refine n_br ((n_act hc).trans ?_) k1 k2
  show (bif am_tk pc off then _ else am_no) = _
  rw [ht]
  rfl
theorem n_icmp_ne {d m pc q : Nat} {lv : am_L} {st : List am_V} {sh : List (Nat × Nat)} {ρ : Nat → Nat → Nat} {μ : Nat → Nat → Int} {cs : Nat × Nat × Nat} {X : Option am_Res} {Y : Option am_Res} {q2 : Nat} {off x y : Int} (hc : am_code m pc = some (.if_icmp .ne off, 3)) (ht : am_tk pc off = true) (hq : am_tg pc off = q) (hq2 : pc + 3 = q2) (k1 : am_E d m q lv st (sh, ρ, μ, cs) = X) (k2 : am_E d m q2 lv st (sh, ρ, μ, cs) = Y) : am_E d m pc lv (.inl y :: .inl x :: st) (sh, ρ, μ, cs) = cond (decide (¬ x = y)) X Y := by
  subst hq
  subst hq2
  refine n_br ((n_act hc).trans ?_) k1 k2
  show (bif am_tk pc off then _ else am_no) = _
  rw [ht]
  rfl
theorem n_if_lt {d m pc q : Nat} {lv : am_L} {st : List am_V} {sh : List (Nat × Nat)} {ρ : Nat → Nat → Nat} {μ : Nat → Nat → Int} {cs : Nat × Nat × Nat} {X : Option am_Res} {Y : Option am_Res} {q2 : Nat} {off x : Int} (hc : am_code m pc = some (.ifCond .lt off, 3)) (ht : am_tk pc off = true) (hq : am_tg pc off = q) (hq2 : pc + 3 = q2) (k1 : am_E d m q lv st (sh, ρ, μ, cs) = X) (k2 : am_E d m q2 lv st (sh, ρ, μ, cs) = Y) : am_E d m pc lv (.inl x :: st) (sh, ρ, μ, cs) = cond (decide (x < 0)) X Y := by
  subst hq
  subst hq2
  refine n_br ((n_act hc).trans ?_) k1 k2
  show (bif am_tk pc off then _ else am_no) = _
  rw [ht]
  rfl
theorem n_icmp_lt {d m pc q : Nat} {lv : am_L} {st : List am_V} {sh : List (Nat × Nat)} {ρ : Nat → Nat → Nat} {μ : Nat → Nat → Int} {cs : Nat × Nat × Nat} {X : Option am_Res} {Y : Option am_Res} {q2 : Nat} {off x y : Int} (hc : am_code m pc = some (.if_icmp .lt off, 3)) (ht : am_tk pc off = true) (hq : am_tg pc off = q) (hq2 : pc + 3 = q2) (k1 : am_E d m q lv st (sh, ρ, μ, cs) = X) (k2 : am_E d m q2 lv st (sh, ρ, μ, cs) = Y) : am_E d m pc lv (.inl y :: .inl x :: st) (sh, ρ, μ, cs) = cond (decide (x < y)) X Y := by
  subst hq
  subst hq2
  refine n_br ((n_act hc).trans ?_) k1 k2
  show (bif am_tk pc off then _ else am_no) = _
  rw [ht]
  rfl
theorem n_if_ge {d m pc q : Nat} {lv : am_L} {st : List am_V} {sh : List (Nat × Nat)} {ρ : Nat → Nat → Nat} {μ : Nat → Nat → Int} {cs : Nat × Nat × Nat} {X : Option am_Res} {Y : Option am_Res} {q2 : Nat} {off x : Int} (hc : am_code m pc = some (.ifCond .ge off, 3)) (ht : am_tk pc off = true) (hq : am_tg pc off = q) (hq2 : pc + 3 = q2) (k1 : am_E d m q lv st (sh, ρ, μ, cs) = X) (k2 : am_E d m q2 lv st (sh, ρ, μ, cs) = Y) : am_E d m pc lv (.inl x :: st) (sh, ρ, μ, cs) = cond (decide (0 ≤ x)) X Y := by
  subst hq
  subst hq2
  refine n_br ((n_act hc).trans ?_) k1 k2
  show (bif am_tk pc off then _ else am_no) = _
  rw [ht]
  rfl
theorem n_icmp_ge {d m pc q : Nat} {lv : am_L} {st : List am_V} {sh : List (Nat × Nat)} {ρ : Nat → Nat → Nat} {μ : Nat → Nat → Int} {cs : Nat × Nat × Nat} {X : Option am_Res} {Y : Option am_Res} {q2 : Nat} {off x y : Int} (hc : am_code m pc = some (.if_icmp .ge off, 3)) (ht : am_tk pc off = true) (hq : am_tg pc off = q) (hq2 : pc + 3 = q2) (k1 : am_E d m q lv st (sh, ρ, μ, cs) = X) (k2 : am_E d m q2 lv st (sh, ρ, μ, cs) = Y) : am_E d m pc lv (.inl y :: .inl x :: st) (sh, ρ, μ, cs) = cond (decide (y ≤ x)) X Y := by
  subst hq
  subst hq2
  refine n_br ((n_act hc).trans ?_) k1 k2
  show (bif am_tk pc off then _ else am_no) = _
  rw [ht]
  rfl
theorem n_if_gt {d m pc q : Nat} {lv : am_L} {st : List am_V} {sh : List (Nat × Nat)} {ρ : Nat → Nat → Nat} {μ : Nat → Nat → Int} {cs : Nat × Nat × Nat} {X : Option am_Res} {Y : Option am_Res} {q2 : Nat} {off x : Int} (hc : am_code m pc = some (.ifCond .gt off, 3)) (ht : am_tk pc off = true) (hq : am_tg pc off = q) (hq2 : pc + 3 = q2) (k1 : am_E d m q lv st (sh, ρ, μ, cs) = X) (k2 : am_E d m q2 lv st (sh, ρ, μ, cs) = Y) : am_E d m pc lv (.inl x :: st) (sh, ρ, μ, cs) = cond (decide (0 < x)) X Y := by
  subst hq
  subst hq2
  refine n_br ((n_act hc).trans ?_) k1 k2
  show (bif am_tk pc off then _ else am_no) = _
  rw [ht]
  rfl
theorem n_icmp_gt {d m pc q : Nat} {lv : am_L} {st : List am_V} {sh : List (Nat × Nat)} {ρ : Nat → Nat → Nat} {μ : Nat → Nat → Int} {cs : Nat × Nat × Nat} {X : Option am_Res} {Y : Option am_Res} {q2 : Nat} {off x y : Int} (hc : am_code m pc = some (.if_icmp .gt off, 3)) (ht : am_tk pc off = true) (hq : am_tg pc off = q) (hq2 : pc + 3 = q2) (k1 : am_E d m q lv st (sh, ρ, μ, cs) = X) (k2 : am_E d m q2 lv st (sh, ρ, μ, cs) = Y) : am_E d m pc lv (.inl y :: .inl x :: st) (sh, ρ, μ, cs) = cond (decide (y < x)) X Y := by
  subst hq
  subst hq2
  refine n_br ((n_act hc).trans ?_) k1 k2
  show (bif am_tk pc off then _ else am_no) = _
  rw [ht]
  rfl
theorem n_if_le {d m pc q : Nat} {lv : am_L} {st : List am_V} {sh : List (Nat × Nat)} {ρ : Nat → Nat → Nat} {μ : Nat → Nat → Int} {cs : Nat × Nat × Nat} {X : Option am_Res} {Y : Option am_Res} {q2 : Nat} {off x : Int} (hc : am_code m pc = some (.ifCond .le off, 3)) (ht : am_tk pc off = true) (hq : am_tg pc off = q) (hq2 : pc + 3 = q2) (k1 : am_E d m q lv st (sh, ρ, μ, cs) = X) (k2 : am_E d m q2 lv st (sh, ρ, μ, cs) = Y) : am_E d m pc lv (.inl x :: st) (sh, ρ, μ, cs) = cond (decide (x ≤ 0)) X Y := by
  subst hq
  subst hq2
  refine n_br ((n_act hc).trans ?_) k1 k2
  show (bif am_tk pc off then _ else am_no) = _
  rw [ht]
  rfl
theorem n_icmp_le {d m pc q : Nat} {lv : am_L} {st : List am_V} {sh : List (Nat × Nat)} {ρ : Nat → Nat → Nat} {μ : Nat → Nat → Int} {cs : Nat × Nat × Nat} {X : Option am_Res} {Y : Option am_Res} {q2 : Nat} {off x y : Int} (hc : am_code m pc = some (.if_icmp .le off, 3)) (ht : am_tk pc off = true) (hq : am_tg pc off = q) (hq2 : pc + 3 = q2) (k1 : am_E d m q lv st (sh, ρ, μ, cs) = X) (k2 : am_E d m q2 lv st (sh, ρ, μ, cs) = Y) : am_E d m pc lv (.inl y :: .inl x :: st) (sh, ρ, μ, cs) = cond (decide (x ≤ y)) X Y := by
  subst hq
  subst hq2
  refine n_br ((n_act hc).trans ?_) k1 k2
  show (bif am_tk pc off then _ else am_no) = _
  rw [ht]
  rfl
theorem n_goto {d m pc q : Nat} {lv : am_L} {st : List am_V} {sh : List (Nat × Nat)} {ρ : Nat → Nat → Nat} {μ : Nat → Nat → Int} {cs : Nat × Nat × Nat} {X : Option am_Res} {off : Int} (hc : am_code m pc = some (.goto off, 3)) (ht : am_tk pc off = true) (hq : am_tg pc off = q) (k : am_E d m q lv st (sh, ρ, μ, cs) = X) : am_E d m pc lv st (sh, ρ, μ, cs) = X := by
  subst hq
  refine n_go ((n_act hc).trans ?_) k
  show (bif am_tk pc off then _ else am_no) = _
  rw [ht]
  rfl
theorem n_tsw {d m pc q : Nat} {lv : am_L} {st : List am_V} {sh : List (Nat × Nat)} {ρ : Nat → Nat → Nat} {μ : Nat → Nat → Int} {cs : Nat × Nat × Nat} {X : Option am_Res} {dflt lo hi x : Int} {offs : Array Int} {n : Nat} (hc : am_code m pc = some (.tableswitch dflt lo hi offs, n)) (ht : am_tk pc (am_swo dflt lo hi offs x) = true) (hq : am_tg pc (am_swo dflt lo hi offs x) = q) (k : am_E d m q lv st (sh, ρ, μ, cs) = X) : am_E d m pc lv (.inl x :: st) (sh, ρ, μ, cs) = X := by
  subst hq
  have h := n_ck ((n_act (d := d) (lv := lv) (st := .inl x :: st) (h := (sh, ρ, μ, cs)) hc).trans rfl) k
  rw [h, ht]
  rfl
theorem n_lsw {d m pc q : Nat} {lv : am_L} {st : List am_V} {sh : List (Nat × Nat)} {ρ : Nat → Nat → Nat} {μ : Nat → Nat → Int} {cs : Nat × Nat × Nat} {X : Option am_Res} {dflt x : Int} {ps : Array (Int × Int)} {n : Nat} (hc : am_code m pc = some (.lookupswitch dflt ps, n)) (hs : am_srt ps.toList = true) (ht : am_tk pc (am_lso ps.toList dflt x) = true) (hq : am_tg pc (am_lso ps.toList dflt x) = q) (k : am_E d m q lv st (sh, ρ, μ, cs) = X) : am_E d m pc lv (.inl x :: st) (sh, ρ, μ, cs) = X := by
  subst hq
  have h := n_ck (b := am_tk pc (am_lso ps.toList dflt x)) (q := am_tg pc (am_lso ps.toList dflt x)) (lv' := lv) (st' := st) (h' := (sh, ρ, μ, cs)) ((n_act (d := d) (lv := lv) (st := .inl x :: st) (h := (sh, ρ, μ, cs)) hc).trans (by show (bif am_srt ps.toList then _ else am_no) = _; rw [hs]; rfl)) k
  rw [h, ht]
  rfl
theorem n_getI {d m pc q : Nat} {lv : am_L} {st : List am_V} {sh : List (Nat × Nat)} {ρ : Nat → Nat → Nat} {μ : Nat → Nat → Int} {cs : Nat × Nat × Nat} {X : Option am_Res} {p j i ci w : Nat} (hc : am_code m pc = some (.getfield i, 3)) (hq : pc + 3 = q) (hp : am_pool m i = some (1, ci, j, 0, w)) (k : am_E d m q lv (.inl (μ p j) :: st) (sh, ρ, μ, cs) = X) : am_E d m pc lv (.inr (.inr p) :: st) (sh, ρ, μ, cs) = cond (am_isk (am_ks sh cs.2.2 p) ci) X none := by
  subst hq
  refine n_ck ((n_act hc).trans ?_) k
  show (match am_pool m i with
    | some (1, ci, k, t, _) => am_get ci k t.toNat pc lv _ _
    | _ => am_no) = _
  rw [hp]
  rfl
theorem n_getL {d m pc q : Nat} {lv : am_L} {st : List am_V} {sh : List (Nat × Nat)} {ρ : Nat → Nat → Nat} {μ : Nat → Nat → Int} {cs : Nat × Nat × Nat} {X : Option am_Res} {p j i ci w : Nat} (hc : am_code m pc = some (.getfield i, 3)) (hq : pc + 3 = q) (hp : am_pool m i = some (1, ci, j, 1, w)) (k : am_E d m q lv (.inr (.inl (μ p j)) :: st) (sh, ρ, μ, cs) = X) : am_E d m pc lv (.inr (.inr p) :: st) (sh, ρ, μ, cs) = cond (am_isk (am_ks sh cs.2.2 p) ci) X none := by
  subst hq
  refine n_ck ((n_act hc).trans ?_) k
  show (match am_pool m i with
    | some (1, ci, k, t, _) => am_get ci k t.toNat pc lv _ _
    | _ => am_no) = _
  rw [hp]
  rfl
theorem n_getR {d m pc q : Nat} {lv : am_L} {st : List am_V} {sh : List (Nat × Nat)} {ρ : Nat → Nat → Nat} {μ : Nat → Nat → Int} {cs : Nat × Nat × Nat} {X : Option am_Res} {p j i ci w : Nat} (hc : am_code m pc = some (.getfield i, 3)) (hq : pc + 3 = q) (hp : am_pool m i = some (1, ci, j, 2, w)) (k : am_E d m q lv (.inr (.inr (ρ p j)) :: st) (sh, ρ, μ, cs) = X) : am_E d m pc lv (.inr (.inr p) :: st) (sh, ρ, μ, cs) = cond (am_isk (am_ks sh cs.2.2 p) ci) X none := by
  subst hq
  refine n_ck ((n_act hc).trans ?_) k
  show (match am_pool m i with
    | some (1, ci, k, t, _) => am_get ci k t.toNat pc lv _ _
    | _ => am_no) = _
  rw [hp]
  rfl
theorem n_getZ {d m pc q : Nat} {lv : am_L} {st : List am_V} {sh : List (Nat × Nat)} {ρ : Nat → Nat → Nat} {μ : Nat → Nat → Int} {cs : Nat × Nat × Nat} {X : Option am_Res} {p j i ci w : Nat} (hc : am_code m pc = some (.getfield i, 3)) (hq : pc + 3 = q) (hp : am_pool m i = some (1, ci, j, 3, w)) (k : am_E d m q lv (.inl (μ p j) :: st) (sh, ρ, μ, cs) = X) : am_E d m pc lv (.inr (.inr p) :: st) (sh, ρ, μ, cs) = cond (am_isk (am_ks sh cs.2.2 p) ci) X none := by
  subst hq
  refine n_ck ((n_act hc).trans ?_) k
  show (match am_pool m i with
    | some (1, ci, k, t, _) => am_get ci k t.toNat pc lv _ _
    | _ => am_no) = _
  rw [hp]
  rfl
theorem n_putI {d m pc q : Nat} {lv : am_L} {st : List am_V} {sh : List (Nat × Nat)} {ρ : Nat → Nat → Nat} {μ : Nat → Nat → Int} {cs : Nat × Nat × Nat} {X : Option am_Res} {p j i ci w : Nat} {z : Int} (hc : am_code m pc = some (.putfield i, 3)) (hq : pc + 3 = q) (hp : am_pool m i = some (1, ci, j, 0, w)) (k : am_E d m q lv st (sh, ρ, am_up μ p j z, cs) = X) : am_E d m pc lv (.inl z :: .inr (.inr p) :: st) (sh, ρ, μ, cs) = cond (am_isk (am_ks sh cs.2.2 p) ci) X none := by
  subst hq
  refine n_ck ((n_act hc).trans ?_) k
  show (match am_pool m i with
    | some (1, ci, k, t, _) => am_put ci k t.toNat pc lv _ _
    | _ => am_no) = _
  rw [hp]
  rfl
theorem n_putL {d m pc q : Nat} {lv : am_L} {st : List am_V} {sh : List (Nat × Nat)} {ρ : Nat → Nat → Nat} {μ : Nat → Nat → Int} {cs : Nat × Nat × Nat} {X : Option am_Res} {p j i ci w : Nat} {z : Int} (hc : am_code m pc = some (.putfield i, 3)) (hq : pc + 3 = q) (hp : am_pool m i = some (1, ci, j, 1, w)) (k : am_E d m q lv st (sh, ρ, am_up μ p j z, cs) = X) : am_E d m pc lv (.inr (.inl z) :: .inr (.inr p) :: st) (sh, ρ, μ, cs) = cond (am_isk (am_ks sh cs.2.2 p) ci) X none := by
  subst hq
  refine n_ck ((n_act hc).trans ?_) k
  show (match am_pool m i with
    | some (1, ci, k, t, _) => am_put ci k t.toNat pc lv _ _
    | _ => am_no) = _
  rw [hp]
  rfl
theorem n_putR {d m pc q : Nat} {lv : am_L} {st : List am_V} {sh : List (Nat × Nat)} {ρ : Nat → Nat → Nat} {μ : Nat → Nat → Int} {cs : Nat × Nat × Nat} {X : Option am_Res} {p j i ci w : Nat} {z : Nat} (hc : am_code m pc = some (.putfield i, 3)) (hq : pc + 3 = q) (hp : am_pool m i = some (1, ci, j, 2, w)) (k : am_E d m q lv st (sh, am_up ρ p j z, μ, cs) = X) : am_E d m pc lv (.inr (.inr z) :: .inr (.inr p) :: st) (sh, ρ, μ, cs) = cond (am_isk (am_ks sh cs.2.2 p) ci) X none := by
  subst hq
  refine n_ck ((n_act hc).trans ?_) k
  show (match am_pool m i with
    | some (1, ci, k, t, _) => am_put ci k t.toNat pc lv _ _
    | _ => am_no) = _
  rw [hp]
  rfl
theorem n_putZ {d m pc q : Nat} {lv : am_L} {st : List am_V} {sh : List (Nat × Nat)} {ρ : Nat → Nat → Nat} {μ : Nat → Nat → Int} {cs : Nat × Nat × Nat} {X : Option am_Res} {p j i ci w : Nat} {z : Int} (hc : am_code m pc = some (.putfield i, 3)) (hq : pc + 3 = q) (hp : am_pool m i = some (1, ci, j, 3, w)) (k : am_E d m q lv st (sh, ρ, am_up μ p j z, cs) = X) : am_E d m pc lv (.inl z :: .inr (.inr p) :: st) (sh, ρ, μ, cs) = cond (am_isk (am_ks sh cs.2.2 p) ci && decide (z = 0 ∨ z = 1)) X none := by
  subst hq
  refine n_ck ((n_act hc).trans ?_) k
  show (match am_pool m i with
    | some (1, ci, k, t, _) => am_put ci k t.toNat pc lv _ _
    | _ => am_no) = _
  rw [hp]
  rfl
theorem n_getstatic {d m pc q : Nat} {lv : am_L} {st : List am_V} {sh : List (Nat × Nat)} {ρ : Nat → Nat → Nat} {μ : Nat → Nat → Int} {cs : Nat × Nat × Nat} {X : Option am_Res} {i a b w : Nat} {z : Int} (hc : am_code m pc = some (.getstatic i, 3)) (hq : pc + 3 = q) (hp : am_pool m i = some (11, a, b, z, w)) (k : am_E d m q lv (.inr (.inr a) :: st) (sh, ρ, μ, cs) = X) : am_E d m pc lv st (sh, ρ, μ, cs) = X := by
  subst hq
  refine n_go ((n_act hc).trans ?_) k
  show (match am_pool m i with
    | some (11, a, _, _, _) => am_go (pc + 3) lv (.inr (.inr a) :: st) (sh, ρ, μ, cs)
    | _ => am_no) = _
  rw [hp]
  rfl
theorem n_iaload {d m pc q : Nat} {lv : am_L} {st : List am_V} {sh : List (Nat × Nat)} {ρ : Nat → Nat → Nat} {μ : Nat → Nat → Int} {cs : Nat × Nat × Nat} {X : Option am_Res} {p : Nat} {i : Int} (hc : am_code m pc = some (.iaload, 1)) (hq : pc + 1 = q) (k : am_E d m q lv (.inl (μ p i.toNat) :: st) (sh, ρ, μ, cs) = X) : am_E d m pc lv (.inl i :: .inr (.inr p) :: st) (sh, ρ, μ, cs) = cond (am_i20 (am_ks sh cs.2.2 p) i) X none := by
  subst hq
  exact n_ck ((n_act hc).trans rfl) k
theorem n_baload {d m pc q : Nat} {lv : am_L} {st : List am_V} {sh : List (Nat × Nat)} {ρ : Nat → Nat → Nat} {μ : Nat → Nat → Int} {cs : Nat × Nat × Nat} {X : Option am_Res} {p : Nat} {i : Int} (hc : am_code m pc = some (.baload, 1)) (hq : pc + 1 = q) (k : am_E d m q lv (.inl (μ p i.toNat) :: st) (sh, ρ, μ, cs) = X) : am_E d m pc lv (.inl i :: .inr (.inr p) :: st) (sh, ρ, μ, cs) = cond (am_b21 (am_ks sh cs.2.2 p) i) X none := by
  subst hq
  exact n_ck ((n_act hc).trans rfl) k
theorem n_laload {d m pc q : Nat} {lv : am_L} {st : List am_V} {sh : List (Nat × Nat)} {ρ : Nat → Nat → Nat} {μ : Nat → Nat → Int} {cs : Nat × Nat × Nat} {X : Option am_Res} {p : Nat} {i : Int} (hc : am_code m pc = some (.laload, 1)) (hq : pc + 1 = q) (k : am_E d m q lv (.inr (.inl (μ p i.toNat)) :: st) (sh, ρ, μ, cs) = X) : am_E d m pc lv (.inl i :: .inr (.inr p) :: st) (sh, ρ, μ, cs) = cond (am_l23 (am_ks sh cs.2.2 p) i) X none := by
  subst hq
  exact n_ck ((n_act hc).trans rfl) k
theorem n_iastore {d m pc q : Nat} {lv : am_L} {st : List am_V} {sh : List (Nat × Nat)} {ρ : Nat → Nat → Nat} {μ : Nat → Nat → Int} {cs : Nat × Nat × Nat} {X : Option am_Res} {p : Nat} {i z : Int} (hc : am_code m pc = some (.iastore, 1)) (hq : pc + 1 = q) (k : am_E d m q lv st (sh, ρ, am_up μ p i.toNat z, cs) = X) : am_E d m pc lv (.inl z :: .inl i :: .inr (.inr p) :: st) (sh, ρ, μ, cs) = cond (am_w20 (am_ks sh cs.2.2 p) i) X none := by
  subst hq
  exact n_ck ((n_act hc).trans rfl) k
theorem n_bastore {d m pc q : Nat} {lv : am_L} {st : List am_V} {sh : List (Nat × Nat)} {ρ : Nat → Nat → Nat} {μ : Nat → Nat → Int} {cs : Nat × Nat × Nat} {X : Option am_Res} {p : Nat} {i z : Int} (hc : am_code m pc = some (.bastore, 1)) (hq : pc + 1 = q) (k : am_E d m q lv st (sh, ρ, am_up μ p i.toNat (am_bv (am_ks sh cs.2.2 p) z), cs) = X) : am_E d m pc lv (.inl z :: .inl i :: .inr (.inr p) :: st) (sh, ρ, μ, cs) = cond (am_b21 (am_ks sh cs.2.2 p) i) X none := by
  subst hq
  exact n_ck ((n_act hc).trans rfl) k
theorem n_lastore {d m pc q : Nat} {lv : am_L} {st : List am_V} {sh : List (Nat × Nat)} {ρ : Nat → Nat → Nat} {μ : Nat → Nat → Int} {cs : Nat × Nat × Nat} {X : Option am_Res} {p : Nat} {i z : Int} (hc : am_code m pc = some (.lastore, 1)) (hq : pc + 1 = q) (k : am_E d m q lv st (sh, ρ, am_up μ p i.toNat z, cs) = X) : am_E d m pc lv (.inr (.inl z) :: .inl i :: .inr (.inr p) :: st) (sh, ρ, μ, cs) = cond (am_l23 (am_ks sh cs.2.2 p) i) X none := by
  subst hq
  exact n_ck ((n_act hc).trans rfl) k
theorem n_arraylength {d m pc q : Nat} {lv : am_L} {st : List am_V} {sh : List (Nat × Nat)} {ρ : Nat → Nat → Nat} {μ : Nat → Nat → Int} {cs : Nat × Nat × Nat} {X : Option am_Res} {p : Nat} (hc : am_code m pc = some (.arraylength, 1)) (hq : pc + 1 = q) (k : am_E d m q lv (.inl ((am_ks sh cs.2.2 p).2 : Int) :: st) (sh, ρ, μ, cs) = X) : am_E d m pc lv (.inr (.inr p) :: st) (sh, ρ, μ, cs) = cond (am_lnk (am_ks sh cs.2.2 p)) X none := by
  subst hq
  exact n_ck ((n_act hc).trans rfl) k
theorem n_newarray_int {d m pc q : Nat} {lv : am_L} {st : List am_V} {sh : List (Nat × Nat)} {ρ : Nat → Nat → Nat} {μ : Nat → Nat → Int} {cs : Nat × Nat × Nat} {X : Option am_Res} {n : Int} (hc : am_code m pc = some (.newarray .int, 2)) (hq : pc + 2 = q) (k : am_E d m q lv (.inr (.inr sh.length) :: st) (sh ++ [(20, n.toNat)], am_clr ρ sh.length 999999, am_clr μ sh.length 0, (cs.1 + 1, cs.2.1 + n.toNat, cs.2.2)) = X) : am_E d m pc lv (.inl n :: st) (sh, ρ, μ, cs) = cond (decide (0 ≤ n ∧ n ≤ 60000000) && Nat.blt sh.length 999999) X none := by
  subst hq
  exact n_ck ((n_act hc).trans rfl) k
theorem n_newarray_byte {d m pc q : Nat} {lv : am_L} {st : List am_V} {sh : List (Nat × Nat)} {ρ : Nat → Nat → Nat} {μ : Nat → Nat → Int} {cs : Nat × Nat × Nat} {X : Option am_Res} {n : Int} (hc : am_code m pc = some (.newarray .byte, 2)) (hq : pc + 2 = q) (k : am_E d m q lv (.inr (.inr sh.length) :: st) (sh ++ [(21, n.toNat)], am_clr ρ sh.length 999999, am_clr μ sh.length 0, (cs.1 + 1, cs.2.1 + n.toNat, cs.2.2)) = X) : am_E d m pc lv (.inl n :: st) (sh, ρ, μ, cs) = cond (decide (0 ≤ n ∧ n ≤ 60000000) && Nat.blt sh.length 999999) X none := by
  subst hq
  exact n_ck ((n_act hc).trans rfl) k
theorem n_newarray_boolean {d m pc q : Nat} {lv : am_L} {st : List am_V} {sh : List (Nat × Nat)} {ρ : Nat → Nat → Nat} {μ : Nat → Nat → Int} {cs : Nat × Nat × Nat} {X : Option am_Res} {n : Int} (hc : am_code m pc = some (.newarray .boolean, 2)) (hq : pc + 2 = q) (k : am_E d m q lv (.inr (.inr sh.length) :: st) (sh ++ [(22, n.toNat)], am_clr ρ sh.length 999999, am_clr μ sh.length 0, (cs.1 + 1, cs.2.1 + n.toNat, cs.2.2)) = X) : am_E d m pc lv (.inl n :: st) (sh, ρ, μ, cs) = cond (decide (0 ≤ n ∧ n ≤ 60000000) && Nat.blt sh.length 999999) X none := by
  subst hq
  exact n_ck ((n_act hc).trans rfl) k
theorem n_newarray_long {d m pc q : Nat} {lv : am_L} {st : List am_V} {sh : List (Nat × Nat)} {ρ : Nat → Nat → Nat} {μ : Nat → Nat → Int} {cs : Nat × Nat × Nat} {X : Option am_Res} {n : Int} (hc : am_code m pc = some (.newarray .long, 2)) (hq : pc + 2 = q) (k : am_E d m q lv (.inr (.inr sh.length) :: st) (sh ++ [(23, n.toNat)], am_clr ρ sh.length 999999, am_clr μ sh.length 0, (cs.1 + 1, cs.2.1 + n.toNat, cs.2.2)) = X) : am_E d m pc lv (.inl n :: st) (sh, ρ, μ, cs) = cond (decide (0 ≤ n ∧ n ≤ 60000000) && Nat.blt sh.length 999999) X none := by
  subst hq
  exact n_ck ((n_act hc).trans rfl) k
theorem n_new {d m pc q : Nat} {lv : am_L} {st : List am_V} {sh : List (Nat × Nat)} {ρ : Nat → Nat → Nat} {μ : Nat → Nat → Int} {cs : Nat × Nat × Nat} {X : Option am_Res} {i ci n w : Nat} {z : Int} (hc : am_code m pc = some (.new i, 3)) (hq : pc + 3 = q) (hp : am_pool m i = some (7, ci, n, z, w)) (k : am_E d m q lv (.inr (.inr sh.length) :: st) (sh ++ [(ci, n)], am_clr ρ sh.length 999999, am_clr μ sh.length 0, (cs.1 + 1, cs.2.1 + n, cs.2.2)) = X) : am_E d m pc lv st (sh, ρ, μ, cs) = cond (Nat.blt sh.length 999999) X none := by
  subst hq
  refine n_ck ((n_act hc).trans ?_) k
  show (match am_pool m i with
    | some (7, ci, k, _, _) => am_new ci k pc lv st (sh, ρ, μ, cs)
    | _ => am_no) = _
  rw [hp]
  rfl
theorem n_obj {d m pc q : Nat} {lv : am_L} {st : List am_V} {sh : List (Nat × Nat)} {ρ : Nat → Nat → Nat} {μ : Nat → Nat → Int} {cs : Nat × Nat × Nat} {X : Option am_Res} {i a b w p : Nat} {z : Int} (hc : am_code m pc = some (.invokespecial i, 3)) (hq : pc + 3 = q) (hp : am_pool m i = some (5, a, b, z, w)) (hr : am_rm st = true) (k : am_E (d + 1) m q lv st (sh, ρ, μ, cs) = X) : am_E (d + 1) m pc lv (.inr (.inr p) :: st) (sh, ρ, μ, cs) = cond (am_nn0 p) X none := by
  subst hq
  refine n_ck ((n_act hc).trans ?_) k
  show am_inv (am_pool m i) 4 5 (d + 1) pc lv _ _ = _
  rw [hp]
  show (bif true && am_rm st then _ else am_no) = _
  rw [hr]
  rfl
theorem n_acp {d m pc q : Nat} {lv : am_L} {st : List am_V} {sh : List (Nat × Nat)} {ρ : Nat → Nat → Nat} {μ : Nat → Nat → Int} {cs : Nat × Nat × Nat} {X : Option am_Res} {i a b w pa pb : Nat} {z n dp sp : Int} (hc : am_code m pc = some (.invokestatic i, 3)) (hq : pc + 3 = q) (hp : am_pool m i = some (6, a, b, z, w)) (hr : am_rm st = true) (k : am_E (d + 1) m q lv st (sh, ρ, am_cp μ pa pb sp.toNat dp.toNat n.toNat, cs) = X) : am_E (d + 1) m pc lv (.inl n :: .inl dp :: .inr (.inr pb) :: .inl sp :: .inr (.inr pa) :: st) (sh, ρ, μ, cs) = cond (am_cpk (am_ks sh cs.2.2 pa) (am_ks sh cs.2.2 pb) sp dp n) X none := by
  subst hq
  refine n_ck ((n_act hc).trans ?_) k
  unfold am_act1
  dsimp only
  rw [hp]
  show (bif true && am_rm st then _ else am_no) = _
  rw [hr]
  rfl
theorem n_mabs {d m pc q : Nat} {lv : am_L} {st : List am_V} {sh : List (Nat × Nat)} {ρ : Nat → Nat → Nat} {μ : Nat → Nat → Int} {cs : Nat × Nat × Nat} {X : Option am_Res} {i a b w : Nat} {z x y : Int} (hc : am_code m pc = some (.invokestatic i, 3)) (hq : pc + 3 = q) (hp : am_pool m i = some (20, a, b, z, w)) (hr : am_rm st = true) (k : am_E (d + 1) m q lv (.inl (am_iabs x) :: st) (sh, ρ, μ, cs) = X) : am_E (d + 1) m pc lv (.inl (x) :: st) (sh, ρ, μ, cs) = X := by
  subst hq
  refine n_go ((n_act hc).trans ?_) k
  unfold am_act1
  dsimp only
  rw [hp]
  show (bif true && am_rm st then _ else am_no) = _
  rw [hr]
  rfl
theorem n_mabsL {d m pc q : Nat} {lv : am_L} {st : List am_V} {sh : List (Nat × Nat)} {ρ : Nat → Nat → Nat} {μ : Nat → Nat → Int} {cs : Nat × Nat × Nat} {X : Option am_Res} {i a b w : Nat} {z x y : Int} (hc : am_code m pc = some (.invokestatic i, 3)) (hq : pc + 3 = q) (hp : am_pool m i = some (21, a, b, z, w)) (hr : am_rm st = true) (k : am_E (d + 1) m q lv (.inr (.inl (am_labs x)) :: st) (sh, ρ, μ, cs) = X) : am_E (d + 1) m pc lv (.inr (.inl (x)) :: st) (sh, ρ, μ, cs) = X := by
  subst hq
  refine n_go ((n_act hc).trans ?_) k
  unfold am_act1
  dsimp only
  rw [hp]
  show (bif true && am_rm st then _ else am_no) = _
  rw [hr]
  rfl
theorem n_mmax {d m pc q : Nat} {lv : am_L} {st : List am_V} {sh : List (Nat × Nat)} {ρ : Nat → Nat → Nat} {μ : Nat → Nat → Int} {cs : Nat × Nat × Nat} {X : Option am_Res} {i a b w : Nat} {z x y : Int} (hc : am_code m pc = some (.invokestatic i, 3)) (hq : pc + 3 = q) (hp : am_pool m i = some (22, a, b, z, w)) (hr : am_rm st = true) (k : am_E (d + 1) m q lv (.inl (am_imax x y) :: st) (sh, ρ, μ, cs) = X) : am_E (d + 1) m pc lv (.inl (y) :: .inl (x) :: st) (sh, ρ, μ, cs) = X := by
  subst hq
  refine n_go ((n_act hc).trans ?_) k
  unfold am_act1
  dsimp only
  rw [hp]
  show (bif true && am_rm st then _ else am_no) = _
  rw [hr]
  rfl
theorem n_mmaxL {d m pc q : Nat} {lv : am_L} {st : List am_V} {sh : List (Nat × Nat)} {ρ : Nat → Nat → Nat} {μ : Nat → Nat → Int} {cs : Nat × Nat × Nat} {X : Option am_Res} {i a b w : Nat} {z x y : Int} (hc : am_code m pc = some (.invokestatic i, 3)) (hq : pc + 3 = q) (hp : am_pool m i = some (23, a, b, z, w)) (hr : am_rm st = true) (k : am_E (d + 1) m q lv (.inr (.inl (am_lmax x y)) :: st) (sh, ρ, μ, cs) = X) : am_E (d + 1) m pc lv (.inr (.inl (y)) :: .inr (.inl (x)) :: st) (sh, ρ, μ, cs) = X := by
  subst hq
  refine n_go ((n_act hc).trans ?_) k
  unfold am_act1
  dsimp only
  rw [hp]
  show (bif true && am_rm st then _ else am_no) = _
  rw [hr]
  rfl
theorem n_mmin {d m pc q : Nat} {lv : am_L} {st : List am_V} {sh : List (Nat × Nat)} {ρ : Nat → Nat → Nat} {μ : Nat → Nat → Int} {cs : Nat × Nat × Nat} {X : Option am_Res} {i a b w : Nat} {z x y : Int} (hc : am_code m pc = some (.invokestatic i, 3)) (hq : pc + 3 = q) (hp : am_pool m i = some (24, a, b, z, w)) (hr : am_rm st = true) (k : am_E (d + 1) m q lv (.inl (am_imin x y) :: st) (sh, ρ, μ, cs) = X) : am_E (d + 1) m pc lv (.inl (y) :: .inl (x) :: st) (sh, ρ, μ, cs) = X := by
  subst hq
  refine n_go ((n_act hc).trans ?_) k
  unfold am_act1
  dsimp only
  rw [hp]
  show (bif true && am_rm st then _ else am_no) = _
  rw [hr]
  rfl
theorem n_mminL {d m pc q : Nat} {lv : am_L} {st : List am_V} {sh : List (Nat × Nat)} {ρ : Nat → Nat → Nat} {μ : Nat → Nat → Int} {cs : Nat × Nat × Nat} {X : Option am_Res} {i a b w : Nat} {z x y : Int} (hc : am_code m pc = some (.invokestatic i, 3)) (hq : pc + 3 = q) (hp : am_pool m i = some (25, a, b, z, w)) (hr : am_rm st = true) (k : am_E (d + 1) m q lv (.inr (.inl (am_lmin x y)) :: st) (sh, ρ, μ, cs) = X) : am_E (d + 1) m pc lv (.inr (.inl (y)) :: .inr (.inl (x)) :: st) (sh, ρ, μ, cs) = X := by
  subst hq
  refine n_go ((n_act hc).trans ?_) k
  unfold am_act1
  dsimp only
  rw [hp]
  show (bif true && am_rm st then _ else am_no) = _
  rw [hr]
  rfl
theorem n_call {d m pc q m' : Nat} {b : Bool} {args : List am_V} {lv ent : am_L} {st st' : List am_V} {h : am_H} (hc : am_act (d + 1) m pc lv st h = .inr (.inr (.inr (b, m', args, q, st')))) (he : am_ent m' args = ent) : am_E (d + 1) m pc lv st h = cond b ((am_E d m' 0 ent [] h).bind (fun r => am_E (d + 1) m q lv (r.1.toList ++ st') r.2)) none := by
  subst he
  rw [am_E_fix]
  unfold am_F
  rw [hc]
theorem n_callS {d m pc q i m' n w : Nat} {z : Int} {args : List am_V} {lv ent : am_L} {st st' : List am_V} {h : am_H} (hc : am_code m pc = some (.invokestatic i, 3)) (hq : pc + 3 = q) (hp : am_pool m i = some (3, m', n, z, w)) (hn : (Nat.ble n st.length && am_rm (st.drop n) && Nat.ble (am_lay (st.take n).reverse).length (am_M m').2.2.1) = true) (ha : (st.take n).reverse = args) (hs : st.drop n = st') (he : am_ent m' args = ent) : am_E (d + 1) m pc lv st h = (am_E d m' 0 ent [] h).bind (fun r => am_E (d + 1) m q lv (r.1.toList ++ st') r.2) := by
  subst hq
  subst ha
  subst hs
  refine (n_call (b := true) ((n_act hc).trans ?_) he).trans rfl
  unfold am_act1
  dsimp only
  rw [hp]
  show (bif (Nat.ble n st.length && am_rm (st.drop n) && Nat.ble (am_lay (st.take n).reverse).length (am_M m').2.2.1) then _ else am_no) = _
  rw [hn]
  rfl
theorem n_callV {d m pc q i m' n w p own : Nat} {z : Int} {ar : List am_V} {lv ent : am_L} {st st' : List am_V} {sh : List (Nat × Nat)} {ρ : Nat → Nat → Nat} {μ : Nat → Nat → Int} {cs : Nat × Nat × Nat} (hc : am_code m pc = some (.invokevirtual i, 3)) (hq : pc + 3 = q) (h4 : am_ps m i 264 = false) (h5 : am_ps m i 265 = false) (hp : am_pool m i = some (2, m', n, z, w)) (hn : (Nat.ble (n + 1) st.length && am_rm (st.drop (n + 1)) && Nat.ble (am_lay (st.take (n + 1)).reverse).length (am_M m').2.2.1) = true) (ha : (st.take (n + 1)).reverse = .inr (.inr p) :: ar) (hs : st.drop (n + 1) = st') (ho : am_own m' = own) (he : am_ent m' (.inr (.inr p) :: ar) = ent) : am_E (d + 1) m pc lv st (sh, ρ, μ, cs) = cond (am_isk (am_ks sh cs.2.2 p) own) ((am_E d m' 0 ent [] (sh, ρ, μ, cs)).bind (fun r => am_E (d + 1) m q lv (r.1.toList ++ st') r.2)) none := by
  subst hq
  subst hs
  subst ho
  refine n_call ((n_act hc).trans ?_) he
  show (bif am_ps m i 264 then _ else bif am_ps m i 265 then _ else am_inv (am_pool m i) 2 2 (d + 1) pc lv _ _) = _
  rw [h4, h5]
  show am_inv (am_pool m i) 2 2 (d + 1) pc lv _ _ = _
  rw [hp]
  show (bif (Nat.ble (n + 1) st.length && am_rm (st.drop (n + 1)) && Nat.ble (am_lay (st.take (n + 1)).reverse).length (am_M m').2.2.1) then _ else am_no) = _
  rw [hn, ha]
  rfl
theorem n_callI {d m pc q i m' n w p : Nat} {z : Int} {ar : List am_V} {lv ent : am_L} {st st' : List am_V} {sh : List (Nat × Nat)} {ρ : Nat → Nat → Nat} {μ : Nat → Nat → Int} {cs : Nat × Nat × Nat} (hc : am_code m pc = some (.invokespecial i, 3)) (hq : pc + 3 = q) (hp : am_pool m i = some (4, m', n, z, w)) (hn : (Nat.ble (n + 1) st.length && am_rm (st.drop (n + 1)) && Nat.ble (am_lay (st.take (n + 1)).reverse).length (am_M m').2.2.1) = true) (ha : (st.take (n + 1)).reverse = .inr (.inr p) :: ar) (hs : st.drop (n + 1) = st') (he : am_ent m' (.inr (.inr p) :: ar) = ent) : am_E (d + 1) m pc lv st (sh, ρ, μ, cs) = cond (am_nn0 p) ((am_E d m' 0 ent [] (sh, ρ, μ, cs)).bind (fun r => am_E (d + 1) m q lv (r.1.toList ++ st') r.2)) none := by
  subst hq
  subst hs
  refine n_call ((n_act hc).trans ?_) he
  show am_inv (am_pool m i) 4 5 (d + 1) pc lv _ _ = _
  rw [hp]
  show (bif (Nat.ble (n + 1) st.length && am_rm (st.drop (n + 1)) && Nat.ble (am_lay (st.take (n + 1)).reverse).length (am_M m').2.2.1) then _ else am_no) = _
  rw [hn, ha]
  rfl
theorem n_done {d m pc : Nat} {lv : am_L} {st : List am_V} {h : am_H} {r : Option am_Res} (hc : am_act d m pc lv st h = .inl r) : am_E d m pc lv st h = r := by
  rw [am_E_fix]
  unfold am_F
  rw [hc]
theorem n_ireturn_int {d m pc : Nat} {lv : am_L} {h : am_H} {z : Int} (hc : am_code m pc = some (.ireturn, 1)) (hr : (am_M m).2.2.2.1 = some .int) : am_E d m pc lv [.inl z] h = some (some (.inl z), h) := by
  refine n_done ((n_act hc).trans ?_)
  show am_ret m [.inl z] h = _
  unfold am_ret
  rw [hr]
theorem n_ireturn_boolean {d m pc : Nat} {lv : am_L} {h : am_H} {z : Int} (hc : am_code m pc = some (.ireturn, 1)) (hr : (am_M m).2.2.2.1 = some .boolean) : am_E d m pc lv [.inl z] h = (bif decide (z = 0 ∨ z = 1) then some (some (.inl z), h) else none) := by
  refine n_done ((n_act hc).trans ?_)
  show am_ret m [.inl z] h = _
  unfold am_ret
  rw [hr]
theorem n_ireturn_byte {d m pc : Nat} {lv : am_L} {h : am_H} {z : Int} (hc : am_code m pc = some (.ireturn, 1)) (hr : (am_M m).2.2.2.1 = some .byte) : am_E d m pc lv [.inl z] h = (bif decide (-128 ≤ z ∧ z ≤ 127) then some (some (.inl z), h) else none) := by
  refine n_done ((n_act hc).trans ?_)
  show am_ret m [.inl z] h = _
  unfold am_ret
  rw [hr]
theorem n_ireturn_char {d m pc : Nat} {lv : am_L} {h : am_H} {z : Int} (hc : am_code m pc = some (.ireturn, 1)) (hr : (am_M m).2.2.2.1 = some .char) : am_E d m pc lv [.inl z] h = (bif decide (0 ≤ z ∧ z ≤ 65535) then some (some (.inl z), h) else none) := by
  refine n_done ((n_act hc).trans ?_)
  show am_ret m [.inl z] h = _
  unfold am_ret
  rw [hr]
theorem n_lreturn {d m pc : Nat} {lv : am_L} {h : am_H} {z : Int} (hc : am_code m pc = some (.lreturn, 1)) (hr : (am_M m).2.2.2.1 = some .long) : am_E d m pc lv [.inr (.inl z)] h = some (some (.inr (.inl z)), h) := by
  refine n_done ((n_act hc).trans ?_)
  show am_lret m [.inr (.inl z)] h = _
  unfold am_lret
  rw [hr]
theorem n_return {d m pc : Nat} {lv : am_L} {h : am_H} (hc : am_code m pc = some (.return_, 1)) (hr : (am_M m).2.2.2.1 = none) : am_E d m pc lv [] h = some (none, h) := by
  refine n_done ((n_act hc).trans ?_)
  show am_vret m [] h = _
  unfold am_vret
  rw [hr]
theorem n_none {d m pc : Nat} {lv : am_L} {st : List am_V} {h : am_H} (hc : am_act d m pc lv st h = am_no) : am_E d m pc lv st h = none := n_done hc
theorem n_hl {d m pc i : Nat} {c : Int} {lv : am_L} {st : List am_V} {h : am_H} {r : Option am_Res} (hc : am_code m pc = some (.iinc i c, 3)) (hz : (Nat.beq m 276 && Nat.beq pc 1533) = true) (hr : am_hl lv st h = .inl r) : am_E d m pc lv st h = r := by
  refine n_done ((n_act hc).trans ?_)
  show (bif (Nat.beq m 276 && Nat.beq pc 1533) then am_hl lv st h else _) = _
  rw [hz]
  exact hr
theorem n_hT {d m pc i : Nat} {lv : am_L} {st : List am_V} {h : am_H} {r : Option am_Res} (hc : am_code m pc = some (.invokestatic i, 3)) (hp : am_pool m i = none) (hz : (Nat.beq m 276 && Nat.beq pc 374) = true) (hr : am_hT lv st h = .inl r) : am_E d m pc lv st h = r := by
  refine n_done ((n_act hc).trans ?_)
  unfold am_act1
  dsimp only
  rw [hp]
  dsimp only
  rw [hz]
  exact hr
