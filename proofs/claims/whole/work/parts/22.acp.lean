/-! THE ABSTRACT MACHINE'S RUNS ARE THE REAL ONE'S: System.arraycopy -/
section AMY
variable {l : Launch} {p : Program} {e : Env} {R : Room} {s : State} {mt : MethodId} {args : Array Value} {below : List Frame} {meth : Method} {c : Code} {Q : State → Prop} {D : va_G} {cy : Nat → ClassId} {A : Nat → Prop} {m d c0 s0 : Nat} {r : am_Res} {ad : Nat → Nat} {h : am_H} {H : Heap} {locs : List Loc} {cells slots : Nat} {ls : Array Slot} {lv : am_L} {st : List am_V} {pc n : Nat}
/-- out of an int[] that nobody writes; after the proofs of its sisters -/
theorem am_copyt {cc : ByteArray} {cl : List vw_C} {tys : List (ClassId × FieldType)} {ws : va_W} {a : Nat} {rest : List Value} (hexec : p.tables.exec = Jvm.exec) (hb : c.code = cc) (hml : c.maxLocals = ls.size) {own : String} {index : Nat} (hown : s.vm.findClass own = some mt.cls) (hlink : (Cond.methodLink own index arraycopyName).before args s = true) (hnat : (Cond.native arraycopyName).before args s = true) (hstat : (Cond.static arraycopyName).before args s = true) (hini : (Cond.initialized "java/lang/System").before args s = true)
    (hK : va_K D cl tys s) (hP : va_P D cl ws H) (hD : va_D A ws) (hS : va_S A s.heap H locs) {b0 n0 : Nat} {f : Nat → Int32} (hX : va_T .int b0 n0 (fun j => .int (f j)) A s s.heap) (q1 t1 : Nat) {c1 : ClassId} {n1 : Nat} {g : Nat → Int32} (ha1 : ws[q1]? = some (a, .inl (c1, n1, .inl g))) (ht1 : tys[t1]? = some (c1, .int))
    {sp dp k : Int32} (h1 : ¬ sp < 0) (h2 : ¬ dp < 0) (h3 : ¬ k < 0) (h4 : sp.toNatClampNeg + k.toNatClampNeg ≤ n0) (h5 : dp.toNatClampNeg + k.toNatClampNeg ≤ n1)
    (hframes : 1 ≤ R.frames) (hlocals : (rest.map fun v => v.category).sum + (nativeFrameWords "java/lang/System" "arraycopy" 5 + 11) ≤ R.locals) (hdg : decode cc pc = .ok (.invokestatic index, 3))
    (kk : ∀ (H1 : Heap) (locs1 : List Loc), va_P D cl (ws.set q1 (a, .inl (c1, n1, .inl (va_cpy f g sp.toNatClampNeg dp.toNatClampNeg k.toNatClampNeg)))) H1 → va_D A (ws.set q1 (a, .inl (c1, n1, .inl (va_cpy f g sp.toNatClampNeg dp.toNatClampNeg k.toNatClampNeg)))) → va_S A s.heap H1 locs1 → W p l e R s mt args below meth c H1 locs1 cells slots Q (F0 mt (pc + 3) ls rest)) : W p l e R s mt args below meth c H locs cells slots Q (F0 mt pc ls (.int k :: .int dp :: .ref a :: .int sp :: .ref b0 :: rest)) := by
  have nn : ∀ z : Int32, ¬ z < 0 → z.toInt = (z.toNatClampNeg : Int) := by
    intro z hz
    have hz0 : (0 : Int) ≤ z.toInt := by
      have := Int32.not_lt.mp hz
      simpa using Int32.le_iff_toInt_le.mp this
    show z.toInt = ((z.toInt.toNat : Nat) : Int)
    omega
  intro T hT X
  obtain ⟨scr, hs1, hs2, hs3, hs4, -, hs5, hs7⟩ := hX
  have hc0 : H[b0]? = some scr := by rw [hS.2.1 b0 (Array.getElem?_eq_some_iff.mp hs1).1 hs7]; exact hs1
  have hc1 : H[a]? = some (vp_cell c1 (n1, .inl g)) := hP q1 _ ha1
  obtain ⟨hs6, k0, hk0, cm0, hkk0⟩ := hs2
  obtain ⟨-, k1, hk1, cm1, hkk1⟩ := (hK.2 t1 _ ht1).1 n1 (fun j => .int (g j))
  obtain ⟨vm', X', step⟩ := X.arraycopy hexec hown hlink hnat hstat hini (src := b0) (dst := a) (cs := scr) (cd := vp_cell c1 (n1, .inl g)) (srcPos := sp) (destPos := dp) (n := k) (by rw [hT]; exact hc0) (by rw [hT]; exact hc1)
    hs6 (fun _ h => by cases h) hs3 (fun h => by cases h) hk0 hk1 hkk0 hkk1 (by simp [refKind]) h1 h2 h3
    (by rw [nn sp h1, nn k h3]; omega)
    (by rw [nn dp h2, nn k h3]; show ¬ _ > ((arrV c1 n1 (fun j => .int (g j))).slots.size : Int); rw [arrV_size]; omega)
    (fun vm₁ _ i hi => by
      have e9 : scr.slots.getD (sp.toNatClampNeg + i) .null = .int (f (sp.toNatClampNeg + i)) := by
        rw [Array.getD_eq_getD_getElem?, hs5 _ (by omega)]
        rfl
      exact ⟨by rw [e9]; rfl, by rw [e9]; exact trivial⟩)
    (g := F0 mt pc ls (.int k :: .int dp :: .ref a :: .int sp :: .ref b0 :: rest)) rfl (by rw [hml]) (rest := rest) rfl (by rw [hb]; exact hdg) hframes (by show 2 * 0 + _ + _ ≤ _; omega)
  have e1 : copied scr (vp_cell c1 (n1, .inl g)) sp dp k = vp_cell c1 (n1, .inl (va_cpy f g sp.toNatClampNeg dp.toNatClampNeg k.toNatClampNeg)) := va_copiedX (fun z => .int z) scr c1 f g hs5 h4
  rw [e1] at X' step
  have hlt : a < H.size := (Array.getElem?_eq_some_iff.mp hc1).1
  have hheap : ((T.setVm vm').setCell a (vp_cell c1 (n1, .inl (va_cpy f g sp.toNatClampNeg dp.toNatClampNeg k.toNatClampNeg)))).heap = H.setIfInBounds a (vp_cell c1 (n1, .inl (va_cpy f g sp.toNatClampNeg dp.toNatClampNeg k.toNatClampNeg))) := by rw [← hT]; rfl
  have oq : ∀ q : Nat, q ≠ a → (H.setIfInBounds a (vp_cell c1 (n1, .inl (va_cpy f g sp.toNatClampNeg dp.toNatClampNeg k.toNatClampNeg))))[q]? = H[q]? := fun q hq => by simp [Array.getElem?_setIfInBounds, Ne.symm hq]
  obtain ⟨t, a1, b1⟩ := kk _ _ (hP.set hD ha1 (show (H.setIfInBounds a _)[a]? = some _ by simp [Array.getElem?_setIfInBounds, hlt]) oq) (hD.set ha1) ⟨by simp; exact hS.1, fun q g1 g2 => by
      rw [oq q (fun e9 => g2 (by rw [e9]; exact hD.2 q1 _ ha1))]
      exact hS.2.1 q g1 g2, fun q hq => by
      rcases List.mem_append.mp hq with h9 | h9
      · exact hS.2.2 q h9
      · obtain ⟨z, -, hz⟩ := List.mem_map.mp h9
        rw [← hz]
        exact hD.2 q1 _ ha1⟩ _ hheap X'
  exact ⟨t, step t a1, b1⟩
theorem am_nfw : nativeFrameWords "java/lang/System" "arraycopy" 5 + 11 ≤ 32 := by decide +kernel
theorem am_cpf {a b sp dp k : Nat} : (fun j => Int32.ofInt (am_cp h.2.2.1 a b sp dp k b j)) = va_cpy (fun j => Int32.ofInt (h.2.2.1 a j)) (fun j => Int32.ofInt (h.2.2.1 b j)) sp dp k := by
  funext j
  unfold am_cp va_cpy
  by_cases e9 : dp ≤ j ∧ j < dp + k
  · rw [if_pos ⟨rfl, e9.1, e9.2⟩, if_pos e9]
  · rw [if_neg (fun z => e9 z.2), if_neg e9]
theorem am_cp_ne {f : Nat → Nat → Int} {a b sp dp k q j : Nat} (hq : q ≠ b) : am_cp f a b sp dp k q j = f q j := if_neg (fun z => hq z.1)
theorem am_Rp_cp {a b sp dp k : Nat} (hR : am_Rp D cy ad A s h H locs) (hb20 : (am_kl h b).1 = 20) (hak : ∀ j, j < (am_kl h a).2 → am_R32 (h.2.2.1 a j)) (h4 : sp + k ≤ (am_kl h a).2) {H1 : Heap} {locs1 : List Loc} (hP : va_P D vwCl ((am_ws cy ad h).set b (ad b, .inl (cy (am_kl h b).1, (am_kl h b).2, .inl (va_cpy (fun j => Int32.ofInt (h.2.2.1 a j)) (fun j => Int32.ofInt (h.2.2.1 b j)) sp dp k)))) H1) (hD : va_D A ((am_ws cy ad h).set b (ad b, .inl (cy (am_kl h b).1, (am_kl h b).2, .inl (va_cpy (fun j => Int32.ofInt (h.2.2.1 a j)) (fun j => Int32.ofInt (h.2.2.1 b j)) sp dp k))))) (hS : va_S A s.heap H1 locs1) : am_Rp D cy ad A s (h.1, h.2.1, am_cp h.2.2.1 a b sp dp k, h.2.2.2) H1 locs1 := by
  have hG := hR.2.2.2.2.2.1
  obtain ⟨a1, a2, a3, a4⟩ := am_arr_at (cy := cy) (ad := ad) hG (q := b) (by omega) (by omega)
  refine am_Rp_put hR (h' := (h.1, h.2.1, am_cp h.2.2.1 a b sp dp k, h.2.2.2)) ?_ hP hD hS ?_ (fun x j hx => am_cp_ne (by omega)) rfl
  · refine am_ws_set rfl a1 (fun x kl' hx' _ => am_ce_ne (fun j => rfl) (fun j => am_cp_ne hx')) ?_
    rw [am_ce_int (by omega) (by omega)]
    show Sum.inl (cy (am_kl h b).1, (am_kl h b).2, Sum.inl (fun j => Int32.ofInt (am_cp h.2.2.1 a b sp dp k b j))) = _
    rw [am_cpf]
  · obtain ⟨g0, g1, g2⟩ := hG
    refine ⟨g0, fun q kl hq => ?_, fun q j hq => ?_⟩
    · obtain ⟨c1, c2⟩ := g1 q kl hq
      refine ⟨fun hk => ?_, fun hk => ?_⟩
      · obtain ⟨d1, d2, d3⟩ := c1 hk
        refine ⟨d1, d2, fun j hj => ?_⟩
        have hqb : q ≠ b := by
          intro e9
          subst e9
          have hq : h.1[q]? = some kl := hq
          rw [a1] at hq
          cases hq
          omega
        rw [am_fv_ne (h := h) (h' := (h.1, h.2.1, am_cp h.2.2.1 a b sp dp k, h.2.2.2)) rfl (am_cp_ne hqb)]
        exact d3 j hj
      · obtain ⟨d1, d2, d3⟩ := c2 hk
        refine ⟨d1, fun h23 j hj => ?_, fun h23 j hj => ?_⟩
        · have hqb : q ≠ b := by
            intro e9
            subst e9
            have hq : h.1[q]? = some kl := hq
            rw [a1] at hq
            cases hq
            omega
          show am_R64 (am_cp h.2.2.1 a b sp dp k q j)
          rw [am_cp_ne hqb]
          exact d2 h23 j hj
        · show am_R32 (am_cp h.2.2.1 a b sp dp k q j)
          unfold am_cp
          by_cases e9 : q = b ∧ dp ≤ j ∧ j < dp + k
          · rw [if_pos e9]
            exact hak _ (by omega)
          · rw [if_neg e9]
            exact d3 h23 j hj
    · show am_R32 (am_cp h.2.2.1 a b sp dp k q j)
      rw [am_cp_ne (by omega)]
      exact g2 q j hq
theorem s_acp {idx a' b' w : Nat} {z : Int} (hd : decode (am_M m).2.1 pc = .ok (.invokestatic idx, 3)) (hp : am_pool m idx = some (6, a', b', z, w)) (ih : am_Sd l n) (X : am_Cx l p e R s mt args below meth c Q D cy A m d c0 s0 r ad h H locs cells slots) (hl : am_lr ad h.1.length ls (am_M m).2.2.1 lv) (hs : am_so h.1.length st) (hx : am_FA (am_x n) d m lv h (am_acp d pc lv st h) = some r) : am_Wc l p e R s mt args below meth c Q H locs cells slots pc ls (st.map (am_av ad)) := by
  have w1 : Cond.methodLink (am_cn (am_own m)) idx arraycopyName ∈ am_ts := am_pool_ok hp
  unfold am_acp at hx
  split at hx
  · rename_i k dp b sp a rest
    cases hg : (Nat.ble 1 d && am_rm rest) with
    | false => rw [hg] at hx; cases hx
    | true =>
      rw [hg] at hx
      obtain ⟨hb, hx⟩ := am_FA_ck hx
      rw [Bool.and_eq_true] at hg
      have g1 := Nat.le_of_ble_eq_true hg.1
      have g2 := am_rm_av (ad := ad) hg.2
      have g3 := am_nfw
      obtain ⟨Xr1, Xr2⟩ := X.2.2.2.1
      obtain ⟨hex, hcb, hml, hown, hts, -⟩ := X.1
      obtain ⟨hK, hP, hD, hS, hA, hG, hXx⟩ := id X.2.2.1
      unfold am_cpk at hb
      simp only [Bool.and_eq_true, Bool.or_eq_true, decide_eq_true_eq] at hb
      obtain ⟨⟨⟨⟨b1, b2⟩, b3⟩, b4⟩, b5⟩ := hb
      have b1 := Nat.eq_of_beq_eq_true b1
      have b4 := Nat.le_of_ble_eq_true b4
      have b5 := Nat.le_of_ble_eq_true b5
      have rk : am_R32 k := am_so_hd hs
      have rdp : am_R32 dp := am_so_hd (am_so_tl hs)
      have rsp : am_R32 sp := am_so_hd (am_so_tl (am_so_tl (am_so_tl hs)))
      obtain ⟨a1, a2, a3, a4⟩ := am_arr_at (cy := cy) (ad := ad) hG (q := b) (by omega) (by omega)
      have hso : am_so h.1.length rest := am_so_tl (am_so_tl (am_so_tl (am_so_tl (am_so_tl hs))))
      show am_Wc l p e R s mt args below meth c Q H locs cells slots pc ls (.int (Int32.ofInt k) :: .int (Int32.ofInt dp) :: am_av ad (.inr (.inr b)) :: .int (Int32.ofInt sp) :: am_av ad (.inr (.inr a)) :: rest.map (am_av ad))
      rw [am_ref_av a2]
      rcases b2 with b2 | b2
      · have b2 := Nat.eq_of_beq_eq_true b2
        obtain ⟨q1, q2, q3, q4⟩ := am_arr_at (cy := cy) (ad := ad) hG (q := a) (by omega) (by omega)
        rw [am_ref_av q2]
        refine va_copyi hex hcb (hml.trans hl.2.1.1.symm) hown (hts _ w1) (hts _ am_nat_acp) (hts _ am_sta_acp) (hts _ am_ini_sys) hK hP hD hS a b 0 0 (n0 := (am_kl h a).2) (n1 := (am_kl h b).2) (ty := .int) q3 a3 (by rw [b2]; rfl) (by rw [b1]; rfl) rfl (am_neg rsp b3.2.2) (am_neg rdp b3.2.1) (am_neg rk b3.1) (by rw [am_nn rsp, am_nn rk]; exact b4) (by rw [am_nn rdp, am_nn rk]; exact b5) (fun _ _ => rfl) (by omega) (by omega) hd (fun H1 locs1 P1 D1 S1 => ?_)
        rw [am_nn rsp, am_nn rdp, am_nn rk] at P1 D1
        exact s_same ih X hl hso (h' := (h.1, h.2.1, am_cp h.2.2.1 a b sp.toNat dp.toNat k.toNat, h.2.2.2)) rfl rfl (am_Rp_cp X.2.2.1 b1 q4 b4 P1 D1 S1) hx
      · have b2 := Nat.eq_of_beq_eq_true b2
        obtain ⟨j, hj, hq⟩ := am_kl_24 hG b2
        subst hq
        rw [am_ref_av2 (show 1000000 + j ≠ 999999 by omega)]
        refine am_copyt hex hcb (hml.trans hl.2.1.1.symm) hown (hts _ w1) (hts _ am_nat_acp) (hts _ am_sta_acp) (hts _ am_ini_sys) hK hP hD hS (hXx.2.2.1 j hj) b 0 (n1 := (am_kl h b).2) a3 (by rw [b1]; rfl) (am_neg rsp b3.2.2) (am_neg rdp b3.2.1) (am_neg rk b3.1) (by rw [am_nn rsp, am_nn rk]; exact b4) (by rw [am_nn rdp, am_nn rk]; exact b5) (by omega) (by omega) hd (fun H1 locs1 P1 D1 S1 => ?_)
        rw [am_nn rsp, am_nn rdp, am_nn rk] at P1 D1
        exact s_same ih X hl hso (h' := (h.1, h.2.1, am_cp h.2.2.1 (1000000 + j) b sp.toNat dp.toNat k.toNat, h.2.2.2)) rfl rfl (am_Rp_cp X.2.2.1 b1 (fun i _ => hG.2.2 _ _ (by omega)) b4 P1 D1 S1) hx
  · cases hx
end AMY
