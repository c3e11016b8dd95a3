/-! THE ABSTRACT MACHINE'S RUNS ARE THE REAL ONE'S: stores into arrays, new cells -/
section AMS
variable {l : Launch} {p : Program} {e : Env} {R : Room} {s : State} {mt : MethodId} {args : Array Value} {below : List Frame} {meth : Method} {c : Code} {Q : State → Prop} {D : va_G} {cy : Nat → ClassId} {A : Nat → Prop} {m d c0 s0 : Nat} {r : am_Res} {ad : Nat → Nat} {h : am_H} {H : Heap} {locs : List Loc} {cells slots : Nat} {ls : Array Slot} {lv : am_L} {st : List am_V} {pc n : Nat}
/-- going on with a heap of the same shapes -/
theorem s_same {h' : am_H} {H1 : Heap} {locs1 : List Loc} {pc' : Nat} {st' : List am_V} (ih : am_Sd l n) (X : am_Cx l p e R s mt args below meth c Q D cy A m d c0 s0 r ad h H locs cells slots) (hl : am_lr ad h.1.length ls (am_M m).2.2.1 lv) (hs : am_so h.1.length st') (h1 : h'.1 = h.1) (h4 : h'.2.2.2 = h.2.2.2) (hR : am_Rp D cy ad A s h' H1 locs1) (hx : am_x n d m pc' lv st' h' = some r) : am_Wc l p e R s mt args below meth c Q H1 locs1 cells slots pc' ls (st'.map (am_av ad)) := by
  obtain ⟨XC, Xd, XR, Xr, Xn, Xm, Xf⟩ := X
  exact ih _ _ _ _ _ _ _ hx _ _ _ _ _ _ _ _ _ _ _ _ _ _ _ _ _ _ _ _ _ ⟨XC, Xd, hR, Xr, by rw [h4]; exact Xn, Xm, by rw [h1]; exact Xf⟩ (by rw [h1]; exact hl) (by rw [h1]; exact hs)
theorem am_ust {q k : Nat} {z : Int} : (fun j => Int32.ofInt (am_up h.2.2.1 q k z q j)) = upd (fun j => Int32.ofInt (h.2.2.1 q j)) k (Int32.ofInt z) := by
  funext j
  unfold upd
  by_cases e : j = k
  · subst e
    rw [am_up_eq, if_pos rfl]
  · rw [am_up_no (fun g => e g.2), if_neg e]
theorem am_ustL {q k : Nat} {z : Int} : (fun j => Int64.ofInt (am_up h.2.2.1 q k z q j)) = vp_updL (fun j => Int64.ofInt (h.2.2.1 q j)) k (Int64.ofInt z) := by
  funext j
  unfold vp_updL
  by_cases e : j = k
  · subst e
    rw [am_up_eq, if_pos rfl]
  · rw [am_up_no (fun g => e g.2), if_neg e]
/-- a store into an array of ints, bytes or booleans -/
theorem am_Rp_ast {q k : Nat} {z : Int} (hR : am_Rp D cy ad A s h H locs) (h20 : 20 ≤ (am_kl h q).1) (h22 : (am_kl h q).1 ≤ 22) (hz : am_R32 z) {H1 : Heap} {locs1 : List Loc} (hP : va_P D vwCl ((am_ws cy ad h).set q (ad q, .inl (cy (am_kl h q).1, (am_kl h q).2, .inl (upd (fun j => Int32.ofInt (h.2.2.1 q j)) k (Int32.ofInt z))))) H1) (hD : va_D A ((am_ws cy ad h).set q (ad q, .inl (cy (am_kl h q).1, (am_kl h q).2, .inl (upd (fun j => Int32.ofInt (h.2.2.1 q j)) k (Int32.ofInt z)))))) (hS : va_S A s.heap H1 locs1) : am_Rp D cy ad A s (am_wr h q k z) H1 locs1 := by
  have hG := hR.2.2.2.2.2.1
  obtain ⟨a1, a2, a3, a4⟩ := am_arr_at (cy := cy) (ad := ad) hG h20 h22
  refine am_Rp_put hR (h' := am_wr h q k z) ?_ hP hD hS ?_ (fun x j hx => am_up_ne (by omega)) rfl
  · refine am_ws_set rfl a1 (fun x kl' hx' _ => am_ce_ne (fun j => rfl) (fun j => am_up_ne hx')) ?_
    rw [am_ce_int h20 (by omega)]
    show Sum.inl (cy (am_kl h q).1, (am_kl h q).2, Sum.inl (fun j => Int32.ofInt (am_up h.2.2.1 q k z q j))) = _
    rw [am_ust]
  · refine am_G_put hG rfl (by omega) (k := k) (p := q) (fun x j _ => rfl) (fun x j hj => am_up_no hj) (fun kl hkl h9 _ => ?_) (fun kl hkl h9 _ => ?_) (fun kl hkl _ _ _ => ?_)
    · rw [a1] at hkl
      cases hkl
      omega
    · rw [a1] at hkl
      cases hkl
      omega
    · show am_R32 (am_up h.2.2.1 q k z q k)
      rw [am_up_eq]
      exact hz
theorem s_iast (hd : decode (am_M m).2.1 pc = .ok (.iastore, 1)) (ih : am_Sd l n) (X : am_Cx l p e R s mt args below meth c Q D cy A m d c0 s0 r ad h H locs cells slots) (hl : am_lr ad h.1.length ls (am_M m).2.2.1 lv) (hs : am_so h.1.length st) (hx : am_FA (am_x n) d m lv h (am_iast pc lv st h) = some r) : am_Wc l p e R s mt args below meth c Q H locs cells slots pc ls (st.map (am_av ad)) := by
  unfold am_iast at hx
  split at hx
  · rename_i z i q rest
    obtain ⟨hb, hx⟩ := am_FA_ck hx
    unfold am_w20 at hb
    rw [Bool.and_eq_true] at hb
    obtain ⟨hex, hcb, hml, hown, hts, -⟩ := X.1
    obtain ⟨hK, hP, hD, hS, hA, hG, hXx⟩ := id X.2.2.1
    have hz : am_R32 z := am_so_hd hs
    have hi : am_R32 i := am_so_hd (am_so_tl hs)
    have hin := am_vin hi hb.2
    have ek := Nat.eq_of_beq_eq_true hb.1
    obtain ⟨a1, a2, a3, a4⟩ := am_arr_at (cy := cy) (ad := ad) hG (q := q) (by omega) (by omega)
    show am_Wc l p e R s mt args below meth c Q H locs cells slots pc ls (.int (Int32.ofInt z) :: .int (Int32.ofInt i) :: am_av ad (.inr (.inr q)) :: rest.map (am_av ad))
    rw [am_ref_av a2]
    refine va_iast hex hcb hK hP hD hS q 0 (n := (am_kl h q).2) a3 (by rw [ek]; rfl) hin hd (fun H1 locs1 P1 D1 S1 => ?_)
    rw [am_nn hi] at P1 D1
    exact s_same ih X hl (am_so_tl (am_so_tl (am_so_tl hs))) (h' := am_wr h q i.toNat z) rfl rfl (am_Rp_ast X.2.2.1 (by omega) (by omega) hz P1 D1 S1) hx
  · cases hx
theorem am_nar_b (z : Int) : vp_nar .byte (Int32.ofInt z) = Int32.ofInt (am_b z) := by
  unfold am_b
  rw [Int32.ofInt_toInt]
  rfl
theorem am_nar_z (z : Int) : vp_nar .boolean (Int32.ofInt z) = Int32.ofInt (am_and z 1) := by
  unfold am_and
  rw [Int32.ofInt_toInt]
  rfl
theorem s_bast (hd : decode (am_M m).2.1 pc = .ok (.bastore, 1)) (ih : am_Sd l n) (X : am_Cx l p e R s mt args below meth c Q D cy A m d c0 s0 r ad h H locs cells slots) (hl : am_lr ad h.1.length ls (am_M m).2.2.1 lv) (hs : am_so h.1.length st) (hx : am_FA (am_x n) d m lv h (am_bast pc lv st h) = some r) : am_Wc l p e R s mt args below meth c Q H locs cells slots pc ls (st.map (am_av ad)) := by
  unfold am_bast at hx
  split at hx
  · rename_i z i q rest
    obtain ⟨hb, hx⟩ := am_FA_ck hx
    unfold am_b21 at hb
    rw [Bool.and_eq_true, Bool.or_eq_true] at hb
    obtain ⟨hex, hcb, hml, hown, hts, -⟩ := X.1
    obtain ⟨hK, hP, hD, hS, hA, hG, hXx⟩ := id X.2.2.1
    have hi : am_R32 i := am_so_hd (am_so_tl hs)
    have hin := am_vin hi hb.2
    show am_Wc l p e R s mt args below meth c Q H locs cells slots pc ls (.int (Int32.ofInt z) :: .int (Int32.ofInt i) :: am_av ad (.inr (.inr q)) :: rest.map (am_av ad))
    rcases hb.1 with h21 | h22
    · have ek := Nat.eq_of_beq_eq_true h21
      obtain ⟨a1, a2, a3, a4⟩ := am_arr_at (cy := cy) (ad := ad) hG (q := q) (by omega) (by omega)
      rw [am_ref_av a2]
      refine va_bast hex hcb hK hP hD hS q 1 (n := (am_kl h q).2) a3 (by rw [ek]; rfl) hin hd (fun H1 locs1 P1 D1 S1 => ?_)
      rw [am_nn hi, am_nar_b] at P1 D1
      have hv : am_bv (am_kl h q) z = am_b z := by unfold am_bv; rw [h21]; rfl
      rw [hv] at hx
      exact s_same ih X hl (am_so_tl (am_so_tl (am_so_tl hs))) (h' := am_wr h q i.toNat (am_b z)) rfl rfl (am_Rp_ast X.2.2.1 (by omega) (by omega) (am_R32_of _) P1 D1 S1) hx
    · have ek := Nat.eq_of_beq_eq_true h22
      obtain ⟨a1, a2, a3, a4⟩ := am_arr_at (cy := cy) (ad := ad) hG (q := q) (by omega) (by omega)
      rw [am_ref_av a2]
      refine va_zast hex hcb hK hP hD hS q 2 (n := (am_kl h q).2) a3 (by rw [ek]; rfl) hin hd (fun H1 locs1 P1 D1 S1 => ?_)
      rw [am_nn hi, am_nar_z] at P1 D1
      have hv : am_bv (am_kl h q) z = am_and z 1 := by unfold am_bv; rw [ek]; rfl
      rw [hv] at hx
      exact s_same ih X hl (am_so_tl (am_so_tl (am_so_tl hs))) (h' := am_wr h q i.toNat (am_and z 1)) rfl rfl (am_Rp_ast X.2.2.1 (by omega) (by omega) (am_R32_of _) P1 D1 S1) hx
  · cases hx
theorem s_last (hd : decode (am_M m).2.1 pc = .ok (.lastore, 1)) (ih : am_Sd l n) (X : am_Cx l p e R s mt args below meth c Q D cy A m d c0 s0 r ad h H locs cells slots) (hl : am_lr ad h.1.length ls (am_M m).2.2.1 lv) (hs : am_so h.1.length st) (hx : am_FA (am_x n) d m lv h (am_last pc lv st h) = some r) : am_Wc l p e R s mt args below meth c Q H locs cells slots pc ls (st.map (am_av ad)) := by
  unfold am_last at hx
  split at hx
  · rename_i z i q rest
    obtain ⟨hb, hx⟩ := am_FA_ck hx
    unfold am_l23 at hb
    rw [Bool.and_eq_true] at hb
    obtain ⟨hex, hcb, hml, hown, hts, -⟩ := X.1
    obtain ⟨hK, hP, hD, hS, hA, hG, hXx⟩ := id X.2.2.1
    have hz : am_R64 z := am_so_hd hs
    have hi : am_R32 i := am_so_hd (am_so_tl hs)
    have hin := am_vin hi hb.2
    have ek := Nat.eq_of_beq_eq_true hb.1
    obtain ⟨a1, a2, a3, a4⟩ := am_arl_at (cy := cy) (ad := ad) hG (q := q) ek
    show am_Wc l p e R s mt args below meth c Q H locs cells slots pc ls (.long (Int64.ofInt z) :: .int (Int32.ofInt i) :: am_av ad (.inr (.inr q)) :: rest.map (am_av ad))
    rw [am_ref_av a2]
    refine va_last hex hcb hK hP hD hS q 3 (n := (am_kl h q).2) a3 rfl hin hd (fun H1 locs1 P1 D1 S1 => ?_)
    rw [am_nn hi] at P1 D1
    refine s_same ih X hl (am_so_tl (am_so_tl (am_so_tl hs))) rfl rfl (h' := am_wr h q i.toNat z) (am_Rp_put X.2.2.1 ?_ P1 D1 S1 ?_ (fun x j hx => am_up_ne (by omega)) rfl) hx
    · refine am_ws_set rfl a1 (fun x kl' hx' _ => am_ce_ne (fun j => rfl) (fun j => am_up_ne hx')) ?_
      rw [am_ce_long ek]
      show Sum.inl (cy 23, (am_kl h q).2, Sum.inr (Sum.inl (fun j => Int64.ofInt (am_up h.2.2.1 q i.toNat z q j)))) = _
      rw [am_ustL]
    · refine am_G_put hG rfl (by omega) (k := i.toNat) (p := q) (fun x j _ => rfl) (fun x j hj => am_up_no hj) (fun kl hkl h9 _ => ?_) (fun kl hkl h9 _ => ?_) (fun kl hkl h20 h9 _ => ?_)
      · rw [a1] at hkl
        cases hkl
        omega
      · show am_R64 (am_up h.2.2.1 q i.toNat z q i.toNat)
        rw [am_up_eq]
        exact hz
      · rw [a1] at hkl
        cases hkl
        exact absurd ek h9
  · cases hx
theorem s_alen (hd : decode (am_M m).2.1 pc = .ok (.arraylength, 1)) (ih : am_Sd l n) (X : am_Cx l p e R s mt args below meth c Q D cy A m d c0 s0 r ad h H locs cells slots) (hl : am_lr ad h.1.length ls (am_M m).2.2.1 lv) (hs : am_so h.1.length st) (hx : am_FA (am_x n) d m lv h (am_alen pc lv st h) = some r) : am_Wc l p e R s mt args below meth c Q H locs cells slots pc ls (st.map (am_av ad)) := by
  unfold am_alen at hx
  split at hx
  · rename_i q rest
    obtain ⟨hb, hx⟩ := am_FA_ck hx
    unfold am_lnk at hb
    rw [Bool.and_eq_true, Bool.and_eq_true] at hb
    obtain ⟨⟨b1, b2⟩, b3⟩ := hb
    have b1 := Nat.le_of_ble_eq_true b1
    have b2 := Nat.le_of_ble_eq_true b2
    have b3 : (am_kl h q).2 < 2147483648 := Nat.blt_eq.mp b3
    obtain ⟨hex, hcb, hml, hown, hts, -⟩ := X.1
    obtain ⟨hK, hP, hD, hS, hA, hG, hXx⟩ := id X.2.2.1
    have hv : am_okv h.1.length (.inl ((am_kl h q).2 : Int)) := ⟨by omega, by omega⟩
    have hnum : Int32.ofNat (am_kl h q).2 = Int32.ofInt ((am_kl h q).2 : Int) := rfl
    show am_Wc l p e R s mt args below meth c Q H locs cells slots pc ls (am_av ad (.inr (.inr q)) :: rest.map (am_av ad))
    by_cases h24 : (am_kl h q).1 = 24
    · obtain ⟨k, hk, hq⟩ := am_kl_24 hG h24
      subst hq
      have hav : am_av ad (.inr (.inr (1000000 + k))) = .ref (ad (1000000 + k)) := if_neg (by omega)
      rw [hav]
      refine va_tlen hex hcb (hXx.2.2.1 k hk) hS hnum hd ?_
      exact s_push ih X hl (am_so_tl hs) hv hx rfl
    · by_cases h23 : (am_kl h q).1 = 23
      · obtain ⟨a1, a2, a3, a4⟩ := am_arl_at (cy := cy) (ad := ad) hG (q := q) h23
        rw [am_ref_av a2]
        refine va_alen hex hcb hK hP q 3 a3 (ty := .long) rfl hnum hd ?_
        exact s_push ih X hl (am_so_tl hs) hv hx rfl
      · obtain ⟨a1, a2, a3, a4⟩ := am_arr_at (cy := cy) (ad := ad) hG (q := q) (by omega) (by omega)
        rw [am_ref_av a2]
        have h3 : (am_kl h q).1 = 20 ∨ (am_kl h q).1 = 21 ∨ (am_kl h q).1 = 22 := by omega
        rcases h3 with h3 | h3 | h3
        · refine va_alen hex hcb hK hP q 0 a3 (ty := .int) (by rw [h3]; rfl) hnum hd ?_
          exact s_push ih X hl (am_so_tl hs) hv hx rfl
        · refine va_alen hex hcb hK hP q 1 a3 (ty := .byte) (by rw [h3]; rfl) hnum hd ?_
          exact s_push ih X hl (am_so_tl hs) hv hx rfl
        · refine va_alen hex hcb hK hP q 2 a3 (ty := .boolean) (by rw [h3]; rfl) hnum hd ?_
          exact s_push ih X hl (am_so_tl hs) hv hx rfl
  · cases hx
end AMS
