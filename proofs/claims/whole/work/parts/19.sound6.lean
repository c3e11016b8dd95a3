/-! THE ABSTRACT MACHINE'S RUNS ARE THE REAL ONE'S: new, statics, Math, Object's constructor -/
section AMO
variable {l : Launch} {p : Program} {e : Env} {R : Room} {s : State} {mt : MethodId} {args : Array Value} {below : List Frame} {meth : Method} {c : Code} {Q : State → Prop} {D : va_G} {cy : Nat → ClassId} {A : Nat → Prop} {m d c0 s0 : Nat} {r : am_Res} {ad : Nat → Nat} {h : am_H} {H : Heap} {locs : List Loc} {cells slots : Nat} {ls : Array Slot} {lv : am_L} {st : List am_V} {pc n : Nat}
theorem am_mk_room {k N pc' : Nat} {lv' : am_L} {st' : List am_V} (X : am_Cx l p e R s mt args below meth c Q D cy A m d c0 s0 r ad h H locs cells slots) (hx : am_x n d m pc' lv' st' (am_mk h k N) = some r) : cells + 1 ≤ R.cells ∧ slots + N ≤ R.slots := by
  have g := am_x_grow _ _ _ _ _ _ _ _ hx
  have g1 : h.2.2.2.1 + 1 ≤ r.2.2.2.2.1 := g.1
  have g2 : h.2.2.2.2.1 + N ≤ r.2.2.2.2.2.1 := g.2.1
  obtain ⟨-, -, -, -, Xn, Xm, -⟩ := X
  omega
theorem am_ce_new {k N a : Nat} (h20 : 20 ≤ k) (h22 : k ≠ 23) : am_ce cy (am_ad ad h.1.length a) (am_mk h k N) h.1.length (k, N) = .inl (cy k, N, .inl (fun _ => 0)) := by
  rw [am_ce_int h20 h22]
  have e2 : (fun j => Int32.ofInt ((am_mk h k N).2.2.1 h.1.length j)) = fun _ => (0 : Int32) := by
    funext j
    rw [show (am_mk h k N).2.2.1 h.1.length j = 0 from if_pos rfl]
    rfl
  rw [e2]
theorem am_ce_newL {N a : Nat} : am_ce cy (am_ad ad h.1.length a) (am_mk h 23 N) h.1.length (23, N) = .inl (cy 23, N, .inr (.inl (fun _ => 0))) := by
  rw [am_ce_long rfl]
  have e2 : (fun j => Int64.ofInt ((am_mk h 23 N).2.2.1 h.1.length j)) = fun _ => (0 : Int64) := by
    funext j
    rw [show (am_mk h 23 N).2.2.1 h.1.length j = 0 from if_pos rfl]
    rfl
  rw [e2]
theorem am_neg {z : Int} (hz : am_R32 z) (h0 : 0 ≤ z) : ¬ Int32.ofInt z < 0 := by
  rw [← am_o0, am_lt hz am_R0]
  omega
theorem s_newa {a : ArrayType} (hd : decode (am_M m).2.1 pc = .ok (.newarray a, 2)) (ih : am_Sd l n) (X : am_Cx l p e R s mt args below meth c Q D cy A m d c0 s0 r ad h H locs cells slots) (hl : am_lr ad h.1.length ls (am_M m).2.2.1 lv) (hs : am_so h.1.length st) (hx : am_FA (am_x n) d m lv h (am_newa a pc lv st h) = some r) : am_Wc l p e R s mt args below meth c Q H locs cells slots pc ls (st.map (am_av ad)) := by
  unfold am_newa at hx
  split at hx
  · rename_i z rest
    obtain ⟨hex, hcb, hml, hown, hts, -⟩ := X.1
    obtain ⟨hK, hP, hD, hS, hA, hG, hXx⟩ := id X.2.2.1
    have hz : am_R32 z := am_so_hd hs
    split at hx
    · obtain ⟨hb, hx⟩ := am_FA_ck hx
      rw [Bool.and_eq_true, decide_eq_true_eq] at hb
      obtain ⟨⟨b1, b2⟩, b3⟩ := hb
      have b3 : h.1.length < 999999 := Nat.blt_eq.mp b3
      obtain ⟨r1, r2⟩ := am_mk_room X hx
      refine va_newa (atype := .int) (ty := .int) (n := Int32.ofInt z) (N' := z.toNat) (a0 := (z.toNat, .inl (fun _ => 0))) hex hcb (hts _ am_arc_int) rfl hK hP hD hS hA (fun _ => rfl) (am_neg hz b1) (am_nn hz) (by show z.toNat * 4 ≤ _; omega) r1 r2 hd (fun q cA H1 K1 P1 D1 S1 => ?_)
      have hc : cA = cy 20 := Option.some.inj (((K1.2 4 (cA, .int) rfl).2).symm.trans (hK.2 0 (cy 20, .int) rfl).2)
      subst hc
      refine s_mk ih X hl (am_so_tl hs) b3 (Or.inr ⟨by decide, by decide⟩) (k := 20) ?_ ?_ S1 hx
      · rw [am_ce_new (by decide) (by decide)]; exact P1
      · rw [am_ce_new (by decide) (by decide)]; exact D1
    · obtain ⟨hb, hx⟩ := am_FA_ck hx
      rw [Bool.and_eq_true, decide_eq_true_eq] at hb
      obtain ⟨⟨b1, b2⟩, b3⟩ := hb
      have b3 : h.1.length < 999999 := Nat.blt_eq.mp b3
      obtain ⟨r1, r2⟩ := am_mk_room X hx
      refine va_newa (atype := .byte) (ty := .byte) (n := Int32.ofInt z) (N' := z.toNat) (a0 := (z.toNat, .inl (fun _ => 0))) hex hcb (hts _ am_arc_byte) rfl hK hP hD hS hA (fun _ => rfl) (am_neg hz b1) (am_nn hz) (by show z.toNat * 1 ≤ _; omega) r1 r2 hd (fun q cA H1 K1 P1 D1 S1 => ?_)
      have hc : cA = cy 21 := Option.some.inj (((K1.2 4 (cA, .byte) rfl).2).symm.trans (hK.2 1 (cy 21, .byte) rfl).2)
      subst hc
      refine s_mk ih X hl (am_so_tl hs) b3 (Or.inr ⟨by decide, by decide⟩) (k := 21) ?_ ?_ S1 hx
      · rw [am_ce_new (by decide) (by decide)]; exact P1
      · rw [am_ce_new (by decide) (by decide)]; exact D1
    · obtain ⟨hb, hx⟩ := am_FA_ck hx
      rw [Bool.and_eq_true, decide_eq_true_eq] at hb
      obtain ⟨⟨b1, b2⟩, b3⟩ := hb
      have b3 : h.1.length < 999999 := Nat.blt_eq.mp b3
      obtain ⟨r1, r2⟩ := am_mk_room X hx
      refine va_newa (atype := .boolean) (ty := .boolean) (n := Int32.ofInt z) (N' := z.toNat) (a0 := (z.toNat, .inl (fun _ => 0))) hex hcb (hts _ am_arc_boolean) rfl hK hP hD hS hA (fun _ => rfl) (am_neg hz b1) (am_nn hz) (by show z.toNat * 1 ≤ _; omega) r1 r2 hd (fun q cA H1 K1 P1 D1 S1 => ?_)
      have hc : cA = cy 22 := Option.some.inj (((K1.2 4 (cA, .boolean) rfl).2).symm.trans (hK.2 2 (cy 22, .boolean) rfl).2)
      subst hc
      refine s_mk ih X hl (am_so_tl hs) b3 (Or.inr ⟨by decide, by decide⟩) (k := 22) ?_ ?_ S1 hx
      · rw [am_ce_new (by decide) (by decide)]; exact P1
      · rw [am_ce_new (by decide) (by decide)]; exact D1
    · obtain ⟨hb, hx⟩ := am_FA_ck hx
      rw [Bool.and_eq_true, decide_eq_true_eq] at hb
      obtain ⟨⟨b1, b2⟩, b3⟩ := hb
      have b3 : h.1.length < 999999 := Nat.blt_eq.mp b3
      obtain ⟨r1, r2⟩ := am_mk_room X hx
      refine va_newa (atype := .long) (ty := .long) (n := Int32.ofInt z) (N' := z.toNat) (a0 := (z.toNat, .inr (.inl (fun _ => 0)))) hex hcb (hts _ am_arc_long) rfl hK hP hD hS hA (fun _ => rfl) (am_neg hz b1) (am_nn hz) (by show z.toNat * 8 ≤ _; omega) r1 r2 hd (fun q cA H1 K1 P1 D1 S1 => ?_)
      have hc : cA = cy 23 := Option.some.inj (((K1.2 4 (cA, .long) rfl).2).symm.trans (hK.2 3 (cy 23, .long) rfl).2)
      subst hc
      refine s_mk ih X hl (am_so_tl hs) b3 (Or.inr ⟨by decide, by decide⟩) (k := 23) ?_ ?_ S1 hx
      · rw [am_ce_newL]; exact P1
      · rw [am_ce_newL]; exact D1
    · cases hx
  · cases hx
theorem s_new {idx ci k w : Nat} {z : Int} (hd : decode (am_M m).2.1 pc = .ok (.new idx, 3)) (hp : am_pool m idx = some (7, ci, k, z, w)) (ih : am_Sd l n) (X : am_Cx l p e R s mt args below meth c Q D cy A m d c0 s0 r ad h H locs cells slots) (hl : am_lr ad h.1.length ls (am_M m).2.2.1 lv) (hs : am_so h.1.length st) (hx : am_FA (am_x n) d m lv h (am_new ci k pc lv st h) = some r) : am_Wc l p e R s mt args below meth c Q H locs cells slots pc ls (st.map (am_av ad)) := by
  obtain ⟨wl, wci, wk, wi, wn⟩ : Cond.classLink (am_cn (am_own m)) idx (am_Tf ci).1 ∈ am_ts ∧ ci < 11 ∧ k = (am_Tf ci).2.2 ∧ Cond.instantiable (am_Tf ci).1 (am_Tf ci).2.2 ∈ am_ts ∧ Cond.initialized (am_Tf ci).1 ∈ am_ts := am_pool_ok hp
  subst wk
  unfold am_new at hx
  obtain ⟨b3, hx⟩ := am_FA_ck hx
  have b3 : h.1.length < 999999 := Nat.blt_eq.mp b3
  obtain ⟨hex, hcb, hml, hown, hts, -⟩ := X.1
  obtain ⟨hK, hP, hD, hS, hA, hG, hXx⟩ := id X.2.2.1
  obtain ⟨r1, r2⟩ := am_mk_room X hx
  have hce : ∀ a, am_ce cy (am_ad ad h.1.length a) (am_mk h ci (am_Tf ci).2.2) h.1.length (ci, (am_Tf ci).2.2) = .inr (ci, (List.range (am_Tf ci).2.2).map (fun j => defaultValue (am_ty ci j))) := by
    intro a
    rw [am_ce_obj (show ((ci, (am_Tf ci).2.2) : Nat × Nat).1 < 20 by show ci < 20; omega)]
    congr 2
    apply List.map_congr_left
    intro j hj
    have hj := List.mem_range.mp hj
    have hty := am_ftyok ci wci j hj
    rw [am_fv_new]
    show am_av _ (match am_fty ci j with
      | 1 => .inr (.inl 0)
      | 2 => .inr (.inr 999999)
      | _ => .inl 0) = defaultValue (am_ty ci j)
    rw [← hty]
    have hok : am_fty ci j = 0 ∨ am_fty ci j = 1 ∨ am_fty ci j = 2 ∨ am_fty ci j = 3 := am_fk ci wci j hj
    rw [← hty] at hok
    cases hh : am_ty ci j <;> rw [hh] at hok <;> first | rfl | (exfalso; revert hok; decide)
  refine va_new (ci := ci) (fs := (List.range (am_Tf ci).2.2).map (fun j => defaultValue (am_ty ci j))) (C := (am_Tf ci).1) (T := (am_Tf ci).2.1) (N := (am_Tf ci).2.2) hex hcb hts (am_uin ci wci) (am_ty ci) (am_tyok ci wci) hown (hts _ wl) (hts _ wi) (hts _ wn) hK hP hD hS hA (am_Tf_at ci wci) (fun j hj => ?_) r1 r2 hd (fun q H1 P1 D1 S1 => ?_)
  · unfold vp_V
    rw [List.getD_eq_getElem?_getD, List.getElem?_map, List.getElem?_range hj]
    rfl
  · refine s_mk ih X hl hs b3 (Or.inl ⟨wci, by rw [am_nf_o, am_nf_eq ci wci]⟩) ?_ ?_ S1 hx
    · rw [hce]; exact P1
    · rw [hce]; exact D1
theorem am_ref_av2 {q : Nat} (h : q ≠ 999999) : am_av ad (.inr (.inr q)) = .ref (ad q) := if_neg h
theorem s_gets {idx a b w : Nat} {z : Int} (hd : decode (am_M m).2.1 pc = .ok (.getstatic idx, 3)) (hp : am_pool m idx = some (11, a, b, z, w)) (ih : am_Sd l n) (X : am_Cx l p e R s mt args below meth c Q D cy A m d c0 s0 r ad h H locs cells slots) (hl : am_lr ad h.1.length ls (am_M m).2.2.1 lv) (hs : am_so h.1.length st) (hx : am_FA (am_x n) d m lv h (am_go (pc + 3) lv (.inr (.inr a) :: st) h) = some r) : am_Wc l p e R s mt args below meth c Q H locs cells slots pc ls (st.map (am_av ad)) := by
  have hw : (am_own m = 6 ∧ idx = 48 ∧ a = 1000001) ∨ (am_own m = 4 ∧ idx = 159 ∧ a = 1000002) := am_pool_ok hp
  obtain ⟨hex, hcb, hml, hown, hts, -⟩ := X.1
  obtain ⟨hK, hP, hD, hS, hA, hG, hXx⟩ := id X.2.2.1
  rcases hw with ⟨w1, w2, w3⟩ | ⟨w1, w2, w3⟩
  · subst w2
    subst w3
    rw [w1] at hown
    refine va_getsN hex hcb hXx.1 hS hown (va_Nw.use rfl hXx.2.2.2.1) (fun _ h9 => h9) hd ?_
    exact s_push ih X hl hs (v := .inr (.inr 1000001)) (Or.inr (by decide)) hx (am_ref_av2 (by decide))
  · subst w2
    subst w3
    rw [w1] at hown
    refine va_getsN hex hcb hXx.2.1 hS hown (va_Nw.use rfl hXx.2.2.2.2.1) (fun _ h9 => h9) hd ?_
    exact s_push ih X hl hs (v := .inr (.inr 1000002)) (Or.inr (by decide)) hx (am_ref_av2 (by decide))
end AMO
