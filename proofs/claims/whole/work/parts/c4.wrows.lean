/-! ROWS AT THE REAL MACHINE: calls and new cells, what comes behind given as a premise -/
section CWR
variable {l : Launch} {p : Program} {e : Env} {R : Room} {s : State} {mt : MethodId} {args : Array Value} {below : List Frame} {meth : Method} {c : Code} {Q : State → Prop} {D : va_G} {cy : Nat → ClassId} {A : Nat → Prop} {ad : Nat → Nat} {h : am_H} {H : Heap} {locs : List Loc} {cells slots : Nat} {ls : Array Slot} {pc : Nat}
theorem am_ws_ad {ad' : Nat → Nat} (hG : am_G h) (hA : ∀ x, x < h.1.length ∨ 999999 ≤ x → ad' x = ad x) : am_ws cy ad' h = am_ws cy ad h := by
  apply List.ext_getElem?
  intro q
  rw [am_ws_at, am_ws_at]
  cases hq : h.1[q]? with
  | none => rfl
  | some kl =>
    have hlt := (List.getElem?_eq_some_iff.mp hq).1
    show some (ad' q, am_ce cy ad' h q kl) = some (ad q, am_ce cy ad h q kl)
    rw [hA q (Or.inl hlt), am_ce_ad (h := h) (h' := h) hA (fun h20 => ((hG.2.1 q kl hq).1 h20).2.2) (fun _ => rfl) (fun _ => rfl)]
theorem am_X_ad {ad' : Nat → Nat} {H0 : Heap} (hX : am_X ad' A s H0 h) (hA : ∀ x, 999999 ≤ x → ad' x = ad x) : am_X ad A s H0 h := by
  obtain ⟨z1, z2, tt, n1, n2, yy⟩ := hX
  refine ⟨by rw [← hA _ (by decide)]; exact z1, by rw [← hA _ (by decide)]; exact z2, fun k hk => ?_, n1, n2, am_Y_ad yy (fun q hq => (hA q hq).symm)⟩
  rw [← hA _ (by omega)]
  exact tt k hk
theorem am_Rp_ad {ad' : Nat → Nat} (hR : am_Rp D cy ad' A s h H locs) (hA : ∀ x, x < h.1.length ∨ 999999 ≤ x → ad' x = ad x) : am_Rp D cy ad A s h H locs := by
  obtain ⟨f1, f2, f3, f4, f5, f6, f7⟩ := hR
  rw [am_ws_ad f6 hA] at f2 f3
  exact ⟨f1, f2, f3, f4, f5, f6, am_X_ad f7 (fun x hx => hA x (Or.inr hx))⟩
/-- a call by its receiver -/
theorem w_callV {n d' m m' np idx w q : Nat} {z : Int} {r1 : am_Res} {ar : List am_V} {rest : List Value} (hd : decode (am_M m).2.1 pc = .ok (.invokevirtual idx, 3)) (hp : am_pool m idx = some (2, m', np, z, w))
    (hC : am_C p s mt args meth c m) (hR : am_Rp D cy ad A s h H locs) (hls : ls.size = (am_M m).2.2.1) (hcy : am_isk (am_kl h q) (am_own m') = true) (hn : ar.length = np) (hso : am_so h.1.length (.inr (.inr q) :: ar))
    (hlay : (am_lay (.inr (.inr q) :: ar)).length ≤ (am_M m').2.2.1) (hx1 : am_x n d' m' 0 (am_ent m' (.inr (.inr q) :: ar)) [] h = some r1) (hrest : (rest.map fun v => v.category).sum ≤ 8)
    (hRf : d' + 1 ≤ R.frames) (hRl : 8 + ((am_M m').2.2.1 + 11) + 40 * d' ≤ R.locals) (hRc : cells + (r1.2.2.2.2.1 - h.2.2.2.1) ≤ R.cells) (hRs : slots + (r1.2.2.2.2.2.1 - h.2.2.2.2.1) ≤ R.slots)
    (kk : ∀ (H1 : Heap) (locs1 : List Loc) (ad' : Nat → Nat), (∀ q, q < h.1.length ∨ 999999 ≤ q → ad' q = ad q) → am_Rp D cy ad' A s r1.2 H1 locs1 → am_so r1.2.1.length r1.1.toList → W p l e R s mt args below meth c H1 locs1 (cells + (r1.2.2.2.2.1 - h.2.2.2.1)) (slots + (r1.2.2.2.2.2.1 - h.2.2.2.2.1)) Q (F0 mt (pc + 3) ls ((r1.1.map (am_av ad')).toList ++ rest))) :
    W p l e R s mt args below meth c H locs cells slots Q (F0 mt pc ls ((ar.map (am_av ad)).reverse ++ .ref (ad q) :: rest)) := by
  obtain ⟨wl, hok⟩ : Cond.methodLink (am_cn (am_own m)) idx (am_M m').1 ∈ am_ts ∧ am_mok 2 np (am_M m') := am_pool_ok hp
  obtain ⟨hex, hcb, hml, hown, hts, -⟩ := id hC
  obtain ⟨hK, hP, hD, hS, hA, hG, hXx⟩ := id hR
  obtain ⟨k1, k2, k3, k4, k5, k6, k7, k8, k9⟩ := id hok
  have gr1 := am_x_grow _ _ _ _ _ _ _ _ hx1
  have hM := am_met (am_sound l n) (am_n276 hok) hok hx1 hlay hso hG D cy ad H.size
  have ow : am_own m' < 11 := by
    have o18 := (am_tb hok).1
    have ek := am_isk_eq hcy
    obtain ⟨a1, a2⟩ := am_kl_at (h := h) (p := q) hG (by omega) (by omega)
    have := ((hG.2.1 q _ a1).1 (by omega)).1
    omega
  obtain ⟨a1, a2, a3, a4⟩ := am_obj_at (cy := cy) (ad := ad) hG ow hcy
  have eC : (am_M m').1.cls = (am_Tf (am_own m')).1 := k1.trans (am_cnT _ ow)
  have cw := cwV (R := R) (s := s) (args := args) (own := am_cn (am_own m)) (C := (am_M m').1.cls) (index := idx) (y := (am_M m').1) (bytes := (am_M m').2.1) (maxL := (am_M m').2.2.1) (ret := (am_M m').2.2.2.1) (Ts := am_ts) (ws := Cond.code (am_M m').1 (am_M m').2.1 (am_M m').2.2.1 (am_M m').2.2.2.1 :: am_ts) (rm := { frames := d', cells := r1.2.2.2.2.1 - h.2.2.2.1, slots := r1.2.2.2.2.2.1 - h.2.2.2.2.1, locals := 40 * d' }) np hts (by
      intro x hx9
      unfold wsV at hx9
      rcases List.mem_append.mp hx9 with hx9 | hx9
      · rcases List.mem_cons.mp hx9 with e9 | hx9
        · rw [e9]; exact am_good wl
        · rcases List.mem_cons.mp hx9 with e9 | hx9
          · rw [e9]; exact am_good k8.1
          · rcases List.mem_cons.mp hx9 with e9 | hx9
            · rw [e9]; exact am_good k8.2
            · rw [List.mem_singleton.mp hx9]; exact am_good k4
      · exact am_goodc k3 x hx9) rfl rfl rfl ⟨rfl, k5.1, k5.2, k7⟩ ⟨hRf, hRl⟩
  have hav : am_av ad (.inr (.inr q)) = .ref (ad q) := am_ref_av a2
  rw [List.map_cons, hav] at hM
  have hrc := va_recv hK hP (am_Tf_at _ ow) a3
  rw [← eC] at hrc
  refine am_callW (va_runV (As := ar.map (am_av ad)) (rest := rest) ⟨hex, hcb, hml, hown, hts⟩ hM cw ⟨am_blind, hrc, fun U hU hW => ⟨rfl, am_Pq_at hR hU hW⟩⟩ rfl (by rw [List.length_map]; exact hn) hls rfl (lv_room hrest) hd ⟨hRc, hRs⟩) hS (fun q _ hq => am_A_in hD hS hA q hq) (am_A_in hD hS hA) (fun st₀ H1 locs1 ad' e0 e1 e2 e3 e4 e5 e6 e7 => ?_)
  exact kk H1 locs1 ad' e1 ⟨hK, e2, e3.weaken (fun k q _ hq => am_A_in hD hS hA q.1 hq), e7, hA, e4, am_X_back hXx e6 e0 hS (fun q hq => e1 q (Or.inr hq)) gr1.2.2.2⟩ e5
/-- a call of a constructor -/
theorem w_callI {n d' m m' np idx w q : Nat} {z : Int} {r1 : am_Res} {ar : List am_V} {rest : List Value} (hd : decode (am_M m).2.1 pc = .ok (.invokespecial idx, 3)) (hp : am_pool m idx = some (4, m', np, z, w))
    (hC : am_C p s mt args meth c m) (hR : am_Rp D cy ad A s h H locs) (hls : ls.size = (am_M m).2.2.1) (hq : q ≠ 999999) (hn : ar.length = np) (hso : am_so h.1.length (.inr (.inr q) :: ar))
    (hlay : (am_lay (.inr (.inr q) :: ar)).length ≤ (am_M m').2.2.1) (hx1 : am_x n d' m' 0 (am_ent m' (.inr (.inr q) :: ar)) [] h = some r1) (hrest : (rest.map fun v => v.category).sum ≤ 8)
    (hRf : d' + 1 ≤ R.frames) (hRl : 8 + ((am_M m').2.2.1 + 11) + 40 * d' ≤ R.locals) (hRc : cells + (r1.2.2.2.2.1 - h.2.2.2.1) ≤ R.cells) (hRs : slots + (r1.2.2.2.2.2.1 - h.2.2.2.2.1) ≤ R.slots)
    (kk : ∀ (H1 : Heap) (locs1 : List Loc) (ad' : Nat → Nat), (∀ q, q < h.1.length ∨ 999999 ≤ q → ad' q = ad q) → am_Rp D cy ad' A s r1.2 H1 locs1 → am_so r1.2.1.length r1.1.toList → W p l e R s mt args below meth c H1 locs1 (cells + (r1.2.2.2.2.1 - h.2.2.2.1)) (slots + (r1.2.2.2.2.2.1 - h.2.2.2.2.1)) Q (F0 mt (pc + 3) ls ((r1.1.map (am_av ad')).toList ++ rest))) :
    W p l e R s mt args below meth c H locs cells slots Q (F0 mt pc ls ((ar.map (am_av ad)).reverse ++ .ref (ad q) :: rest)) := by
  obtain ⟨wl, hok⟩ : Cond.methodLink (am_cn (am_own m)) idx (am_M m').1 ∈ am_ts ∧ am_mok 4 np (am_M m') := am_pool_ok hp
  obtain ⟨hex, hcb, hml, hown, hts, -⟩ := id hC
  obtain ⟨hK, hP, hD, hS, hA, hG, hXx⟩ := id hR
  obtain ⟨k1, k2, k3, k4, k5, k6, k7, k8, k9⟩ := id hok
  have gr1 := am_x_grow _ _ _ _ _ _ _ _ hx1
  have hM := am_met (am_sound l n) (am_n276 hok) hok hx1 hlay hso hG D cy ad H.size
  have hnone := (am_tb hok).2 k8.2
  rw [hnone] at hM k3
  have cw := cwI (R := R) (s := s) (args := args) (own := am_cn (am_own m)) (index := idx) (y := (am_M m').1) (bytes := (am_M m').2.1) (maxL := (am_M m').2.2.1) (Ts := am_ts) (ws := Cond.code (am_M m').1 (am_M m').2.1 (am_M m').2.2.1 none :: am_ts) (rm := { frames := d', cells := r1.2.2.2.2.1 - h.2.2.2.1, slots := r1.2.2.2.2.2.1 - h.2.2.2.2.1, locals := 40 * d' }) np hts (am_goodc k3) rfl rfl rfl (hts _ k4) (hts _ wl) (hts _ k8.1) k8.2 ⟨k5.1, k5.2, k7⟩ ⟨hRf, hRl⟩
  have hav : am_av ad (.inr (.inr q)) = .ref (ad q) := am_ref_av2 hq
  rw [List.map_cons, hav] at hM
  refine am_callW (va_runI (As := ar.map (am_av ad)) (rest := rest) ⟨hex, hcb, hml, hown, hts⟩ hM cw ⟨am_blind, fun U hU hW => ⟨rfl, am_Pq_at hR hU hW⟩⟩ rfl (by rw [List.length_map]; exact hn) hls rfl (lv_room hrest) hd ⟨hRc, hRs⟩) hS (fun q _ hq => am_A_in hD hS hA q hq) (am_A_in hD hS hA) (fun st₀ H1 locs1 ad' e0 e1 e2 e3 e4 e5 e6 e7 => ?_)
  exact kk H1 locs1 ad' e1 ⟨hK, e2, e3.weaken (fun k q _ hq => am_A_in hD hS hA q.1 hq), e7, hA, e4, am_X_back hXx e6 e0 hS (fun q hq => e1 q (Or.inr hq)) gr1.2.2.2⟩ e5
theorem am_Rp_mk {k N a : Nat} {H1 : Heap} (hR : am_Rp D cy ad A s h H locs) (hlt : h.1.length < 999999) (hk : (k < 11 ∧ N = am_nf k) ∨ (20 ≤ k ∧ k ≤ 23))
    (hP : va_P D vwCl (am_ws cy ad h ++ [(a, am_ce cy (am_ad ad h.1.length a) (am_mk h k N) h.1.length (k, N))]) H1) (hD : va_D A (am_ws cy ad h ++ [(a, am_ce cy (am_ad ad h.1.length a) (am_mk h k N) h.1.length (k, N))])) (hS : va_S A s.heap H1 locs) : am_Rp D cy (am_ad ad h.1.length a) A s (am_mk h k N) H1 locs := by
  obtain ⟨hK, -, -, -, hA, hG, hX⟩ := hR
  have hAd : ∀ x, x < h.1.length ∨ 999999 ≤ x → am_ad ad h.1.length a x = ad x := fun x hx => am_ad_ne (by omega)
  refine ⟨hK, by rw [am_ws_mk hG hlt]; exact hP, by rw [am_ws_mk hG hlt]; exact hD, hS, hA, am_G_mk hG hlt hk, ?_⟩
  obtain ⟨z1, z2, tt, n1, n2, yy⟩ := hX
  refine ⟨by rw [hAd _ (Or.inr (by decide))]; exact z1, by rw [hAd _ (Or.inr (by decide))]; exact z2, fun j hj => ?_, n1, n2, am_Y_ad yy (fun q hq => hAd q (Or.inr hq))⟩
  rw [hAd _ (Or.inr (by omega)), am_kl_ext (h := h) (h' := am_mk h k N) rfl (show 1000000 ≤ 1000000 + j by omega)]
  have e2 : (fun i => Value.int (Int32.ofInt ((am_mk h k N).2.2.1 (1000000 + j) i))) = fun i => Value.int (Int32.ofInt (h.2.2.1 (1000000 + j) i)) := by
    funext i
    rw [show (am_mk h k N).2.2.1 (1000000 + j) i = h.2.2.1 (1000000 + j) i from if_neg (by omega)]
  rw [e2]
  exact tt j hj
theorem w_new {m idx ci k w : Nat} {z : Int} {rest : List Value} (hd : decode (am_M m).2.1 pc = .ok (.new idx, 3)) (hp : am_pool m idx = some (7, ci, k, z, w)) (hC : am_C p s mt args meth c m) (hR : am_Rp D cy ad A s h H locs) (b3 : h.1.length < 999999) (hRc : cells + 1 ≤ R.cells) (hRs : slots + k ≤ R.slots)
    (kk : ∀ (H1 : Heap) (a : Nat), am_Rp D cy (am_ad ad h.1.length a) A s (am_mk h ci k) H1 locs → W p l e R s mt args below meth c H1 locs (cells + 1) (slots + k) Q (F0 mt (pc + 3) ls (.ref a :: rest))) : W p l e R s mt args below meth c H locs cells slots Q (F0 mt pc ls rest) := by
  obtain ⟨wl, wci, wk, wi, wn⟩ : Cond.classLink (am_cn (am_own m)) idx (am_Tf ci).1 ∈ am_ts ∧ ci < 11 ∧ k = (am_Tf ci).2.2 ∧ Cond.instantiable (am_Tf ci).1 (am_Tf ci).2.2 ∈ am_ts ∧ Cond.initialized (am_Tf ci).1 ∈ am_ts := am_pool_ok hp
  subst wk
  obtain ⟨hex, hcb, hml, hown, hts, -⟩ := hC
  obtain ⟨hK, hP, hD, hS, hA, hG, hXx⟩ := id hR
  have hce : ∀ a, am_ce cy (am_ad ad h.1.length a) (am_mk h ci (am_Tf ci).2.2) h.1.length (ci, (am_Tf ci).2.2) = .inr (ci, (List.range (am_Tf ci).2.2).map (fun j => defaultValue (am_ty ci j))) := by
    intro a
    rw [am_ce_obj (show ((ci, (am_Tf ci).2.2) : Nat × Nat).1 < 20 by show ci < 20; omega)]
    congr 2
    apply List.map_congr_left
    intro j hj
    have hj := List.mem_range.mp hj
    have hty := am_ftyok ci wci j hj
    rw [am_fv_new]
    show am_av _ (match am_fty ci j with
      | 1 => .inr (.inl 0)
      | 2 => .inr (.inr 999999)
      | _ => .inl 0) = defaultValue (am_ty ci j)
    rw [← hty]
    have hok : am_fty ci j = 0 ∨ am_fty ci j = 1 ∨ am_fty ci j = 2 ∨ am_fty ci j = 3 := am_fk ci wci j hj
    rw [← hty] at hok
    cases hh : am_ty ci j <;> rw [hh] at hok <;> first | rfl | (exfalso; revert hok; decide)
  refine va_new (ci := ci) (fs := (List.range (am_Tf ci).2.2).map (fun j => defaultValue (am_ty ci j))) (C := (am_Tf ci).1) (T := (am_Tf ci).2.1) (N := (am_Tf ci).2.2) hex hcb hts (am_uin ci wci) (am_ty ci) (am_tyok ci wci) hown (hts _ wl) (hts _ wi) (hts _ wn) hK hP hD hS hA (am_Tf_at ci wci) (fun j hj => ?_) hRc hRs hd (fun q H1 P1 D1 S1 => ?_)
  · unfold vp_V
    rw [List.getD_eq_getElem?_getD, List.getElem?_map, List.getElem?_range hj]
    rfl
  · refine kk H1 q (am_Rp_mk hR b3 (Or.inl ⟨wci, by rw [am_nf_o, am_nf_eq ci wci]⟩) ?_ ?_ S1)
    · rw [hce]; exact P1
    · rw [hce]; exact D1
theorem w_newl {m : Nat} {rest : List Value} (hd : decode (am_M m).2.1 pc = .ok (.newarray .long, 2)) (hC : am_C p s mt args meth c m) (hR : am_Rp D cy ad A s h H locs) (b3 : h.1.length < 999999) (hRc : cells + 1 ≤ R.cells) (hRs : slots + 1 ≤ R.slots)
    (kk : ∀ (H1 : Heap) (a : Nat), am_Rp D cy (am_ad ad h.1.length a) A s (am_mk h 23 1) H1 locs → W p l e R s mt args below meth c H1 locs (cells + 1) (slots + 1) Q (F0 mt (pc + 2) ls (.ref a :: rest))) : W p l e R s mt args below meth c H locs cells slots Q (F0 mt pc ls (.int 1 :: rest)) := by
  obtain ⟨hex, hcb, hml, hown, hts, -⟩ := hC
  obtain ⟨hK, hP, hD, hS, hA, hG, hXx⟩ := id hR
  refine va_newa (atype := .long) (ty := .long) (n := 1) (N' := 1) (a0 := (1, .inr (.inl (fun _ => 0)))) hex hcb (hts _ am_arc_long) rfl hK hP hD hS hA (fun _ => rfl) (by decide) rfl (by decide) hRc hRs hd (fun q cA H1 K1 P1 D1 S1 => ?_)
  have hc : cA = cy 23 := Option.some.inj (((K1.2 4 (cA, .long) rfl).2).symm.trans (hK.2 3 (cy 23, .long) rfl).2)
  subst hc
  refine kk H1 q (am_Rp_mk hR b3 (Or.inr ⟨by decide, by decide⟩) (k := 23) ?_ ?_ S1)
  · rw [am_ce_newL]; exact P1
  · rw [am_ce_newL]; exact D1
end CWR
