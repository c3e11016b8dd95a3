/-! THE ABSTRACT MACHINE'S RUNS ARE THE REAL ONE'S: new cells -/
section AMN
variable {l : Launch} {p : Program} {e : Env} {R : Room} {s : State} {mt : MethodId} {args : Array Value} {below : List Frame} {meth : Method} {c : Code} {Q : State → Prop} {D : va_G} {cy : Nat → ClassId} {A : Nat → Prop} {m d c0 s0 : Nat} {r : am_Res} {ad : Nat → Nat} {h : am_H} {H : Heap} {locs : List Loc} {cells slots : Nat} {ls : Array Slot} {lv : am_L} {st : List am_V} {pc n : Nat}
def am_ad (ad : Nat → Nat) (q a : Nat) : Nat → Nat := fun x => if x = q then a else ad x
theorem am_ad_ne {q a x : Nat} (hx : x ≠ q) : am_ad ad q a x = ad x := if_neg hx
theorem am_fv_mk {k N t q j : Nat} (hq : q < h.1.length) : am_fv t (am_mk h k N) q j = am_fv t h q j := am_fv_ne (if_neg (by omega)) (if_neg (by omega))
theorem am_fv_new {k N t j : Nat} : am_fv t (am_mk h k N) h.1.length j = match t with
    | 1 => .inr (.inl 0)
    | 2 => .inr (.inr 999999)
    | _ => .inl 0 := by
  have e1 : (am_mk h k N).2.1 h.1.length j = 999999 := if_pos rfl
  have e2 : (am_mk h k N).2.2.1 h.1.length j = 0 := if_pos rfl
  unfold am_fv
  rw [e1, e2]
  match t with
  | 0 => rfl
  | 1 => rfl
  | 2 => rfl
  | t + 3 => rfl
theorem am_okv_new {k N t j n' : Nat} : am_okv n' (am_fv t (am_mk h k N) h.1.length j) := by
  rw [am_fv_new]
  split
  · exact ⟨by decide, by decide⟩
  · exact Or.inr (Nat.le_refl _)
  · exact ⟨by decide, by decide⟩
theorem am_G_mk {k N : Nat} (hG : am_G h) (hl : h.1.length < 999999) (hk : (k < 11 ∧ N = am_nf k) ∨ (20 ≤ k ∧ k ≤ 23)) : am_G (am_mk h k N) := by
  have hlen : (am_mk h k N).1.length = h.1.length + 1 := by
    show (h.1 ++ [(k, N)]).length = _
    rw [List.length_append]
    rfl
  refine ⟨by rw [hlen]; omega, fun q kl hq => ?_, fun q j hq => ?_⟩
  · have hq : (h.1 ++ [(k, N)])[q]? = some kl := hq
    rw [hlen]
    rcases Nat.lt_or_ge q h.1.length with hlt | hge
    · rw [List.getElem?_append_left hlt] at hq
      obtain ⟨a1, a2⟩ := hG.2.1 q kl hq
      refine ⟨fun h20 => ?_, fun h20 => ?_⟩
      · obtain ⟨b1, b2, b3⟩ := a1 h20
        refine ⟨b1, b2, fun j hj => ?_⟩
        rw [am_fv_mk hlt]
        exact am_okv_mono (Nat.le_succ _) (b3 j hj)
      · obtain ⟨b1, b2, b3⟩ := a2 h20
        have e2 : ∀ j, (am_mk h k N).2.2.1 q j = h.2.2.1 q j := fun j => if_neg (by omega)
        exact ⟨b1, fun h23 j hj => by rw [e2]; exact b2 h23 j hj, fun h23 j hj => by rw [e2]; exact b3 h23 j hj⟩
    · rw [List.getElem?_append_right hge] at hq
      have hz : q - h.1.length < 1 := (List.getElem?_eq_some_iff.mp hq).1
      have hq0 : q = h.1.length := by omega
      subst hq0
      rw [Nat.sub_self] at hq
      cases hq
      refine ⟨fun h20 => ?_, fun h20 => ?_⟩
      · rcases hk with hk | hk
        · exact ⟨hk.1, hk.2, fun j _ => am_okv_new⟩
        · have h20 : k < 20 := h20
          omega
      · have e2 : ∀ j, (am_mk h k N).2.2.1 h.1.length j = 0 := fun j => if_pos rfl
        have h20 : 20 ≤ k := h20
        rcases hk with hk | hk
        · omega
        · exact ⟨hk.2, fun _ j _ => by rw [e2]; exact ⟨by decide, by decide⟩, fun _ j _ => by rw [e2]; exact ⟨by decide, by decide⟩⟩
  · have e2 : (am_mk h k N).2.2.1 q j = h.2.2.1 q j := if_neg (by omega)
    rw [e2]
    exact hG.2.2 q j hq
theorem am_ce_ad {ad' : Nat → Nat} {h' : am_H} {q : Nat} {kl : Nat × Nat} (hA : ∀ x, x < h.1.length ∨ 999999 ≤ x → ad' x = ad x) (hq : kl.1 < 20 → ∀ k, k < kl.2 → am_okv h.1.length (am_fv (am_fty kl.1 k) h q k)) (h1 : ∀ k, h'.2.1 q k = h.2.1 q k) (h2 : ∀ k, h'.2.2.1 q k = h.2.2.1 q k) : am_ce cy ad' h' q kl = am_ce cy ad h q kl := by
  rw [am_ce_ne h1 h2]
  rcases Nat.lt_or_ge kl.1 20 with hlt | hge
  · rw [am_ce_obj hlt, am_ce_obj hlt]
    congr 2
    apply List.map_congr_left
    intro k hk
    exact am_av_ad hA (hq hlt k (List.mem_range.mp hk))
  · unfold am_ce
    rw [am_blt_no hge]
    rfl
theorem am_ws_mk {k N a : Nat} (hG : am_G h) (hl : h.1.length < 999999) : am_ws cy (am_ad ad h.1.length a) (am_mk h k N) = am_ws cy ad h ++ [(a, am_ce cy (am_ad ad h.1.length a) (am_mk h k N) h.1.length (k, N))] := by
  have hlen : (am_ws cy ad h).length = h.1.length := by unfold am_ws; rw [List.length_mapIdx]
  apply List.ext_getElem?
  intro q
  rw [am_ws_at]
  show ((h.1 ++ [(k, N)])[q]?).map _ = _
  rcases Nat.lt_or_ge q h.1.length with hlt | hge
  · rw [List.getElem?_append_left hlt, List.getElem?_append_left (by omega), am_ws_at]
    cases hq : h.1[q]? with
    | none => rfl
    | some kl =>
      show some (am_ad ad h.1.length a q, am_ce cy (am_ad ad h.1.length a) (am_mk h k N) q kl) = some (ad q, am_ce cy ad h q kl)
      rw [am_ad_ne (by omega), am_ce_ad (fun x hx => am_ad_ne (by omega)) (fun h20 => ((hG.2.1 q kl hq).1 h20).2.2) (fun j => if_neg (by omega)) (fun j => if_neg (by omega))]
  · rw [List.getElem?_append_right hge, List.getElem?_append_right (by omega), hlen]
    cases hz : q - h.1.length with
    | zero =>
      have hq0 : q = h.1.length := by omega
      subst hq0
      show some (am_ad ad h.1.length a h.1.length, _) = some (a, _)
      rw [show am_ad ad h.1.length a h.1.length = a from if_pos rfl]
    | succ z => rfl
/-- going on with one cell more -/
theorem s_mk {k N a : Nat} {H1 : Heap} {pc' : Nat} {st' : List am_V} (ih : am_Sd l n) (X : am_Cx l p e R s mt args below meth c Q D cy A m d c0 s0 r ad h H locs cells slots) (hl : am_lr ad h.1.length ls (am_M m).2.2.1 lv) (hs : am_so h.1.length st') (hlt : h.1.length < 999999) (hk : (k < 11 ∧ N = am_nf k) ∨ (20 ≤ k ∧ k ≤ 23))
    (hP : va_P D vwCl (am_ws cy ad h ++ [(a, am_ce cy (am_ad ad h.1.length a) (am_mk h k N) h.1.length (k, N))]) H1) (hD : va_D A (am_ws cy ad h ++ [(a, am_ce cy (am_ad ad h.1.length a) (am_mk h k N) h.1.length (k, N))])) (hS : va_S A s.heap H1 locs)
    (hx : am_x n d m pc' lv (.inr (.inr h.1.length) :: st') (am_mk h k N) = some r) : am_Wc l p e R s mt args below meth c Q H1 locs (cells + 1) (slots + N) pc' ls (.ref a :: st'.map (am_av ad)) := by
  obtain ⟨XC, Xd, XR, Xr, Xn, Xm, Xf⟩ := X
  obtain ⟨hK, -, -, -, hA, hG, hX⟩ := XR
  have hlen : (am_mk h k N).1.length = h.1.length + 1 := by
    show (h.1 ++ [(k, N)]).length = _
    rw [List.length_append]
    rfl
  have hAd : ∀ x, x < h.1.length ∨ 999999 ≤ x → am_ad ad h.1.length a x = ad x := fun x hx => am_ad_ne (by omega)
  have hR' : am_Rp D cy (am_ad ad h.1.length a) A s (am_mk h k N) H1 locs := by
    refine ⟨hK, by rw [am_ws_mk hG hlt]; exact hP, by rw [am_ws_mk hG hlt]; exact hD, hS, hA, am_G_mk hG hlt hk, ?_⟩
    obtain ⟨z1, z2, tt, n1, n2, yy⟩ := hX
    refine ⟨by rw [hAd _ (Or.inr (by decide))]; exact z1, by rw [hAd _ (Or.inr (by decide))]; exact z2, fun j hj => ?_, n1, n2, am_Y_ad yy (fun q hq => hAd q (Or.inr hq))⟩
    rw [hAd _ (Or.inr (by omega)), am_kl_ext (h := h) (h' := am_mk h k N) rfl (show 1000000 ≤ 1000000 + j by omega)]
    have e2 : (fun i => Value.int (Int32.ofInt ((am_mk h k N).2.2.1 (1000000 + j) i))) = fun i => Value.int (Int32.ofInt (h.2.2.1 (1000000 + j) i)) := by
      funext i
      rw [show (am_mk h k N).2.2.1 (1000000 + j) i = h.2.2.1 (1000000 + j) i from if_neg (by omega)]
    rw [e2]
    exact tt j hj
  have hl' : am_lr (am_ad ad h.1.length a) (am_mk h k N).1.length ls (am_M m).2.2.1 lv := by
    refine ⟨hl.1, ⟨hl.2.1.1, hl.2.1.2.1, fun q hq => ?_⟩, fun i v hv => by rw [hlen]; exact am_okv_mono (Nat.le_succ _) (hl.2.2 i v hv)⟩
    obtain ⟨v, hv, he⟩ := am_al_mem.mp hq
    rw [am_av_ad hAd (hl.2.2 _ v hv)] at he
    exact hl.2.1.2.2 q (am_al_mem.mpr ⟨v, hv, he⟩)
  have hmap : (Sum.inr (Sum.inr h.1.length) :: st' : List am_V).map (am_av (am_ad ad h.1.length a)) = .ref a :: st'.map (am_av ad) := by
    have e1 : am_av (am_ad ad h.1.length a) (.inr (.inr h.1.length)) = .ref a := by
      show (if h.1.length = 999999 then Value.null else .ref (am_ad ad h.1.length a h.1.length)) = _
      rw [if_neg (by omega), show am_ad ad h.1.length a h.1.length = a from if_pos rfl]
    rw [List.map_cons, e1]
    congr 1
    exact List.map_congr_left fun v hv => am_av_ad hAd (hs v hv)
  have key := ih _ _ _ _ _ _ _ hx p e R s mt args below meth c Q D cy A c0 s0 (am_ad ad h.1.length a) H1 locs (cells + 1) (slots + N) ls ⟨XC, Xd, hR', Xr, ⟨by show cells + 1 + c0 = h.2.2.2.1 + 1; omega, by show slots + N + s0 = h.2.2.2.2.1 + N; omega⟩, Xm, ⟨fun pc9 ad9 H9 locs9 ls9 cells9 slots9 g1 g2 g3 g4 g5 g6 => Xf.1 pc9 ad9 H9 locs9 ls9 cells9 slots9 (fun x hx9 => (g1 x (by rw [hlen]; omega)).trans (hAd x hx9)) g2 g3 g4 g5 g6, fun hm9 pc9 ad9 H9 locs9 ls9 cells9 slots9 lv9 st9 i9 g1 g2 g3 g4 g5 g6 g7 g8 => Xf.2 hm9 pc9 ad9 H9 locs9 ls9 cells9 slots9 lv9 st9 i9 (fun x hx9 => (g1 x (by rw [hlen]; omega)).trans (hAd x hx9)) g2 g3 g4 g5 g6 g7 g8⟩⟩ hl' (fun v hv => by
      rcases List.mem_cons.mp hv with rfl | hv
      · rw [hlen]; exact Or.inl (Nat.lt_succ_self _)
      · rw [hlen]; exact am_okv_mono (Nat.le_succ _) (hs v hv))
  rw [hmap] at key
  exact key
end AMN
