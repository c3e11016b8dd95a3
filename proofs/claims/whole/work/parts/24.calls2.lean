/-! THE ABSTRACT MACHINE'S RUNS ARE THE REAL ONE'S: the three kinds of calls -/
theorem am_tb0 : ∀ T ∈ am_TT, ∀ e ∈ T, e.2.2.2.2.1 < 18 ∧ (e.1.name = "<init>" → e.2.2.2.1 = none) := by decide +kernel
theorem am_noini : Cond.initialized "" ∉ am_ts := by decide +kernel
theorem am_tb {t np m : Nat} (hok : am_mok t np (am_M m)) : am_own m < 18 ∧ ((am_M m).1.name = "<init>" → (am_M m).2.2.2.1 = none) := by
  rcases am_M_mem m with ⟨T, hT, hm⟩ | hm
  · exact am_tb0 T hT _ hm
  · have h4 := hok.2.2.2.1
    rw [hm] at h4
    exact absurd h4 am_noini
theorem am_cnT : ∀ ci, ci < 11 → am_cn ci = (am_Tf ci).1 := by
  intro ci hci
  match ci, hci with
  | 0, _ => rfl
  | 1, _ => rfl
  | 2, _ => rfl
  | 3, _ => rfl
  | 4, _ => rfl
  | 5, _ => rfl
  | 6, _ => rfl
  | 7, _ => rfl
  | 8, _ => rfl
  | 9, _ => rfl
  | 10, _ => rfl
  | j + 11, h => exact absurd h (by omega)
section AMK
variable {l : Launch} {p : Program} {e : Env} {R : Room} {s : State} {mt : MethodId} {args : Array Value} {below : List Frame} {meth : Method} {c : Code} {Q : State → Prop} {D : va_G} {cy : Nat → ClassId} {A : Nat → Prop} {m d c0 s0 : Nat} {r : am_Res} {ad : Nat → Nat} {h : am_H} {H : Heap} {locs : List Loc} {cells slots : Nat} {ls : Array Slot} {lv : am_L} {st : List am_V} {pc n : Nat}
theorem am_callW {rest st0 : List Value} {mc ms n0 : Nat} {free : Addr → Prop} {a : Array Value} {A1 : Nat → Prop} {r1 : am_Res} (hr : va_Run p l e R s mt args below meth c H locs cells slots mc ms (F0 mt pc ls st0) rest (am_Qc r1 D cy ad n0 A1 a) free) (hS : va_S A s.heap H locs) (hA : ∀ q, q < H.size → A1 q → A q) (hf : ∀ q, free q → A q)
    (kk : ∀ (st₀ : State) (H1 : Heap) (locs1 : List Loc) (ad' : Nat → Nat), st₀.heap = H → (∀ q, q < n0 ∨ 999999 ≤ q → ad' q = ad q) → va_P D vwCl (am_ws cy ad' r1.2) H1 → va_D A1 (am_ws cy ad' r1.2) → am_G r1.2 → am_so r1.2.1.length r1.1.toList → am_X ad' A1 st₀ st₀.heap r1.2 → va_S A s.heap H1 locs1 → W p l e R s mt args below meth c H1 locs1 (cells + mc) (slots + ms) Q (F0 mt (pc + 3) ls ((r1.1.map (am_av ad')).toList ++ rest))) : W p l e R s mt args below meth c H locs cells slots Q (F0 mt pc ls st0) := by
  intro T hT X
  obtain ⟨v, st₀, t, T', L, h0, X', hL, e1, e2, ⟨⟨ad', q1, q2, q3, q4, q5, q6, q7⟩, hz, hk⟩, stp⟩ := hr T hT X
  have hv : v = r1.1.map (am_av ad') := Outcome.returned.inj q2
  subst hv
  rw [h0] at hz hk
  obtain ⟨t2, a1, b1⟩ := kk st₀ T'.heap (locs ++ L) ad' h0 q1 (by rw [e1]; exact q3) q4 q5 q6 q7
    ⟨Nat.le_trans hS.1 (by rw [e1]; exact hz), fun q h1 h2 => by rw [e1, hk q (Nat.lt_of_lt_of_le h1 hS.1) (fun z => h2 (hA q (Nat.lt_of_lt_of_le h1 hS.1) z))]; exact hS.2.1 q h1 h2, fun q hq => by
      rcases List.mem_append.mp hq with h9 | h9
      · exact hS.2.2 q h9
      · exact hf _ (hL q h9)⟩ T' rfl X'
  exact ⟨t2, stp t2 a1, b1⟩
theorem am_X_back {ad' : Nat → Nat} {A1 : Nat → Prop} {st₀ : State} {h' : am_H} (hX : am_X ad A s s.heap h) (hX1 : am_X ad' A1 st₀ st₀.heap h') (hh : st₀.heap = H) (hS : va_S A s.heap H locs) (ha : ∀ q, 999999 ≤ q → ad' q = ad q) (hL : h'.2.2.2.2.2 = h.2.2.2.2.2) : am_X ad' A s s.heap h' := by
  obtain ⟨z1, z2, tt, n1, n2, yy⟩ := hX
  refine ⟨by rw [ha _ (by decide)]; exact z1, by rw [ha _ (by decide)]; exact z2, fun k hk => ?_, n1, n2, am_Y_ad yy ha⟩
  obtain ⟨cell0, c1, c2, c3, c4, c5, c6, c7⟩ := tt k hk
  obtain ⟨cell1, d1, d2, d3, d4, d5, d6, d7⟩ := hX1.2.2.1 k hk
  rw [ha _ (by omega)] at d1 ⊢
  rw [am_kl_ext hL (by omega)] at d6 ⊢
  have hc : cell1 = cell0 := by
    rw [hh, hS.2.1 _ (Array.getElem?_eq_some_iff.mp c1).1 c7, c1] at d1
    exact (Option.some.inj d1).symm
  subst hc
  exact ⟨cell1, c1, c2, c3, c4, c5, d6, c7⟩
/-- what the callee's world may be written in is what the caller's may -/
theorem am_A_in (hD : va_D A (am_ws cy ad h)) (hS : va_S A s.heap H locs) (hA : ∀ q, s.heap.size ≤ q → A q) : ∀ q, va_A (am_ws cy ad h) H.size q → A q := by
  intro q hq
  rcases hq with ⟨k, e9, hk⟩ | hq
  · exact hD.2 k _ hk
  · exact hA q (Nat.le_trans hS.1 hq)
/-- behind a call -/
theorem s_after {r1 : am_Res} {m' d' : Nat} {ent : am_L} {rest : List am_V} {st₀ : State} {H1 : Heap} {locs1 : List Loc} {ad' : Nat → Nat} (ih : am_Sd l n) (X : am_Cx l p e R s mt args below meth c Q D cy A m d c0 s0 r ad h H locs cells slots) (hl : am_lr ad h.1.length ls (am_M m).2.2.1 lv) (hs : am_so h.1.length rest) (hx1 : am_x n d' m' 0 ent [] h = some r1) (hx2 : am_x n d m (pc + 3) lv (r1.1.toList ++ rest) r1.2 = some r)
    (e0 : st₀.heap = H) (e1 : ∀ q, q < h.1.length ∨ 999999 ≤ q → ad' q = ad q) (e2 : va_P D vwCl (am_ws cy ad' r1.2) H1) (e3 : va_D (va_A (am_ws cy ad h) H.size) (am_ws cy ad' r1.2)) (e4 : am_G r1.2) (e5 : am_so r1.2.1.length r1.1.toList) (e6 : am_X ad' (va_A (am_ws cy ad h) H.size) st₀ st₀.heap r1.2) (e7 : va_S A s.heap H1 locs1) :
    W p l e R s mt args below meth c H1 locs1 (cells + (r1.2.2.2.2.1 - h.2.2.2.1)) (slots + (r1.2.2.2.2.2.1 - h.2.2.2.2.1)) Q (F0 mt (pc + 3) ls ((r1.1.map (am_av ad')).toList ++ rest.map (am_av ad))) := by
  have gr := am_x_grow _ _ _ _ _ _ _ _ hx1
  obtain ⟨XC, Xd, XR, Xr, Xn, Xm, Xf⟩ := X
  obtain ⟨hK, hP, hD, hS, hA, hG, hXx⟩ := XR
  have hRp : am_Rp D cy ad' A s r1.2 H1 locs1 := ⟨hK, e2, e3.weaken (fun k q _ hq => am_A_in hD hS hA q.1 hq), e7, hA, e4, am_X_back hXx e6 e0 hS (fun q hq => e1 q (Or.inr hq)) gr.2.2.2⟩
  have hl' : am_lr ad' r1.2.1.length ls (am_M m).2.2.1 lv := by
    refine ⟨hl.1, ⟨hl.2.1.1, hl.2.1.2.1, fun q hq => ?_⟩, fun i v hv => am_okv_mono gr.2.2.1 (hl.2.2 i v hv)⟩
    obtain ⟨v, hv, he⟩ := am_al_mem.mp hq
    rw [am_av_ad e1 (hl.2.2 _ v hv)] at he
    exact hl.2.1.2.2 q (am_al_mem.mpr ⟨v, hv, he⟩)
  have hst : (r1.1.toList ++ rest).map (am_av ad') = (r1.1.map (am_av ad')).toList ++ rest.map (am_av ad) := by
    rw [List.map_append]
    congr 1
    · cases r1.1 <;> rfl
    · exact List.map_congr_left fun v hv => am_av_ad e1 (hs v hv)
  have key := ih _ _ _ _ _ _ _ hx2 p e R s mt args below meth c Q D cy A c0 s0 ad' H1 locs1 (cells + (r1.2.2.2.2.1 - h.2.2.2.1)) (slots + (r1.2.2.2.2.2.1 - h.2.2.2.2.1)) ls ⟨XC, Xd, hRp, Xr, ⟨by have := gr.1; omega, by have := gr.2.1; omega⟩, Xm, ⟨fun pc9 ad9 H9 locs9 ls9 cells9 slots9 g1 g2 g3 g4 g5 g6 => Xf.1 pc9 ad9 H9 locs9 ls9 cells9 slots9 (fun x hx9 => (g1 x (by have := gr.2.2.1; omega)).trans (e1 x hx9)) g2 g3 g4 g5 g6, fun hm9 pc9 ad9 H9 locs9 ls9 cells9 slots9 lv9 st9 i9 g1 g2 g3 g4 g5 g6 g7 g8 => Xf.2 hm9 pc9 ad9 H9 locs9 ls9 cells9 slots9 lv9 st9 i9 (fun x hx9 => (g1 x (by have := gr.2.2.1; omega)).trans (e1 x hx9)) g2 g3 g4 g5 g6 g7 g8⟩⟩ hl' (fun v hv => by
      rcases List.mem_append.mp hv with hv | hv
      · exact e5 v hv
      · exact am_okv_mono gr.2.2.1 (hs v hv))
  rw [hst] at key
  exact key
/-- what holds at a callee's start -/
theorem am_Pq_at {U : State} (hR : am_Rp D cy ad A s h H locs) (hU : U.heap = H) (hW : s.WarmedH U.vm) : am_Pq D cy ad h H.size U := by
  obtain ⟨hK, hP, hD, hS, hA, hG, hXx⟩ := hR
  exact ⟨by rw [hU], by rw [hU]; exact hP, va_K.moved hW.alike hK, hD.weaken (fun _ _ _ _ => trivial), by
    rw [hU]
    exact am_X_move hXx hW (fun a h1 h2 => hS.2.1 a h1 h2) (am_A_in hD hS hA) (fun _ _ => rfl) (fun _ _ _ => rfl) rfl⟩
theorem am_blind {sz : Nat} {av : List Value} : FrameBlind (va_Pc av (am_Pq D cy ad h sz)) := by
  intro a U g mk hq
  obtain ⟨q0, q1, q2, q3, q4, q5⟩ := hq
  refine ⟨q0, q1, q2, va_K.moved (u := U) (U := U.calling g mk a) (Vm.Alike.refl U.vm) q3, q4, ?_⟩
  obtain ⟨z1, z2, tt, n1, n2, y1, y2, y3, y4, y5⟩ := q5
  exact ⟨z1.moved (U := U.calling g mk a) (Vm.Alike.refl U.vm), z2.moved (U := U.calling g mk a) (Vm.Alike.refl U.vm), fun k hk => (tt k hk).moved (U := U.calling g mk a) (Vm.Alike.refl U.vm), n1.same rfl rfl, n2.same rfl rfl, vk_R.same rfl y1, vk_R.same rfl y2, y3.moved (U := U.calling g mk a) (Vm.Alike.refl U.vm), y4.moved (U := U.calling g mk a) (Vm.Alike.refl U.vm), y5.moved (U := U.calling g mk a) (Vm.Alike.refl U.vm)⟩
theorem am_good {w : Cond} (hw : w ∈ am_ts) : w ∈ am_ts ∧ ((w.onTables && w.keeps) = true ∨ ∃ ty, w = .arrayClass ty) := am_ts_good w hw
theorem am_goodc {w : Cond} (hw : w ∈ am_ts) : GoodIn am_ts (w :: am_ts) := by
  intro x hx
  rcases List.mem_cons.mp hx with e9 | hx
  · rw [e9]; exact am_good hw
  · exact am_good hx
theorem am_FA_call {d m' q : Nat} {b : Bool} {as st' : List am_V} (hx : am_FA (am_x n) d m lv h (.inr (.inr (.inr (b, m', as, q, st')))) = some r) : b = true ∧ ∃ d' r1, d = d' + 1 ∧ am_x n d' m' 0 (am_ent m' as) [] h = some r1 ∧ am_x n d m q lv (r1.1.toList ++ st') r1.2 = some r := by
  cases b with
  | false => cases hx
  | true =>
    cases d with
    | zero => cases hx
    | succ d' =>
      obtain ⟨r1, h1, h2⟩ := Option.bind_eq_some_iff.mp hx
      exact ⟨rfl, d', r1, rfl, h1, h2⟩
theorem am_split {np : Nat} (hle : np ≤ st.length) : st.map (am_av ad) = ((st.take np).reverse.map (am_av ad)).reverse ++ (st.drop np).map (am_av ad) ∧ ((st.take np).reverse.map (am_av ad)).length = np := by
  constructor
  · rw [← List.map_reverse, List.reverse_reverse, ← List.map_append, List.take_append_drop]
  · rw [List.length_map, List.length_reverse, List.length_take, Nat.min_eq_left hle]
theorem am_so_take {nn np : Nat} (hs : am_so nn st) : am_so nn (st.take np).reverse ∧ am_so nn (st.drop np) := ⟨fun v hv => hs v (List.mem_of_mem_take (List.mem_reverse.mp hv)), fun v hv => hs v (List.mem_of_mem_drop hv)⟩
theorem s_callS {idx m' np w : Nat} {z : Int} (hd : decode (am_M m).2.1 pc = .ok (.invokestatic idx, 3)) (hp : am_pool m idx = some (3, m', np, z, w)) (ih : am_Sd l n) (X : am_Cx l p e R s mt args below meth c Q D cy A m d c0 s0 r ad h H locs cells slots) (hl : am_lr ad h.1.length ls (am_M m).2.2.1 lv) (hs : am_so h.1.length st) (hx : am_FA (am_x n) d m lv h (am_call 3 m' np (am_own m') pc st h) = some r) : am_Wc l p e R s mt args below meth c Q H locs cells slots pc ls (st.map (am_av ad)) := by
  obtain ⟨wl, hok⟩ : Cond.methodLink (am_cn (am_own m)) idx (am_M m').1 ∈ am_ts ∧ am_mok 3 np (am_M m') := am_pool_ok hp
  have hx : am_FA (am_x n) d m lv h (bif Nat.ble np st.length && am_rm (st.drop np) && Nat.ble (am_lay (st.take np).reverse).length (am_M m').2.2.1 then .inr (.inr (.inr (true, m', (st.take np).reverse, pc + 3, st.drop np))) else am_no) = some r := hx
  cases hg : (Nat.ble np st.length && am_rm (st.drop np) && Nat.ble (am_lay (st.take np).reverse).length (am_M m').2.2.1) with
  | false => rw [hg] at hx; cases hx
  | true =>
    rw [hg] at hx
    rw [Bool.and_eq_true, Bool.and_eq_true] at hg
    obtain ⟨⟨g1, g2⟩, g3⟩ := hg
    have g1 := Nat.le_of_ble_eq_true g1
    have g3 := Nat.le_of_ble_eq_true g3
    obtain ⟨-, d', r1, rfl, hx1, hx2⟩ := am_FA_call hx
    obtain ⟨sp1, sp2⟩ := am_split (ad := ad) g1
    obtain ⟨so1, so2⟩ := am_so_take (np := np) hs
    obtain ⟨hex, hcb, hml, hown, hts, -⟩ := id X.1
    obtain ⟨hK, hP, hD, hS, hA, hG, hXx⟩ := id X.2.2.1
    obtain ⟨Xr1, Xr2⟩ := X.2.2.2.1
    obtain ⟨k1, k2, k3, k4, k5, k6, k7, k8, k9⟩ := id hok
    have gr := am_x_grow _ _ _ _ _ _ _ _ hx2
    have gr1 := am_x_grow _ _ _ _ _ _ _ _ hx1
    have hM := am_met ih (am_n276 hok) hok hx1 g3 so1 hG D cy ad H.size
    have cw := va_cwS (R := R) (s := s) (args := args) (own := am_cn (am_own m)) (index := idx) (y := (am_M m').1) (bytes := (am_M m').2.1) (maxL := (am_M m').2.2.1) (ret := (am_M m').2.2.2.1) (Ts := am_ts) (ws := Cond.code (am_M m').1 (am_M m').2.1 (am_M m').2.2.1 (am_M m').2.2.2.1 :: am_ts) (rm := { frames := d', cells := r1.2.2.2.2.1 - h.2.2.2.1, slots := r1.2.2.2.2.2.1 - h.2.2.2.2.1, locals := 40 * d' }) np hts (by
        intro x hx9
        unfold va_wsS at hx9
        rcases List.mem_append.mp hx9 with hx9 | hx9
        · rcases List.mem_cons.mp hx9 with e9 | hx9
          · rw [e9]; exact am_good wl
          · rcases List.mem_cons.mp hx9 with e9 | hx9
            · rw [e9]; exact am_good k8
            · rw [List.mem_singleton.mp hx9]; exact am_good k4
        · exact am_goodc k3 x hx9) rfl rfl rfl ⟨k5.1, k5.2, k7⟩ ⟨by show d' + 1 ≤ R.frames; omega, by show 8 + ((am_M m').2.2.1 + 11) + 40 * d' ≤ R.locals; omega⟩
    rw [sp1]
    obtain ⟨Xn, Xm⟩ : (cells + c0 = h.2.2.2.1 ∧ slots + s0 = h.2.2.2.2.1) ∧ (r.2.2.2.2.1 ≤ R.cells + c0 ∧ r.2.2.2.2.2.1 ≤ R.slots + s0) := ⟨X.2.2.2.2.1, X.2.2.2.2.2.1⟩
    refine am_callW (va_runS (As := (st.take np).reverse.map (am_av ad)) (rest := (st.drop np).map (am_av ad)) ⟨hex, hcb, hml, hown, hts⟩ hM cw ⟨am_blind, fun U hU hW => ⟨rfl, am_Pq_at X.2.2.1 hU hW⟩⟩ rfl sp2 hl.2.1.1 rfl (lv_room (am_rm_av g2)) hd ⟨by have := gr.1; have := gr1.1; omega, by have := gr.2.1; have := gr1.2.1; omega⟩) hS (fun q _ hq => am_A_in hD hS hA q hq) (am_A_in hD hS hA) (fun st₀ H1 locs1 ad' e0 e1 e2 e3 e4 e5 e6 e7 => ?_)
    exact s_after ih X hl so2 hx1 hx2 e0 e1 e2 e3 e4 e5 e6 e7
theorem s_callV {idx m' np w : Nat} {z : Int} (hd : decode (am_M m).2.1 pc = .ok (.invokevirtual idx, 3)) (hp : am_pool m idx = some (2, m', np, z, w)) (ih : am_Sd l n) (X : am_Cx l p e R s mt args below meth c Q D cy A m d c0 s0 r ad h H locs cells slots) (hl : am_lr ad h.1.length ls (am_M m).2.2.1 lv) (hs : am_so h.1.length st) (hx : am_FA (am_x n) d m lv h (am_call 2 m' np (am_own m') pc st h) = some r) : am_Wc l p e R s mt args below meth c Q H locs cells slots pc ls (st.map (am_av ad)) := by
  obtain ⟨wl, hok⟩ : Cond.methodLink (am_cn (am_own m)) idx (am_M m').1 ∈ am_ts ∧ am_mok 2 np (am_M m') := am_pool_ok hp
  have hx : am_FA (am_x n) d m lv h (bif Nat.ble (np + 1) st.length && am_rm (st.drop (np + 1)) && Nat.ble (am_lay (st.take (np + 1)).reverse).length (am_M m').2.2.1 then .inr (.inr (.inr (am_cy h 2 (am_own m') (st.take (np + 1)).reverse, m', (st.take (np + 1)).reverse, pc + 3, st.drop (np + 1)))) else am_no) = some r := hx
  cases hg : (Nat.ble (np + 1) st.length && am_rm (st.drop (np + 1)) && Nat.ble (am_lay (st.take (np + 1)).reverse).length (am_M m').2.2.1) with
  | false => rw [hg] at hx; cases hx
  | true =>
    rw [hg] at hx
    rw [Bool.and_eq_true, Bool.and_eq_true] at hg
    obtain ⟨⟨g1, g2⟩, g3⟩ := hg
    have g1 := Nat.le_of_ble_eq_true g1
    have g3 := Nat.le_of_ble_eq_true g3
    obtain ⟨hcy, d', r1, rfl, hx1, hx2⟩ := am_FA_call hx
    obtain ⟨sp1, sp2⟩ := am_split (ad := ad) g1
    obtain ⟨so1, so2⟩ := am_so_take (np := np + 1) hs
    obtain ⟨hex, hcb, hml, hown, hts, -⟩ := id X.1
    obtain ⟨hK, hP, hD, hS, hA, hG, hXx⟩ := id X.2.2.1
    obtain ⟨Xr1, Xr2⟩ := X.2.2.2.1
    obtain ⟨k1, k2, k3, k4, k5, k6, k7, k8, k9⟩ := id hok
    have gr := am_x_grow _ _ _ _ _ _ _ _ hx2
    have gr1 := am_x_grow _ _ _ _ _ _ _ _ hx1
    obtain ⟨Xn, Xm⟩ : (cells + c0 = h.2.2.2.1 ∧ slots + s0 = h.2.2.2.2.1) ∧ (r.2.2.2.2.1 ≤ R.cells + c0 ∧ r.2.2.2.2.2.1 ≤ R.slots + s0) := ⟨X.2.2.2.2.1, X.2.2.2.2.2.1⟩
    have hM := am_met ih (am_n276 hok) hok hx1 g3 so1 hG D cy ad H.size
    generalize has : (st.take (np + 1)).reverse = as at *
    match as, has, hcy, sp1, sp2, so1, hx1, g3, hM with
    | .inr (.inr q) :: ar, has, hcy, sp1, sp2, so1, hx1, g3, hM =>
      have hcy : am_isk (am_kl h q) (am_own m') = true := hcy
      have ow : am_own m' < 11 := by
        have o18 := (am_tb hok).1
        have ek := am_isk_eq hcy
        obtain ⟨a1, a2⟩ := am_kl_at (h := h) (p := q) hG (by omega) (by omega)
        have := ((hG.2.1 q _ a1).1 (by omega)).1
        omega
      obtain ⟨a1, a2, a3, a4⟩ := am_obj_at (cy := cy) (ad := ad) hG ow hcy
      have eC : (am_M m').1.cls = (am_Tf (am_own m')).1 := k1.trans (am_cnT _ ow)
      have cw := cwV (R := R) (s := s) (args := args) (own := am_cn (am_own m)) (C := (am_M m').1.cls) (index := idx) (y := (am_M m').1) (bytes := (am_M m').2.1) (maxL := (am_M m').2.2.1) (ret := (am_M m').2.2.2.1) (Ts := am_ts) (ws := Cond.code (am_M m').1 (am_M m').2.1 (am_M m').2.2.1 (am_M m').2.2.2.1 :: am_ts) (rm := { frames := d', cells := r1.2.2.2.2.1 - h.2.2.2.1, slots := r1.2.2.2.2.2.1 - h.2.2.2.2.1, locals := 40 * d' }) np hts (by
          intro x hx9
          unfold wsV at hx9
          rcases List.mem_append.mp hx9 with hx9 | hx9
          · rcases List.mem_cons.mp hx9 with e9 | hx9
            · rw [e9]; exact am_good wl
            · rcases List.mem_cons.mp hx9 with e9 | hx9
              · rw [e9]; exact am_good k8.1
              · rcases List.mem_cons.mp hx9 with e9 | hx9
                · rw [e9]; exact am_good k8.2
                · rw [List.mem_singleton.mp hx9]; exact am_good k4
          · exact am_goodc k3 x hx9) rfl rfl rfl ⟨rfl, k5.1, k5.2, k7⟩ ⟨by show d' + 1 ≤ R.frames; omega, by show 8 + ((am_M m').2.2.1 + 11) + 40 * d' ≤ R.locals; omega⟩
      have hav : am_av ad (.inr (.inr q)) = .ref (ad q) := am_ref_av a2
      rw [List.map_cons, hav] at hM sp1 sp2
      rw [List.reverse_cons, List.append_assoc] at sp1
      rw [sp1]
      have hrc := va_recv hK hP (am_Tf_at _ ow) a3
      rw [← eC] at hrc
      refine am_callW (va_runV (As := ar.map (am_av ad)) (rest := (st.drop (np + 1)).map (am_av ad)) ⟨hex, hcb, hml, hown, hts⟩ hM cw ⟨am_blind, hrc, fun U hU hW => ⟨rfl, am_Pq_at X.2.2.1 hU hW⟩⟩ rfl (by rw [List.length_cons] at sp2; omega) hl.2.1.1 rfl (lv_room (am_rm_av g2)) hd ⟨by have := gr.1; have := gr1.1; omega, by have := gr.2.1; have := gr1.2.1; omega⟩) hS (fun q _ hq => am_A_in hD hS hA q hq) (am_A_in hD hS hA) (fun st₀ H1 locs1 ad' e0 e1 e2 e3 e4 e5 e6 e7 => ?_)
      exact s_after ih X hl so2 hx1 hx2 e0 e1 e2 e3 e4 e5 e6 e7
    | [], has, hcy, _, _, _, _, _, _ => cases hcy
    | .inl _ :: _, has, hcy, _, _, _, _, _, _ => cases hcy
    | .inr (.inl _) :: _, has, hcy, _, _, _, _, _, _ => cases hcy
theorem s_callI {idx m' np w : Nat} {z : Int} (hd : decode (am_M m).2.1 pc = .ok (.invokespecial idx, 3)) (hp : am_pool m idx = some (4, m', np, z, w)) (ih : am_Sd l n) (X : am_Cx l p e R s mt args below meth c Q D cy A m d c0 s0 r ad h H locs cells slots) (hl : am_lr ad h.1.length ls (am_M m).2.2.1 lv) (hs : am_so h.1.length st) (hx : am_FA (am_x n) d m lv h (am_call 4 m' np (am_own m') pc st h) = some r) : am_Wc l p e R s mt args below meth c Q H locs cells slots pc ls (st.map (am_av ad)) := by
  obtain ⟨wl, hok⟩ : Cond.methodLink (am_cn (am_own m)) idx (am_M m').1 ∈ am_ts ∧ am_mok 4 np (am_M m') := am_pool_ok hp
  have hx : am_FA (am_x n) d m lv h (bif Nat.ble (np + 1) st.length && am_rm (st.drop (np + 1)) && Nat.ble (am_lay (st.take (np + 1)).reverse).length (am_M m').2.2.1 then .inr (.inr (.inr (am_cy h 4 (am_own m') (st.take (np + 1)).reverse, m', (st.take (np + 1)).reverse, pc + 3, st.drop (np + 1)))) else am_no) = some r := hx
  cases hg : (Nat.ble (np + 1) st.length && am_rm (st.drop (np + 1)) && Nat.ble (am_lay (st.take (np + 1)).reverse).length (am_M m').2.2.1) with
  | false => rw [hg] at hx; cases hx
  | true =>
    rw [hg] at hx
    rw [Bool.and_eq_true, Bool.and_eq_true] at hg
    obtain ⟨⟨g1, g2⟩, g3⟩ := hg
    have g1 := Nat.le_of_ble_eq_true g1
    have g3 := Nat.le_of_ble_eq_true g3
    obtain ⟨hcy, d', r1, rfl, hx1, hx2⟩ := am_FA_call hx
    obtain ⟨sp1, sp2⟩ := am_split (ad := ad) g1
    obtain ⟨so1, so2⟩ := am_so_take (np := np + 1) hs
    obtain ⟨hex, hcb, hml, hown, hts, -⟩ := id X.1
    obtain ⟨hK, hP, hD, hS, hA, hG, hXx⟩ := id X.2.2.1
    obtain ⟨Xr1, Xr2⟩ := X.2.2.2.1
    obtain ⟨k1, k2, k3, k4, k5, k6, k7, k8, k9⟩ := id hok
    have gr := am_x_grow _ _ _ _ _ _ _ _ hx2
    have gr1 := am_x_grow _ _ _ _ _ _ _ _ hx1
    obtain ⟨Xn, Xm⟩ : (cells + c0 = h.2.2.2.1 ∧ slots + s0 = h.2.2.2.2.1) ∧ (r.2.2.2.2.1 ≤ R.cells + c0 ∧ r.2.2.2.2.2.1 ≤ R.slots + s0) := ⟨X.2.2.2.2.1, X.2.2.2.2.2.1⟩
    have hM := am_met ih (am_n276 hok) hok hx1 g3 so1 hG D cy ad H.size
    generalize has : (st.take (np + 1)).reverse = as at *
    match as, has, hcy, sp1, sp2, so1, hx1, g3, hM with
    | .inr (.inr q) :: ar, has, hcy, sp1, sp2, so1, hx1, g3, hM =>
      have hq : q ≠ 999999 := by
        intro e9
        subst e9
        cases hcy
      have hnone := (am_tb hok).2 k8.2
      rw [hnone] at hM k3
      have cw := cwI (R := R) (s := s) (args := args) (own := am_cn (am_own m)) (index := idx) (y := (am_M m').1) (bytes := (am_M m').2.1) (maxL := (am_M m').2.2.1) (Ts := am_ts) (ws := Cond.code (am_M m').1 (am_M m').2.1 (am_M m').2.2.1 none :: am_ts) (rm := { frames := d', cells := r1.2.2.2.2.1 - h.2.2.2.1, slots := r1.2.2.2.2.2.1 - h.2.2.2.2.1, locals := 40 * d' }) np hts (am_goodc k3) rfl rfl rfl (hts _ k4) (hts _ wl) (hts _ k8.1) k8.2 ⟨k5.1, k5.2, k7⟩ ⟨by show d' + 1 ≤ R.frames; omega, by show 8 + ((am_M m').2.2.1 + 11) + 40 * d' ≤ R.locals; omega⟩
      have hav : am_av ad (.inr (.inr q)) = .ref (ad q) := am_ref_av2 hq
      rw [List.map_cons, hav] at hM sp1 sp2
      rw [List.reverse_cons, List.append_assoc] at sp1
      rw [sp1]
      refine am_callW (va_runI (As := ar.map (am_av ad)) (rest := (st.drop (np + 1)).map (am_av ad)) ⟨hex, hcb, hml, hown, hts⟩ hM cw ⟨am_blind, fun U hU hW => ⟨rfl, am_Pq_at X.2.2.1 hU hW⟩⟩ rfl (by rw [List.length_cons] at sp2; omega) hl.2.1.1 rfl (lv_room (am_rm_av g2)) hd ⟨by have := gr.1; have := gr1.1; omega, by have := gr.2.1; have := gr1.2.1; omega⟩) hS (fun q _ hq => am_A_in hD hS hA q hq) (am_A_in hD hS hA) (fun st₀ H1 locs1 ad' e0 e1 e2 e3 e4 e5 e6 e7 => ?_)
      exact s_after ih X hl so2 hx1 hx2 e0 e1 e2 e3 e4 e5 e6 e7
    | [], has, hcy, _, _, _, _, _, _ => cases hcy
    | .inl _ :: _, has, hcy, _, _, _, _, _, _ => cases hcy
    | .inr (.inl _) :: _, has, hcy, _, _, _, _, _, _ => cases hcy
end AMK
