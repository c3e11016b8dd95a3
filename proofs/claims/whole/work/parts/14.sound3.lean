/-! THE ABSTRACT MACHINE'S RUNS ARE THE REAL ONE'S: fields and arrays -/
section AMM
variable {l : Launch} {p : Program} {e : Env} {R : Room} {s : State} {mt : MethodId} {args : Array Value} {below : List Frame} {meth : Method} {c : Code} {Q : State → Prop} {D : va_G} {cy : Nat → ClassId} {A : Nat → Prop} {m d c0 s0 : Nat} {r : am_Res} {ad : Nat → Nat} {h : am_H} {H : Heap} {locs : List Loc} {cells slots : Nat} {ls : Array Slot} {lv : am_L} {st : List am_V} {pc n : Nat}
theorem am_nf_o (ci : Nat) : am_nf ci = am_nfo ci := rfl
theorem am_isk_eq {q : Nat × Nat} {ci : Nat} (h : am_isk q ci = true) : q.1 = ci := Nat.eq_of_beq_eq_true h
/-- an object of a class at a place -/
theorem am_obj_at (hG : am_G h) {q ci : Nat} (hci : ci < 11) (hk : am_isk (am_kl h q) ci = true) : h.1[q]? = some (ci, (am_Tf ci).2.2) ∧ q < 999999 ∧ (am_ws cy ad h)[q]? = some (ad q, .inr (ci, (List.range (am_Tf ci).2.2).map (fun k => am_av ad (am_fv (am_fty ci k) h q k)))) ∧ ∀ k, k < (am_Tf ci).2.2 → am_okv h.1.length (am_fv (am_fty ci k) h q k) := by
  have e1 := am_isk_eq hk
  obtain ⟨a1, a2⟩ := am_kl_at (h := h) (p := q) hG (by omega) (by omega)
  obtain ⟨b1, b2, b3⟩ := (hG.2.1 q _ a1).1 (by omega)
  have e2 : am_kl h q = (ci, (am_Tf ci).2.2) := by
    refine Prod.ext e1 ?_
    rw [b2, e1, am_nf_eq ci hci]
    rfl
  rw [e2] at a1 b3
  refine ⟨a1, a2, ?_, b3⟩
  rw [am_ws_at, a1]
  show some (ad q, am_ce cy ad h q (ci, (am_Tf ci).2.2)) = _
  rw [am_ce_obj (show ((ci, (am_Tf ci).2.2) : Nat × Nat).1 < 20 by show ci < 20; omega)]
theorem am_ref_av {q : Nat} (h : q < 999999) : am_av ad (.inr (.inr q)) = .ref (ad q) := if_neg (by omega)
theorem s_get {idx ci k w : Nat} {z : Int} (hd : decode (am_M m).2.1 pc = .ok (.getfield idx, 3)) (hp : am_pool m idx = some (1, ci, k, z, w)) (ih : am_Sd l n) (X : am_Cx l p e R s mt args below meth c Q D cy A m d c0 s0 r ad h H locs cells slots) (hl : am_lr ad h.1.length ls (am_M m).2.2.1 lv) (hs : am_so h.1.length st) (hx : am_FA (am_x n) d m lv h (am_get ci k z.toNat pc lv st h) = some r) : am_Wc l p e R s mt args below meth c Q H locs cells slots pc ls (st.map (am_av ad)) := by
  obtain ⟨wl, wci, wk, wz⟩ : Cond.fieldLink (am_cn (am_own m)) idx ((am_Tf ci).2.1 k).1 ((am_Tf ci).2.1 k).2.1 ((am_Tf ci).2.1 k).2.2.1 ∈ am_ts ∧ ci < 11 ∧ k < (am_Tf ci).2.2 ∧ z.toNat = am_fty ci k := am_pool_ok hp
  unfold am_get at hx
  split at hx
  · rename_i q rest
    obtain ⟨hb, hx⟩ := am_FA_ck hx
    obtain ⟨hex, hcb, hml, hown, hts, -⟩ := X.1
    obtain ⟨hK, hP, hD, hS, hA, hG, hXx⟩ := X.2.2.1
    obtain ⟨a1, a2, a3, a4⟩ := am_obj_at (cy := cy) (ad := ad) hG wci hb
    rw [wz] at hx
    show am_Wc l p e R s mt args below meth c Q H locs cells slots pc ls (am_av ad (.inr (.inr q)) :: rest.map (am_av ad))
    rw [am_ref_av a2]
    refine va_get (D := D) (ci := ci) (v := am_av ad (am_fv (am_fty ci k) h q k)) (C := (am_Tf ci).1) (T := (am_Tf ci).2.1) (N := (am_Tf ci).2.2) hex hcb hts (am_uin ci wci) hown hK hP q a3 (am_Tf_at ci wci) k wk (hts _ wl) (fun _ h9 => h9) ?_ hd ?_
    · rw [List.getElem?_map, List.getElem?_range wk]
      rfl
    · exact s_push ih X hl (am_so_tl hs) (a4 k wk) hx rfl
  · cases hx
/-- a field is written -/
theorem s_put1 {idx ci k w q : Nat} {z : Int} {v : am_V} {rest : List am_V} {h' : am_H} (hc : am_code m pc = some (.putfield idx, 3)) (hd : decode (am_M m).2.1 pc = .ok (.putfield idx, 3)) (hp : am_pool m idx = some (1, ci, k, z, w)) (ih : am_Sd l n) (X : am_Cx l p e R s mt args below meth c Q D cy A m d c0 s0 r ad h H locs cells slots) (hl : am_lr ad h.1.length ls (am_M m).2.2.1 lv) (hs : am_so h.1.length (v :: .inr (.inr q) :: rest)) (hk : am_isk (am_kl h q) ci = true)
    (h1 : h'.1 = h.1) (h2 : ∀ x j, ¬ (x = q ∧ j = k) → h'.2.1 x j = h.2.1 x j) (h3 : ∀ x j, ¬ (x = q ∧ j = k) → h'.2.2.1 x j = h.2.2.1 x j) (h4 : h'.2.2.2 = h.2.2.2) (hv : am_fv (am_fty ci k) h' q k = v) (hn : narrow (am_ty ci k) (am_av ad v) = am_av ad v) (hf : fits (am_ty ci k) (am_av ad v) = true)
    (hx : am_x n d m (pc + 3) lv rest h' = some r) : am_Wc l p e R s mt args below meth c Q H locs cells slots pc ls ((v :: .inr (.inr q) :: rest).map (am_av ad)) := by
  obtain ⟨wl, wci, wk, wz⟩ : Cond.fieldLink (am_cn (am_own m)) idx ((am_Tf ci).2.1 k).1 ((am_Tf ci).2.1 k).2.1 ((am_Tf ci).2.1 k).2.2.1 ∈ am_ts ∧ ci < 11 ∧ k < (am_Tf ci).2.2 ∧ z.toNat = am_fty ci k := am_pool_ok hp
  obtain ⟨XC, Xd, XR, Xr, Xn, Xm, Xf⟩ := X
  obtain ⟨hex, hcb, hml, hown, hts, hnm, -⟩ := id XC
  obtain ⟨hK, hP, hD, hS, hA, hG, hXx⟩ := XR
  obtain ⟨a1, a2, a3, a4⟩ := am_obj_at (cy := cy) (ad := ad) hG wci hk
  have hG' : am_G h' := am_G_put hG h1 (by omega) h2 h3 (fun kl hkl _ _ => by
      rw [a1] at hkl
      cases hkl
      rw [hv]
      exact am_so_hd hs) (fun kl hkl h23 _ => by
      rw [a1] at hkl
      cases hkl
      exact absurd h23 (by show ¬ ci = 23; omega)) (fun kl hkl h20 _ _ => by
      rw [a1] at hkl
      cases hkl
      exact absurd h20 (by show ¬ 20 ≤ ci; omega))
  have hfs : ((List.range (am_Tf ci).2.2).map (fun k => am_av ad (am_fv (am_fty ci k) h q k))).set k (am_av ad v) = (List.range (am_Tf ci).2.2).map (fun k => am_av ad (am_fv (am_fty ci k) h' q k)) := by
    apply List.ext_getElem?
    intro j
    rw [List.getElem?_set, List.getElem?_map, List.getElem?_map, List.length_map, List.length_range]
    by_cases hj : k = j
    · subst hj
      rw [if_pos rfl, if_pos wk, List.getElem?_range wk]
      show some (am_av ad v) = some (am_av ad (am_fv (am_fty ci k) h' q k))
      rw [hv]
    · rw [if_neg hj]
      cases hjr : (List.range (am_Tf ci).2.2)[j]? with
      | none => rfl
      | some j' =>
        have e : j' = j := by
          have := List.getElem?_eq_some_iff.mp hjr
          obtain ⟨_, e⟩ := this
          rw [← e, List.getElem_range]
        subst e
        show some (am_av ad (am_fv (am_fty ci j') h q j')) = some (am_av ad (am_fv (am_fty ci j') h' q j'))
        rw [am_fv_ne (h2 q j' (fun z => hj z.2.symm)) (h3 q j' (fun z => hj z.2.symm))]
  have hws : am_ws cy ad h' = (am_ws cy ad h).set q (ad q, .inr (ci, ((List.range (am_Tf ci).2.2).map (fun k => am_av ad (am_fv (am_fty ci k) h q k))).set k (am_av ad v))) := by
    refine am_ws_set h1 a1 (fun x kl' hx' _ => am_ce_ne (fun j => h2 x j (fun z => hx' z.1)) (fun j => h3 x j (fun z => hx' z.1))) ?_
    rw [am_ce_obj (show ((ci, (am_Tf ci).2.2) : Nat × Nat).1 < 20 by show ci < 20; omega), hfs]
  have fin : ∀ (H1 : Heap) (locs1 : List Loc), va_P D vwCl ((am_ws cy ad h).set q (ad q, .inr (ci, ((List.range (am_Tf ci).2.2).map (fun k => am_av ad (am_fv (am_fty ci k) h q k))).set k (am_av ad v)))) H1 → va_D A ((am_ws cy ad h).set q (ad q, .inr (ci, ((List.range (am_Tf ci).2.2).map (fun k => am_av ad (am_fv (am_fty ci k) h q k))).set k (am_av ad v)))) → va_S A s.heap H1 locs1 → am_Wc l p e R s mt args below meth c Q H1 locs1 cells slots (pc + 3) ls (rest.map (am_av ad)) := by
    intro H1 locs1 P1 D1 S1
    have hR' : am_Rp D cy ad A s h' H1 locs1 := am_Rp_put ⟨hK, hP, hD, hS, hA, hG, hXx⟩ hws P1 D1 S1 hG' (fun x j hxx => h3 x j (fun z => by omega)) (by rw [h4])
    refine ih _ _ _ _ _ _ _ hx _ _ _ _ _ _ _ _ _ _ _ _ _ _ _ _ _ _ _ _ _ ⟨XC, Xd, hR', Xr, by rw [h4]; exact Xn, Xm, by rw [h1]; exact Xf⟩ (by rw [h1]; exact hl) (by rw [h1]; exact am_so_tl (am_so_tl hs))
  show am_Wc l p e R s mt args below meth c Q H locs cells slots pc ls (am_av ad v :: am_av ad (.inr (.inr q)) :: rest.map (am_av ad))
  rw [am_ref_av a2]
  cases hfin : ((am_Tf ci).2.1 k).2.2.2 with
  | false => exact va_put (D := D) (ci := ci) (v := am_av ad v) (ty := am_ty ci k) (C := (am_Tf ci).1) (T := (am_Tf ci).2.1) (N := (am_Tf ci).2.2) hex hcb hts (am_uin ci wci) (am_ty ci) (am_tyok ci wci) (am_nmok ci wci) hown hK hP hD hS q a3 (am_Tf_at ci wci) k wk (hts _ wl) (fun _ h9 => h9) hfin (am_tyok ci wci k wk) hn hf (by rw [List.length_map, List.length_range]; exact wk) hd fin
  | true =>
    have hpf := am_pf_at hc
    have hpf : (!((am_Tf ci).2.1 k).2.2.2 || (decide ((am_M m).1.name = "<init>") && decide (am_cn (am_own m) = (am_Tf ci).1))) = true := by
      unfold am_pfok at hpf
      rw [Bool.and_eq_true] at hpf
      have h9 := hpf.2
      dsimp only at h9
      unfold am_pool at hp
      unfold am_own at hp ⊢
      generalize am_M m = ee at h9 hp ⊢
      rw [hp] at h9
      exact h9
    rw [hfin] at hpf
    simp only [Bool.not_true, Bool.false_or, Bool.and_eq_true, decide_eq_true_eq] at hpf
    exact va_putF (D := D) (ci := ci) (v := am_av ad v) (ty := am_ty ci k) (C := (am_Tf ci).1) (T := (am_Tf ci).2.1) (N := (am_Tf ci).2.2) hex hcb hts (am_uin ci wci) (am_ty ci) (am_tyok ci wci) (am_nmok ci wci) hown hK hP hD hS q a3 (am_Tf_at ci wci) k wk (hts _ wl) (fun _ h9 => h9) hfin (hnm.trans hpf.1) ((am_dcl ci wci k wk).trans hpf.2.symm) (am_tyok ci wci k wk) hn hf (by rw [List.length_map, List.length_range]; exact wk) hd fin
theorem am_up_eq {α : Type} {f : Nat → Nat → α} {p k : Nat} {v : α} : am_up f p k v p k = v := if_pos ⟨rfl, rfl⟩
theorem am_up_no {α : Type} {f : Nat → Nat → α} {p k : Nat} {v : α} {q j : Nat} (h : ¬ (q = p ∧ j = k)) : am_up f p k v q j = f q j := if_neg h
theorem s_put {idx ci k w : Nat} {z : Int} (hc : am_code m pc = some (.putfield idx, 3)) (hd : decode (am_M m).2.1 pc = .ok (.putfield idx, 3)) (hp : am_pool m idx = some (1, ci, k, z, w)) (ih : am_Sd l n) (X : am_Cx l p e R s mt args below meth c Q D cy A m d c0 s0 r ad h H locs cells slots) (hl : am_lr ad h.1.length ls (am_M m).2.2.1 lv) (hs : am_so h.1.length st) (hx : am_FA (am_x n) d m lv h (am_put ci k z.toNat pc lv st h) = some r) : am_Wc l p e R s mt args below meth c Q H locs cells slots pc ls (st.map (am_av ad)) := by
  obtain ⟨wl, wci, wk, wz⟩ : Cond.fieldLink (am_cn (am_own m)) idx ((am_Tf ci).2.1 k).1 ((am_Tf ci).2.1 k).2.1 ((am_Tf ci).2.1 k).2.2.1 ∈ am_ts ∧ ci < 11 ∧ k < (am_Tf ci).2.2 ∧ z.toNat = am_fty ci k := am_pool_ok hp
  have hty := am_ftyok ci wci k wk
  rw [wz] at hx
  unfold am_put at hx
  split at hx
  · rename_i v q rest
    cases h0 : Nat.beq (am_fty ci k) 0 with
    | true =>
      rw [h0] at hx
      obtain ⟨hb, hx⟩ := am_FA_ck hx
      have e0 := Nat.eq_of_beq_eq_true h0
      have et : am_ty ci k = .int := by
        rw [e0] at hty
        cases hh : am_ty ci k <;> rw [hh] at hty <;> first | rfl | cases hty
      exact s_put1 (h' := am_wr h q k v) hc hd hp ih X hl hs hb rfl (fun x j _ => rfl) (fun x j hj => am_up_no hj) rfl (by rw [e0]; show Sum.inl (am_up h.2.2.1 q k v q k) = _; rw [am_up_eq]) (by rw [et]; rfl) (by rw [et]; rfl) hx
    | false =>
      rw [h0] at hx
      simp only [cond_false] at hx
      cases h3 : Nat.beq (am_fty ci k) 3 with
      | false => rw [h3] at hx; cases hx
      | true =>
        rw [h3] at hx
        obtain ⟨hb, hx⟩ := am_FA_ck hx
        rw [Bool.and_eq_true] at hb
        have e0 := Nat.eq_of_beq_eq_true h3
        have et : am_ty ci k = .boolean := by
          rw [e0] at hty
          cases hh : am_ty ci k <;> rw [hh] at hty <;> first | rfl | cases hty
        have hv : v = 0 ∨ v = 1 := by simpa using hb.2
        exact s_put1 (h' := am_wr h q k v) hc hd hp ih X hl hs hb.1 rfl (fun x j _ => rfl) (fun x j hj => am_up_no hj) rfl (by rw [e0]; show Sum.inl (am_up h.2.2.1 q k v q k) = _; rw [am_up_eq]) (by rw [et]; rcases hv with rfl | rfl <;> rfl) (by rw [et]; rcases hv with rfl | rfl <;> rfl) hx
  · rename_i v q rest
    cases h0 : Nat.beq (am_fty ci k) 1 with
    | false => rw [h0] at hx; cases hx
    | true =>
      rw [h0] at hx
      obtain ⟨hb, hx⟩ := am_FA_ck hx
      have e0 := Nat.eq_of_beq_eq_true h0
      have et : am_ty ci k = .long := by
        rw [e0] at hty
        cases hh : am_ty ci k <;> rw [hh] at hty <;> first | rfl | cases hty
      exact s_put1 (h' := am_wr h q k v) hc hd hp ih X hl hs hb rfl (fun x j _ => rfl) (fun x j hj => am_up_no hj) rfl (by rw [e0]; show Sum.inr (Sum.inl (am_up h.2.2.1 q k v q k)) = _; rw [am_up_eq]) (by rw [et]; rfl) (by rw [et]; rfl) hx
  · rename_i v q rest
    cases h0 : Nat.beq (am_fty ci k) 2 with
    | false => rw [h0] at hx; cases hx
    | true =>
      rw [h0] at hx
      obtain ⟨hb, hx⟩ := am_FA_ck hx
      have e0 := Nat.eq_of_beq_eq_true h0
      have et : (∃ t, am_ty ci k = .object t) ∨ ∃ t, am_ty ci k = .array t := by
        rw [e0] at hty
        cases hh : am_ty ci k <;> rw [hh] at hty <;> first | exact Or.inl ⟨_, rfl⟩ | exact Or.inr ⟨_, rfl⟩ | cases hty
      have hav : am_av ad (.inr (.inr v)) = .null ∨ ∃ a, am_av ad (.inr (.inr v)) = .ref a := by
        show (if v = 999999 then Value.null else .ref (ad v)) = .null ∨ ∃ a, (if v = 999999 then Value.null else .ref (ad v)) = .ref a
        split
        · exact Or.inl rfl
        · exact Or.inr ⟨_, rfl⟩
      exact s_put1 (h' := am_wf h q k v) hc hd hp ih X hl hs hb rfl (fun x j hj => am_up_no hj) (fun x j _ => rfl) rfl (by rw [e0]; show Sum.inr (Sum.inr (am_up h.2.1 q k v q k)) = _; rw [am_up_eq]) (by rcases et with ⟨t, et⟩ | ⟨t, et⟩ <;> rcases hav with hav | ⟨a, hav⟩ <;> rw [et, hav] <;> rfl) (by rcases et with ⟨t, et⟩ | ⟨t, et⟩ <;> rcases hav with hav | ⟨a, hav⟩ <;> rw [et, hav] <;> rfl) hx
  · cases hx
/-- an array of ints, bytes or booleans at a place -/
theorem am_arr_at (hG : am_G h) {q : Nat} (h20 : 20 ≤ (am_kl h q).1) (h23 : (am_kl h q).1 ≤ 22) : h.1[q]? = some (am_kl h q) ∧ q < 999999 ∧ (am_ws cy ad h)[q]? = some (ad q, .inl (cy (am_kl h q).1, (am_kl h q).2, .inl (fun j => Int32.ofInt (h.2.2.1 q j)))) ∧ ∀ j, j < (am_kl h q).2 → am_R32 (h.2.2.1 q j) := by
  obtain ⟨a1, a2⟩ := am_kl_at (h := h) (p := q) hG (by omega) (by omega)
  obtain ⟨-, -, b3⟩ := (hG.2.1 q _ a1).2 h20
  refine ⟨a1, a2, ?_, b3 (by omega)⟩
  rw [am_ws_at, a1]
  show some (ad q, am_ce cy ad h q (am_kl h q)) = _
  rw [am_ce_int h20 (by omega)]
theorem am_arl_at (hG : am_G h) {q : Nat} (h23 : (am_kl h q).1 = 23) : h.1[q]? = some (am_kl h q) ∧ q < 999999 ∧ (am_ws cy ad h)[q]? = some (ad q, .inl (cy 23, (am_kl h q).2, .inr (.inl (fun j => Int64.ofInt (h.2.2.1 q j))))) ∧ ∀ j, j < (am_kl h q).2 → am_R64 (h.2.2.1 q j) := by
  obtain ⟨a1, a2⟩ := am_kl_at (h := h) (p := q) hG (by omega) (by omega)
  obtain ⟨-, b2, -⟩ := (hG.2.1 q _ a1).2 (by omega)
  refine ⟨a1, a2, ?_, b2 h23⟩
  rw [am_ws_at, a1]
  show some (ad q, am_ce cy ad h q (am_kl h q)) = _
  rw [am_ce_long h23]
theorem am_in_lt {i : Int} {n : Nat} (h : am_in i n = true) : i.toNat < n := by
  have h : 0 ≤ i ∧ i < (n : Int) := by simpa [am_in] using h
  omega
theorem s_iald (hd : decode (am_M m).2.1 pc = .ok (.iaload, 1)) (ih : am_Sd l n) (X : am_Cx l p e R s mt args below meth c Q D cy A m d c0 s0 r ad h H locs cells slots) (hl : am_lr ad h.1.length ls (am_M m).2.2.1 lv) (hs : am_so h.1.length st) (hx : am_FA (am_x n) d m lv h (am_iald pc lv st h) = some r) : am_Wc l p e R s mt args below meth c Q H locs cells slots pc ls (st.map (am_av ad)) := by
  unfold am_iald at hx
  split at hx
  · rename_i i q rest
    obtain ⟨hb, hx⟩ := am_FA_ck hx
    unfold am_i20 at hb
    rw [Bool.and_eq_true, Bool.or_eq_true] at hb
    obtain ⟨hex, hcb, hml, hown, hts, -⟩ := X.1
    obtain ⟨hK, hP, hD, hS, hA, hG, hXx⟩ := X.2.2.1
    have hi : am_R32 i := am_so_hd hs
    have hin := am_vin hi hb.2
    show am_Wc l p e R s mt args below meth c Q H locs cells slots pc ls (.int (Int32.ofInt i) :: am_av ad (.inr (.inr q)) :: rest.map (am_av ad))
    rcases hb.1 with h20 | h24
    · have e := Nat.eq_of_beq_eq_true h20
      obtain ⟨a1, a2, a3, a4⟩ := am_arr_at (cy := cy) (ad := ad) hG (q := q) (by omega) (by omega)
      rw [am_ref_av a2]
      refine va_iald hex hcb hK hP q 0 (n := (am_kl h q).2) a3 (by rw [e]; rfl) hin hd ?_
      rw [am_nn hi]
      exact s_push ih X hl (am_so_tl (am_so_tl hs)) (v := .inl (h.2.2.1 q i.toNat)) (a4 _ (am_in_lt hb.2)) hx rfl
    · have e := Nat.eq_of_beq_eq_true h24
      obtain ⟨k, hk, hq⟩ := am_kl_24 hG e
      subst hq
      have hav : am_av ad (.inr (.inr (1000000 + k))) = .ref (ad (1000000 + k)) := if_neg (by omega)
      rw [hav]
      refine va_ti hex hcb (hXx.2.2.1 k hk) hS hin rfl hd ?_
      rw [am_nn hi]
      exact s_push ih X hl (am_so_tl (am_so_tl hs)) (v := .inl (h.2.2.1 (1000000 + k) i.toNat)) (hG.2.2 _ _ (by omega)) hx rfl
  · cases hx
theorem s_bald (hd : decode (am_M m).2.1 pc = .ok (.baload, 1)) (ih : am_Sd l n) (X : am_Cx l p e R s mt args below meth c Q D cy A m d c0 s0 r ad h H locs cells slots) (hl : am_lr ad h.1.length ls (am_M m).2.2.1 lv) (hs : am_so h.1.length st) (hx : am_FA (am_x n) d m lv h (am_bald pc lv st h) = some r) : am_Wc l p e R s mt args below meth c Q H locs cells slots pc ls (st.map (am_av ad)) := by
  unfold am_bald at hx
  split at hx
  · rename_i i q rest
    obtain ⟨hb, hx⟩ := am_FA_ck hx
    unfold am_b21 at hb
    rw [Bool.and_eq_true, Bool.or_eq_true] at hb
    obtain ⟨hex, hcb, hml, hown, hts, -⟩ := X.1
    obtain ⟨hK, hP, hD, hS, hA, hG, hXx⟩ := X.2.2.1
    have hi : am_R32 i := am_so_hd hs
    have hin := am_vin hi hb.2
    show am_Wc l p e R s mt args below meth c Q H locs cells slots pc ls (.int (Int32.ofInt i) :: am_av ad (.inr (.inr q)) :: rest.map (am_av ad))
    rcases hb.1 with h20 | h24
    · have e := Nat.eq_of_beq_eq_true h20
      obtain ⟨a1, a2, a3, a4⟩ := am_arr_at (cy := cy) (ad := ad) hG (q := q) (by omega) (by omega)
      rw [am_ref_av a2]
      refine va_bald hex hcb hK hP q 1 (n := (am_kl h q).2) a3 (by rw [e]; rfl) hin hd ?_
      rw [am_nn hi]
      exact s_push ih X hl (am_so_tl (am_so_tl hs)) (v := .inl (h.2.2.1 q i.toNat)) (a4 _ (am_in_lt hb.2)) hx rfl
    · have e := Nat.eq_of_beq_eq_true h24
      obtain ⟨a1, a2, a3, a4⟩ := am_arr_at (cy := cy) (ad := ad) hG (q := q) (by omega) (by omega)
      rw [am_ref_av a2]
      refine va_zald hex hcb hK hP q 2 (n := (am_kl h q).2) a3 (by rw [e]; rfl) hin hd ?_
      rw [am_nn hi]
      exact s_push ih X hl (am_so_tl (am_so_tl hs)) (v := .inl (h.2.2.1 q i.toNat)) (a4 _ (am_in_lt hb.2)) hx rfl
  · cases hx
theorem s_lald (hd : decode (am_M m).2.1 pc = .ok (.laload, 1)) (ih : am_Sd l n) (X : am_Cx l p e R s mt args below meth c Q D cy A m d c0 s0 r ad h H locs cells slots) (hl : am_lr ad h.1.length ls (am_M m).2.2.1 lv) (hs : am_so h.1.length st) (hx : am_FA (am_x n) d m lv h (am_lald pc lv st h) = some r) : am_Wc l p e R s mt args below meth c Q H locs cells slots pc ls (st.map (am_av ad)) := by
  unfold am_lald at hx
  split at hx
  · rename_i i q rest
    obtain ⟨hb, hx⟩ := am_FA_ck hx
    unfold am_l23 at hb
    rw [Bool.and_eq_true] at hb
    obtain ⟨hex, hcb, hml, hown, hts, -⟩ := X.1
    obtain ⟨hK, hP, hD, hS, hA, hG, hXx⟩ := X.2.2.1
    have hi : am_R32 i := am_so_hd hs
    have hin := am_vin hi hb.2
    show am_Wc l p e R s mt args below meth c Q H locs cells slots pc ls (.int (Int32.ofInt i) :: am_av ad (.inr (.inr q)) :: rest.map (am_av ad))
    have e := Nat.eq_of_beq_eq_true hb.1
    obtain ⟨a1, a2, a3, a4⟩ := am_arl_at (cy := cy) (ad := ad) hG (q := q) e
    rw [am_ref_av a2]
    refine va_lald hex hcb hK hP q 3 (n := (am_kl h q).2) a3 rfl hin hd ?_
    rw [am_nn hi]
    exact s_push ih X hl (am_so_tl (am_so_tl hs)) (v := .inr (.inl (h.2.2.1 q i.toNat))) (a4 _ (am_in_lt hb.2)) hx rfl
  · cases hx
end AMM
