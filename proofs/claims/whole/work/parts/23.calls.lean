/-! THE ABSTRACT MACHINE'S RUNS ARE THE REAL ONE'S: a method's contract out of its run, and calls -/
def am_Pq (D : va_G) (cy : Nat → ClassId) (ad : Nat → Nat) (h : am_H) (sz : Nat) : State → Prop := fun U => U.heap.size = sz ∧ va_P D vwCl (am_ws cy ad h) U.heap ∧ va_K D vwCl (am_tys cy) U ∧ va_D (fun _ => True) (am_ws cy ad h) ∧ am_X ad (va_A (am_ws cy ad h) sz) U U.heap h
def am_Qc (r : am_Res) (D : va_G) (cy : Nat → ClassId) (ad : Nat → Nat) (n0 : Nat) (A : Nat → Prop) : Array Value → State → Outcome → State → Prop := fun _ st oc t =>
  (∃ ad' : Nat → Nat, (∀ q, q < n0 ∨ 999999 ≤ q → ad' q = ad q) ∧ oc = .returned (r.1.map (am_av ad')) ∧ va_P D vwCl (am_ws cy ad' r.2) t.heap ∧ va_D A (am_ws cy ad' r.2) ∧ am_G r.2 ∧ am_so r.2.1.length r.1.toList ∧ am_X ad' A st st.heap r.2) ∧ va_F A st t
theorem am_lay_len (ad : Nat → Nat) (as : List am_V) : (lg_sl (as.map (am_av ad))).length = (am_lay as).length := by
  induction as with
  | nil => rfl
  | cons v as ih =>
    unfold lg_sl at ih ⊢
    rw [List.map_cons, List.flatMap_cons, List.length_append, ih, am_cat_av]
    match v with
    | .inl z => show 1 + _ = (some (Sum.inl z) :: am_lay as).length; rw [List.length_cons]; omega
    | .inr (.inl z) => show 2 + _ = (some (Sum.inr (Sum.inl z)) :: none :: am_lay as).length; rw [List.length_cons, List.length_cons]; omega
    | .inr (.inr z) => show 1 + _ = (some (Sum.inr (Sum.inr z)) :: am_lay as).length; rw [List.length_cons]; omega
theorem am_lay_get {ad : Nat → Nat} (as : List am_V) : ∀ (k i : Nat) (v : am_V), (am_lay as).getD i none = some v → (k + i, am_av ad v) ∈ lv_args k (as.map (am_av ad)) ∧ v ∈ as := by
  induction as with
  | nil => intro k i v hv; cases hv
  | cons w as ih =>
    intro k i v hv
    have one : (∀ x, am_lay (w :: as) = some x :: am_lay as → am_cat w = 1 → x = w → (k + i, am_av ad v) ∈ lv_args k ((w :: as).map (am_av ad)) ∧ v ∈ w :: as) := by
      intro x hx hc hxw
      subst hxw
      rw [hx] at hv
      rw [List.map_cons]
      unfold lv_args
      rw [am_cat_av, hc, if_neg (by decide)]
      cases i with
      | zero => cases hv; exact ⟨List.mem_cons_self, List.mem_cons_self⟩
      | succ i =>
        have hv : (am_lay as).getD i none = some v := hv
        obtain ⟨a1, a2⟩ := ih (k + 1) i v hv
        exact ⟨List.mem_cons_of_mem _ (by rw [show k + (i + 1) = k + 1 + i by omega]; exact a1), List.mem_cons_of_mem _ a2⟩
    match w, hv, one with
    | .inl z, hv, one => exact one _ rfl rfl rfl
    | .inr (.inr z), hv, one => exact one _ rfl rfl rfl
    | .inr (.inl z), hv, _ =>
      rw [List.map_cons]
      unfold lv_args
      rw [am_cat_av]
      rw [if_pos (show am_cat (Sum.inr (Sum.inl z) : am_V) = 2 from rfl)]
      match i, hv with
      | 0, hv => cases hv; exact ⟨List.mem_cons_self, List.mem_cons_self⟩
      | 1, hv => cases hv
      | i + 2, hv =>
        have hv : (am_lay as).getD i none = some v := hv
        obtain ⟨a1, a2⟩ := ih (k + 2) i v hv
        exact ⟨List.mem_cons_of_mem _ (by rw [show k + (i + 2) = k + 2 + i by omega]; exact a1), List.mem_cons_of_mem _ a2⟩
theorem am_ent_lr {ad : Nat → Nat} {m nn : Nat} {as : List am_V} (hle : (am_lay as).length ≤ (am_M m).2.2.1) (hs : am_so nn as) : am_lr ad nn ((lg_sl (as.map (am_av ad)) ++ List.replicate ((am_M m).2.2.1 - (lg_sl (as.map (am_av ad))).length) Slot.unset).toArray) (am_M m).2.2.1 (am_ent m as) := by
  have hl := lv_entry (as.map (am_av ad)) (n := (am_M m).2.2.1) (by rw [am_lay_len]; exact hle)
  have hg : ∀ (i : Nat) (v : am_V), (am_ent m as).getD i none = some v → (am_lay as).getD i none = some v := by
    intro i v hv
    unfold am_ent at hv
    rw [List.getD_eq_getElem?_getD] at hv ⊢
    rcases Nat.lt_or_ge i (am_lay as).length with h1 | h1
    · rw [List.getElem?_append_left h1] at hv
      exact hv
    · rw [List.getElem?_append_right h1, List.getElem?_replicate] at hv
      split at hv <;> cases hv
  refine ⟨?_, ⟨hl.1, hl.2.1, fun q hq => ?_⟩, fun i v hv => ?_⟩
  · unfold am_ent
    rw [List.length_append, List.length_replicate]
    omega
  · obtain ⟨v, hv, he⟩ := am_al_mem.mp hq
    have h2 := (am_lay_get (ad := ad) as 0 q.1 v (hg _ _ hv)).1
    rw [Nat.zero_add] at h2
    have h3 : q = (q.1, am_av ad v) := Prod.ext rfl he
    rw [h3]
    exact hl.2.2 _ h2
  · exact hs v (am_lay_get (ad := ad) as 0 i v (hg _ _ hv)).2
theorem am_nolaw : Cond.code (am_M 276).1 (am_M 276).2.1 (am_M 276).2.2.1 (am_M 276).2.2.2.1 ∉ am_ts := by decide +kernel
theorem am_n276 {t np m : Nat} (hok : am_mok t np (am_M m)) : m ≠ 276 := by
  intro e
  subst e
  exact am_nolaw hok.2.2.1
/-- a method's contract, out of a run of it -/
theorem am_met {l : Launch} {n d m t np : Nat} (ih : am_Sd l n) (hm : m ≠ 276) (hok : am_mok t np (am_M m)) {as : List am_V} {h : am_H} {r : am_Res} (hx : am_x n d m 0 (am_ent m as) [] h = some r) (hle : (am_lay as).length ≤ (am_M m).2.2.1) (hs : am_so h.1.length as) (hG : am_G h) (D : va_G) (cy : Nat → ClassId) (ad : Nat → Nat) (sz : Nat) :
    Met l (am_M m).1 (Cond.code (am_M m).1 (am_M m).2.1 (am_M m).2.2.1 (am_M m).2.2.2.1 :: am_ts) { frames := d, cells := r.2.2.2.2.1 - h.2.2.2.1, slots := r.2.2.2.2.2.1 - h.2.2.2.2.1, locals := 40 * d } (va_Pc (as.map (am_av ad)) (am_Pq D cy ad h sz)) (am_Qc r D cy ad h.1.length (va_A (am_ws cy ad h) sz)) (r.2.2.2.2.1 - h.2.2.2.1) (r.2.2.2.2.2.1 - h.2.2.2.2.1) (va_A (am_ws cy ad h) sz) := by
  have gr := am_x_grow _ _ _ _ _ _ _ _ hx
  obtain ⟨k1, k2, k3, k4, k5, k6, k7, k8, k9⟩ := hok
  refine Met.ofW (cc := (am_M m).2.1) (maxL := (am_M m).2.2.1) (ret := (am_M m).2.2.2.1) k2 rfl ?_
  intro p e s mt args below meth c s₁ B hml hv
  obtain ⟨rfl, hsz, hP, hK, hD0, hXx⟩ := hv
  subst hsz
  have hts := atoms_spec (ws := Cond.code (am_M m).1 (am_M m).2.1 (am_M m).2.2.1 (am_M m).2.2.2.1 :: am_ts) B.pre
  have hown : s.vm.findClass (am_cn (am_own m)) = some mt.cls := by
    have h0 : s.vm.findClass (am_M m).1.cls = some mt.cls := findClass_of_methodNamed B.named
    rw [k1] at h0
    exact h0
  have hnm : meth.name = (am_M m).1.name := (name_of_methodNamed B.named B.method).1
  have hC : am_C p s mt ((as.map (am_av ad)).toArray) meth c m := ⟨B.exec, B.bytes, hml, hown, fun w hw => hts w (List.mem_cons_of_mem _ hw), hnm, B.returns, B.notSynchronized⟩
  have hlocks := B.notSynchronized
  have hRp : am_Rp D cy ad (va_A (am_ws cy ad h) s.heap.size) s h s.heap [] := ⟨hK, hP, hD0.self, va_S.rf, fun q hq => Or.inr hq, hG, hXx⟩
  rw [lg_entry_eq]
  refine ih _ _ _ _ _ _ _ hx p e _ s mt _ below meth c _ D cy (va_A (am_ws cy ad h) s.heap.size) h.2.2.2.1 h.2.2.2.2.1 ad s.heap [] 0 0 _ ⟨hC, k9, hRp, ⟨Nat.le_refl _, Nat.le_refl _⟩, ⟨Nat.zero_add _, Nat.zero_add _⟩, ⟨?_, ?_⟩, ⟨?_, fun z => absurd z hm⟩⟩ (am_ent_lr hle hs) (fun v hv => by cases hv)
  · show r.2.2.2.2.1 ≤ (r.2.2.2.2.1 - h.2.2.2.1) + h.2.2.2.1
    have := gr.1
    omega
  · show r.2.2.2.2.2.1 ≤ (r.2.2.2.2.2.1 - h.2.2.2.2.1) + h.2.2.2.2.1
    have := gr.2.1
    omega
  · intro pc9 ad9 H9 locs9 ls9 cells9 slots9 g1 g2 g3 g4 g5 g6
    have e1 : cells9 = r.2.2.2.2.1 - h.2.2.2.1 := by omega
    have e2 : slots9 = r.2.2.2.2.2.1 - h.2.2.2.2.1 := by omega
    rw [e1, e2]
    obtain ⟨f1, f2, f3, f4, f5, f6, f7⟩ := g2
    obtain ⟨rv, rh⟩ := r
    match rv, g5, g6 with
    | none, g5, g6 => exact W.vret B.exec B.bytes (B.returns.trans g6.2) (fun t ht hW => ⟨⟨ad9, g1, rfl, by rw [ht]; exact f2, f3, f6, g5, f7⟩, f4.F ht⟩) f4.2.2 g6.1 hlocks
    | some (.inl z), g5, g6 =>
      obtain ⟨g7, ty, g8, g9⟩ := g6
      exact W.zret B.exec B.bytes (B.returns.trans g8) g9 (fun t ht hW => ⟨⟨ad9, g1, rfl, by rw [ht]; exact f2, f3, f6, g5, f7⟩, f4.F ht⟩) f4.2.2 g7 hlocks
    | some (.inr (.inl z)), g5, g6 => exact W.lret B.exec B.bytes (B.returns.trans g6.2) (fun t ht hW => ⟨⟨ad9, g1, rfl, by rw [ht]; exact f2, f3, f6, g5, f7⟩, f4.F ht⟩) f4.2.2 g6.1 hlocks
