/-! THE ABSTRACT MACHINE'S RUNS ARE THE REAL ONE'S: lemmas of the heap -/
theorem am_kl_ext {h h' : am_H} (hL : h'.2.2.2.2.2 = h.2.2.2.2.2) {p : Nat} (hp : 1000000 ≤ p) : am_kl h' p = am_kl h p := by
  have hb : Nat.blt p 1000000 = false := by
    cases hh : Nat.blt p 1000000 with
    | false => rfl
    | true => have := Nat.blt_eq.mp hh; omega
  unfold am_kl am_ks
  rw [hb, hL]
  rfl
theorem am_Y_ad {ad ad' : Nat → Nat} {A : Nat → Prop} {s : State} {H : Heap} (hY : am_Y ad A s H) (ha : ∀ q, 999999 ≤ q → ad' q = ad q) : am_Y ad' A s H := by
  obtain ⟨y1, y2, y3, y4, y5⟩ := hY
  have e1 : (fun i => ad' (1000003 + i)) = fun i => ad (1000003 + i) := by
    funext i
    exact ha _ (by omega)
  have e2 : (fun i => ad' (1000005 + i)) = fun i => ad (1000005 + i) := by
    funext i
    exact ha _ (by omega)
  exact ⟨by rw [ha _ (by decide)]; exact y1, by rw [ha _ (by decide)]; exact y2, by rw [e1, e2]; exact y3, y4, y5⟩
theorem am_Y_move {ad ad' : Nat → Nat} {A B : Nat → Prop} {s U : State} {H : Heap} (hY : am_Y ad A s s.heap) (hW : s.WarmedH U.vm) (hk : ∀ a : Nat, a < s.heap.size → ¬ A a → H[a]? = s.heap[a]?) (hB : ∀ q, B q → A q) (ha : ∀ p, 999999 ≤ p → ad' p = ad p) : am_Y ad' B U H := by
  obtain ⟨y1, y2, y3, y4, y5⟩ := hY
  have e1 : (fun i => ad' (1000003 + i)) = fun i => ad (1000003 + i) := by
    funext i
    exact ha _ (by omega)
  have e2 : (fun i => ad' (1000005 + i)) = fun i => ad (1000005 + i) := by
    funext i
    exact ha _ (by omega)
  refine ⟨?_, ?_, ?_, ((y4.kept hk).narrow hB).moved hW.alike, ((y5.kept hk).narrow hB).moved hW.alike⟩
  · rw [ha _ (by decide)]
    exact y1.warm hW
  · rw [ha _ (by decide)]
    exact y2.warm hW
  · rw [e1, e2]
    exact ((y3.kept hk).narrow hB).moved hW.alike
theorem am_X_move {ad ad' : Nat → Nat} {A B : Nat → Prop} {s U : State} {H : Heap} {h h' : am_H} (hX : am_X ad A s s.heap h) (hW : s.WarmedH U.vm) (hk : ∀ a : Nat, a < s.heap.size → ¬ A a → H[a]? = s.heap[a]?) (hB : ∀ q, B q → A q) (ha : ∀ p, 999999 ≤ p → ad' p = ad p) (hm : ∀ p j, 1000000 ≤ p → h'.2.2.1 p j = h.2.2.1 p j) (hL : h'.2.2.2.2.2 = h.2.2.2.2.2) : am_X ad' B U H h' := by
  obtain ⟨z1, z2, tt, n1, n2, yy⟩ := hX
  refine ⟨?_, ?_, fun k hk3 => ?_, n1.warmF hW, n2.warmF hW, am_Y_move yy hW hk hB ha⟩
  · rw [ha _ (by decide)]
    exact ((z1.kept hk).narrow hB).moved hW.alike
  · rw [ha _ (by decide)]
    exact ((z2.kept hk).narrow hB).moved hW.alike
  · rw [ha _ (by omega), am_kl_ext hL (by omega)]
    have e : (fun j => Value.int (Int32.ofInt (h'.2.2.1 (1000000 + k) j))) = fun j => Value.int (Int32.ofInt (h.2.2.1 (1000000 + k) j)) := by
      funext j
      rw [hm _ _ (by omega)]
    rw [e]
    exact (((tt k hk3).kept hk).narrow hB).moved hW.alike
theorem am_Rp_put {D : va_G} {cy : Nat → ClassId} {ad : Nat → Nat} {A : Nat → Prop} {s : State} {h h' : am_H} {H H1 : Heap} {locs locs1 : List Loc} (hR : am_Rp D cy ad A s h H locs) {W' : va_W} (hw : am_ws cy ad h' = W') (hP : va_P D vwCl W' H1) (hD : va_D A W') (hS : va_S A s.heap H1 locs1) (hG : am_G h') (hm : ∀ p j, 1000000 ≤ p → h'.2.2.1 p j = h.2.2.1 p j) (hL : h'.2.2.2.2.2 = h.2.2.2.2.2) : am_Rp D cy ad A s h' H1 locs1 := by
  obtain ⟨hK, -, -, -, hA, -, hX⟩ := hR
  subst hw
  refine ⟨hK, hP, hD, hS, hA, hG, ?_⟩
  obtain ⟨z1, z2, tt, n1, n2⟩ := hX
  refine ⟨z1, z2, fun k hk3 => ?_, n1, n2⟩
  rw [am_kl_ext hL (by omega)]
  have e : (fun j => Value.int (Int32.ofInt (h'.2.2.1 (1000000 + k) j))) = fun j => Value.int (Int32.ofInt (h.2.2.1 (1000000 + k) j)) := by
    funext j
    rw [hm _ _ (by omega)]
  rw [e]
  exact tt k hk3
/-- the shape at a place, out of its kind -/
theorem am_kl_at {h : am_H} {p : Nat} (hG : am_G h) (hk : (am_kl h p).1 ≠ 99) (hk2 : (am_kl h p).1 ≠ 24) : h.1[p]? = some (am_kl h p) ∧ p < 999999 := by
  unfold am_kl am_ks at hk hk2 ⊢
  cases hb : Nat.blt p 1000000 with
  | true =>
    rw [hb] at hk hk2
    simp only [cond_true] at hk hk2 ⊢
    rw [List.getD_eq_getElem?_getD] at hk ⊢
    cases hp : h.1[p]? with
    | none => rw [hp] at hk; exact absurd rfl hk
    | some kl =>
      refine ⟨rfl, ?_⟩
      have := (List.getElem?_eq_some_iff.mp hp).1
      have := hG.1
      omega
  | false =>
    rw [hb] at hk hk2
    simp only [cond_false] at hk hk2
    cases hb2 : Nat.beq p 1000000 with
    | true => rw [hb2] at hk2; exact absurd rfl hk2
    | false =>
      rw [hb2] at hk hk2
      simp only [cond_false] at hk hk2
      cases hb3 : Nat.blt p 1000003 with
      | true => rw [hb3] at hk2; exact absurd rfl hk2
      | false => rw [hb3] at hk; exact absurd rfl hk
theorem am_kl_24 {h : am_H} {p : Nat} (hG : am_G h) (hk : (am_kl h p).1 = 24) : ∃ k, k < 3 ∧ p = 1000000 + k := by
  unfold am_kl am_ks at hk
  cases hb : Nat.blt p 1000000 with
  | true =>
    rw [hb] at hk
    simp only [cond_true] at hk
    rw [List.getD_eq_getElem?_getD] at hk
    cases hp : h.1[p]? with
    | none => rw [hp] at hk; cases hk
    | some kl =>
      rw [hp] at hk
      have hk : kl.1 = 24 := hk
      have h1 := (hG.2.1 p kl hp).2 (by omega)
      omega
  | false =>
    have h1 : ¬ p < 1000000 := fun q => by rw [Nat.blt_eq.mpr q] at hb; cases hb
    rw [hb] at hk
    simp only [cond_false] at hk
    cases hb2 : Nat.beq p 1000000 with
    | true => exact ⟨0, by decide, Nat.eq_of_beq_eq_true hb2⟩
    | false =>
      rw [hb2] at hk
      simp only [cond_false] at hk
      cases hb3 : Nat.blt p 1000003 with
      | true =>
        have := Nat.blt_eq.mp hb3
        exact ⟨p - 1000000, by omega, by omega⟩
      | false => rw [hb3] at hk; cases hk
theorem am_ce_obj {cy : Nat → ClassId} {ad : Nat → Nat} {h : am_H} {p : Nat} {kl : Nat × Nat} (hk : kl.1 < 20) : am_ce cy ad h p kl = .inr (kl.1, (List.range kl.2).map (fun k => am_av ad (am_fv (am_fty kl.1 k) h p k))) := by
  unfold am_ce
  rw [Nat.blt_eq.mpr hk]
  rfl
theorem am_blt_no {a b : Nat} (h : b ≤ a) : Nat.blt a b = false := by
  cases hh : Nat.blt a b with
  | false => rfl
  | true => have := Nat.blt_eq.mp hh; omega
theorem am_ce_long {cy : Nat → ClassId} {ad : Nat → Nat} {h : am_H} {p : Nat} {kl : Nat × Nat} (hk : kl.1 = 23) : am_ce cy ad h p kl = .inl (cy 23, kl.2, .inr (.inl (fun j => Int64.ofInt (h.2.2.1 p j)))) := by
  unfold am_ce
  rw [hk]
  rfl
theorem am_ce_int {cy : Nat → ClassId} {ad : Nat → Nat} {h : am_H} {p : Nat} {kl : Nat × Nat} (hk : 20 ≤ kl.1) (hk2 : kl.1 ≠ 23) : am_ce cy ad h p kl = .inl (cy kl.1, kl.2, .inl (fun j => Int32.ofInt (h.2.2.1 p j))) := by
  unfold am_ce
  rw [am_blt_no hk]
  cases hb : Nat.beq kl.1 23 with
  | true => exact absurd (Nat.eq_of_beq_eq_true hb) hk2
  | false => rfl
theorem am_ws_set {cy : Nat → ClassId} {ad : Nat → Nat} {h h' : am_H} {p : Nat} {kl : Nat × Nat} {E : va_E} (hs : h'.1 = h.1) (hk : h.1[p]? = some kl) (he : ∀ (q : Nat) (kl' : Nat × Nat), q ≠ p → h.1[q]? = some kl' → am_ce cy ad h' q kl' = am_ce cy ad h q kl') (hE : am_ce cy ad h' p kl = E) : am_ws cy ad h' = (am_ws cy ad h).set p (ad p, E) := by
  apply List.ext_getElem?
  intro q
  rw [am_ws_at, List.getElem?_set, hs]
  have hlen : (am_ws cy ad h).length = h.1.length := by unfold am_ws; rw [List.length_mapIdx]
  by_cases hq : p = q
  · subst hq
    rw [if_pos rfl, hlen, if_pos (List.getElem?_eq_some_iff.mp hk).1, hk, ← hE]
    rfl
  · rw [if_neg hq, am_ws_at]
    cases hh : h.1[q]? with
    | none => rfl
    | some kl' =>
      show some (ad q, am_ce cy ad h' q kl') = some (ad q, am_ce cy ad h q kl')
      rw [he q kl' (fun e => hq e.symm) hh]
theorem am_up_ne {α : Type} {f : Nat → Nat → α} {p k : Nat} {v : α} {q j : Nat} (h : q ≠ p) : am_up f p k v q j = f q j := if_neg (fun e => h e.1)
theorem am_fv_ne {t : Nat} {h h' : am_H} {q k : Nat} (h1 : h'.2.1 q k = h.2.1 q k) (h2 : h'.2.2.1 q k = h.2.2.1 q k) : am_fv t h' q k = am_fv t h q k := by
  unfold am_fv
  rw [h1, h2]
theorem am_ce_ne {cy : Nat → ClassId} {ad : Nat → Nat} {h h' : am_H} {q : Nat} {kl : Nat × Nat} (h1 : ∀ k, h'.2.1 q k = h.2.1 q k) (h2 : ∀ k, h'.2.2.1 q k = h.2.2.1 q k) : am_ce cy ad h' q kl = am_ce cy ad h q kl := by
  have e1 : (fun k => am_av ad (am_fv (am_fty kl.1 k) h' q k)) = fun k => am_av ad (am_fv (am_fty kl.1 k) h q k) := by
    funext k
    rw [am_fv_ne (h1 k) (h2 k)]
  have e2 : (fun j => Int64.ofInt (h'.2.2.1 q j)) = fun j => Int64.ofInt (h.2.2.1 q j) := by
    funext k
    rw [h2 k]
  have e3 : (fun j => Int32.ofInt (h'.2.2.1 q j)) = fun j => Int32.ofInt (h.2.2.1 q j) := by
    funext k
    rw [h2 k]
  unfold am_ce
  rw [e1, e2, e3]
/-- a write into a cell keeps the numbers in their bounds -/
theorem am_G_put {h h' : am_H} (hG : am_G h) {p k : Nat} (hs : h'.1 = h.1) (hp : p < 1000000) (h1 : ∀ q j, ¬ (q = p ∧ j = k) → h'.2.1 q j = h.2.1 q j) (h2 : ∀ q j, ¬ (q = p ∧ j = k) → h'.2.2.1 q j = h.2.2.1 q j) (ho : ∀ kl, h.1[p]? = some kl → kl.1 < 20 → k < kl.2 → am_okv h.1.length (am_fv (am_fty kl.1 k) h' p k)) (hl : ∀ kl, h.1[p]? = some kl → kl.1 = 23 → k < kl.2 → am_R64 (h'.2.2.1 p k)) (hi : ∀ kl, h.1[p]? = some kl → 20 ≤ kl.1 → kl.1 ≠ 23 → k < kl.2 → am_R32 (h'.2.2.1 p k)) : am_G h' := by
  obtain ⟨g0, g1, g2⟩ := hG
  refine ⟨by rw [hs]; exact g0, fun q kl hq => ?_, fun q j hq => ?_⟩
  · rw [hs] at hq ⊢
    obtain ⟨a1, a2⟩ := g1 q kl hq
    refine ⟨fun hk => ?_, fun hk => ?_⟩
    · obtain ⟨b1, b2, b3⟩ := a1 hk
      refine ⟨b1, b2, fun j hj => ?_⟩
      by_cases e : q = p ∧ j = k
      · obtain ⟨rfl, rfl⟩ := e
        exact ho kl hq hk hj
      · rw [am_fv_ne (h1 q j e) (h2 q j e)]
        exact b3 j hj
    · obtain ⟨b1, b2, b3⟩ := a2 hk
      refine ⟨b1, fun h23 j hj => ?_, fun h23 j hj => ?_⟩
      · by_cases e : q = p ∧ j = k
        · obtain ⟨rfl, rfl⟩ := e
          exact hl kl hq h23 hj
        · rw [h2 q j e]
          exact b2 h23 j hj
      · by_cases e : q = p ∧ j = k
        · obtain ⟨rfl, rfl⟩ := e
          exact hi kl hq hk h23 hj
        · rw [h2 q j e]
          exact b3 h23 j hj
  · rw [h2 q j (fun e => by omega)]
    exact g2 q j hq
theorem am_okv_len {h h' : am_H} (hs : h'.1 = h.1) {v : am_V} : am_okv h'.1.length v ↔ am_okv h.1.length v := by rw [hs]
/-- stores into locals -/
theorem am_getD_set {lv : am_L} {i j : Nat} {o : Option am_V} : (lv.set i o).getD j none = if i = j ∧ i < lv.length then o else lv.getD j none := by
  rw [List.getD_eq_getElem?_getD, List.getD_eq_getElem?_getD, List.getElem?_set]
  by_cases h : i = j
  · subst h
    by_cases h2 : i < lv.length
    · simp [h2]
    · simp [h2]
  · simp [h]
theorem am_set_len (lv : am_L) (i : Nat) (v : am_V) : (am_set lv i v).length = lv.length := by
  unfold am_set
  rw [List.length_set]
  split
  · rfl
  · split
    · rw [List.length_set]
    · rfl
theorem am_pre {lv L : am_L} {i : Nat} (hL : (match lv.getD i none with
    | some (.inr (.inl _)) => lv.set i none
    | _ => lv) = L) : L.length = lv.length ∧ ∀ (j : Nat) (w : am_V), L.getD j none = some w → lv.getD j none = some w ∧ ¬ (j = i ∧ am_cat w = 2) := by
  subst hL
  split
  · refine ⟨List.length_set, fun j w hw => ?_⟩
    rw [am_getD_set] at hw
    by_cases hc : i = j ∧ i < lv.length
    · rw [if_pos hc] at hw
      cases hw
    · rw [if_neg hc] at hw
      refine ⟨hw, fun e => ?_⟩
      obtain ⟨e1, -⟩ := e
      subst e1
      have hn : ¬ j < lv.length := fun q => hc ⟨rfl, q⟩
      rw [List.getD_eq_getElem?_getD, List.getElem?_eq_none (by omega)] at hw
      cases hw
  · rename_i hz
    refine ⟨rfl, fun j w hw => ⟨hw, fun e => ?_⟩⟩
    obtain ⟨e1, e2⟩ := e
    subst e1
    match w, e2, hw with
    | .inr (.inl z), _, hw => exact hz z hw
theorem am_set_get {lv : am_L} {i j : Nat} {v w : am_V} (h : (am_set lv i v).getD j none = some w) : (i = j ∧ w = v) ∨ (i ≠ j ∧ lv.getD j none = some w ∧ ¬ (j + 1 = i ∧ am_cat w = 2)) := by
  have last : ∀ (L : am_L) (k : Nat), (L.set k (some v)).getD j none = some w → (k = j ∧ w = v) ∨ (k ≠ j ∧ L.getD j none = some w) := by
    intro L k hw
    rw [am_getD_set] at hw
    by_cases hc : k = j ∧ k < L.length
    · rw [if_pos hc] at hw
      exact Or.inl ⟨hc.1, (Option.some.inj hw).symm⟩
    · rw [if_neg hc] at hw
      refine Or.inr ⟨fun e => ?_, hw⟩
      subst e
      have hn : ¬ k < L.length := fun q => hc ⟨rfl, q⟩
      rw [List.getD_eq_getElem?_getD, List.getElem?_eq_none (by omega)] at hw
      cases hw
  cases i with
  | zero =>
    rcases last lv 0 h with ⟨a, b⟩ | ⟨a, b⟩
    · exact Or.inl ⟨a, b⟩
    · exact Or.inr ⟨a, b, fun e => by omega⟩
  | succ i =>
    have h : ((match lv.getD i none with
      | some (.inr (.inl _)) => lv.set i none
      | _ => lv).set (i + 1) (some v)).getD j none = some w := h
    generalize hL : (match lv.getD i none with
      | some (.inr (.inl _)) => lv.set i none
      | _ => lv) = L at h
    obtain ⟨-, hL2⟩ := am_pre hL
    rcases last L (i + 1) h with ⟨a, b⟩ | ⟨a, b⟩
    · exact Or.inl ⟨a, b⟩
    · obtain ⟨c1, c2⟩ := hL2 j w b
      exact Or.inr ⟨a, c1, fun e => c2 ⟨by omega, e.2⟩⟩
theorem am_lr_store {ad : Nat → Nat} {n : Nat} {ls ls' : Array Slot} {nL : Nat} {lv : am_L} (h : am_lr ad n ls nL lv) {i : Nat} {v : am_V} (hv : am_okv n v) (hn : lv_has ls' nL ((i, am_av ad v) :: (am_al ad lv).filter (fun q => !(q.1 == i) && !(q.1 + 1 == i && q.2.category == 2)))) : am_lr ad n ls' nL (am_set lv i v) := by
  refine ⟨by rw [am_set_len]; exact h.1, ⟨hn.1, hn.2.1, fun q hq => ?_⟩, fun j w hw => ?_⟩
  · obtain ⟨w, hw, he⟩ := am_al_mem.mp hq
    rcases am_set_get hw with ⟨e1, e2⟩ | ⟨e1, e2, e3⟩
    · refine hn.2.2 q ?_
      rw [show q = (i, am_av ad v) from Prod.ext e1.symm (by rw [he, e2])]
      exact List.mem_cons_self
    · refine hn.2.2 q (List.mem_cons_of_mem _ (List.mem_filter.mpr ⟨am_al_mem.mpr ⟨w, e2, he⟩, ?_⟩))
      have a1 : (q.1 == i) = false := by simp; exact fun e => e1 e.symm
      have a2 : (q.1 + 1 == i && q.2.category == 2) = false := by
        rw [he, am_cat_av]
        cases hh : (q.1 + 1 == i && am_cat w == 2) with
        | false => rfl
        | true =>
          simp at hh
          exact absurd hh e3
      simp [a1, a2]
  · rcases am_set_get hw with ⟨-, e2⟩ | ⟨-, e2, -⟩
    · rw [e2]; exact hv
    · exact h.2.2 j w e2
theorem am_lr_store2 {ad : Nat → Nat} {n : Nat} {ls ls' : Array Slot} {nL : Nat} {lv : am_L} (h : am_lr ad n ls nL lv) {i : Nat} {v : am_V} (hv : am_okv n v) (hn : lv_has ls' nL ((i, am_av ad v) :: (am_al ad lv).filter (fun q => !(q.1 == i) && (!(q.1 == i + 1) && !(q.1 + 1 == i && q.2.category == 2))))) : am_lr ad n ls' nL (am_set2 lv i v) := by
  have hg : ∀ (j : Nat) (w : am_V), (am_set2 lv i v).getD j none = some w → j ≠ i + 1 ∧ (am_set lv i v).getD j none = some w := by
    intro j w hw
    unfold am_set2 at hw
    rw [am_getD_set] at hw
    split at hw
    · cases hw
    · rename_i hc
      refine ⟨fun e => ?_, hw⟩
      subst e
      have hl : ¬ i + 1 < (am_set lv i v).length := fun q => hc ⟨rfl, q⟩
      rw [List.getD_eq_getElem?_getD, List.getElem?_eq_none (by omega)] at hw
      cases hw
  refine ⟨by unfold am_set2; rw [List.length_set, am_set_len]; exact h.1, ⟨hn.1, hn.2.1, fun q hq => ?_⟩, fun j w hw => ?_⟩
  · obtain ⟨w, hw, he⟩ := am_al_mem.mp hq
    obtain ⟨e0, hw⟩ := hg _ _ hw
    rcases am_set_get hw with ⟨e1, e2⟩ | ⟨e1, e2, e3⟩
    · refine hn.2.2 q ?_
      rw [show q = (i, am_av ad v) from Prod.ext e1.symm (by rw [he, e2])]
      exact List.mem_cons_self
    · refine hn.2.2 q (List.mem_cons_of_mem _ (List.mem_filter.mpr ⟨am_al_mem.mpr ⟨w, e2, he⟩, ?_⟩))
      have a1 : (q.1 == i) = false := by simp; exact fun e => e1 e.symm
      have a0 : (q.1 == i + 1) = false := by simp; exact e0
      have a2 : (q.1 + 1 == i && q.2.category == 2) = false := by
        rw [he, am_cat_av]
        cases hh : (q.1 + 1 == i && am_cat w == 2) with
        | false => rfl
        | true =>
          simp at hh
          exact absurd hh e3
      simp [a1, a2, a0]
  · obtain ⟨-, hw⟩ := hg _ _ hw
    rcases am_set_get hw with ⟨-, e2⟩ | ⟨-, e2, -⟩
    · rw [e2]; exact hv
    · exact h.2.2 j w e2
