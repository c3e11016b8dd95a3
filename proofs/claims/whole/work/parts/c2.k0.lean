/-! THE LAW'S START: the classes' numbers, what the Statement gives -/
theorem am_inst : ∀ ci, ci < 11 → Cond.instantiable (am_Tf ci).1 (am_Tf ci).2.2 ∈ am_ts := by
  intro ci hci
  match ci, hci with
  | 0, _ => exact am_ts_of (am_in2 (List.mem_of_getElem? (i := 150) (by decide +kernel))) (by decide +kernel)
  | 1, _ => exact am_ts_of (am_in2 (List.mem_of_getElem? (i := 192) (by decide +kernel))) (by decide +kernel)
  | 2, _ => exact am_ts_of (am_in2 (List.mem_of_getElem? (i := 28) (by decide +kernel))) (by decide +kernel)
  | 3, _ => exact am_ts_of (am_in1 (List.mem_of_getElem? (i := 41) (by decide +kernel))) (by decide +kernel)
  | 4, _ => exact am_ts_of (am_in1 (List.mem_of_getElem? (i := 180) (by decide +kernel))) (by decide +kernel)
  | 5, _ => exact am_ts_of (am_in2 (List.mem_of_getElem? (i := 230) (by decide +kernel))) (by decide +kernel)
  | 6, _ => exact am_ts_of (am_in1 (List.mem_of_getElem? (i := 33) (by decide +kernel))) (by decide +kernel)
  | 7, _ => exact am_ts_of (am_in1 (List.mem_of_getElem? (i := 186) (by decide +kernel))) (by decide +kernel)
  | 8, _ => exact am_ts_of (am_in2 (List.mem_of_getElem? (i := 77) (by decide +kernel))) (by decide +kernel)
  | 9, _ => exact am_ts_of (am_in1 (List.mem_of_getElem? (i := 25) (by decide +kernel))) (by decide +kernel)
  | 10, _ => exact am_ts_of (am_in5 (List.mem_of_getElem? (i := 235) (by decide +kernel))) (by decide +kernel)
  | j + 11, h => exact absurd h (by omega)
theorem am_vwlen : vwCl.length = 11 := rfl
theorem am_arr0 {s : State} {args : Array Value} {ty : FieldType} (hn : ∀ C, ty ≠ .object C) (h : (Cond.arrayClass ty).before args s = true) : ∃ cA, ArrOfT s cA ty ∧ va_RA s cA ty := by
  obtain ⟨cA, k, comp, h1, h2, h3⟩ := Cond.arrayClass_spec (args := args) (first := s) (o := none) (s := s) (idx := []) h
  refine ⟨cA, fun n z => ⟨fun k h => (by cases h), k, h2, comp, h3⟩, ?_⟩
  cases ty with
  | object C => exact absurd rfl (hn C)
  | _ => exact h1
theorem am_K0 {s : State} {args : Array Value} (hts : ∀ w ∈ am_ts, w.before args s = true) : ∃ (D : va_G) (cy : Nat → ClassId), va_K D vwCl (am_tys cy) s := by
  have h : ∀ ci, ∃ q : ClassId × (Nat → Nat), ci < 11 → u_Kn s (am_Tf ci).1 (am_Tf ci).2.1 (am_Tf ci).2.2 q.1 q.2 := by
    intro ci
    by_cases hci : ci < 11
    · obtain ⟨c, i, hk⟩ := u_known hts (am_uin ci hci) (hts _ (am_inst ci hci))
      exact ⟨(c, i), fun _ => hk⟩
    · exact ⟨(0, fun _ => 0), fun z => absurd z hci⟩
  obtain ⟨f, hf⟩ := Classical.axiomOfChoice h
  obtain ⟨c20, g20⟩ := am_arr0 (by intro C z; cases z) (hts _ am_arc_int)
  obtain ⟨c21, g21⟩ := am_arr0 (by intro C z; cases z) (hts _ am_arc_byte)
  obtain ⟨c22, g22⟩ := am_arr0 (by intro C z; cases z) (hts _ am_arc_boolean)
  obtain ⟨c23, g23⟩ := am_arr0 (by intro C z; cases z) (hts _ am_arc_long)
  refine ⟨(fun c => (f c).1, fun c => (f c).2), fun k => if k = 20 then c20 else if k = 21 then c21 else if k = 22 then c22 else c23, fun c q hq => ?_, fun k q hk => ?_⟩
  · have hc : c < 11 := by
      have := (List.getElem?_eq_some_iff.mp hq).1
      rw [am_vwlen] at this
      exact this
    have hq2 : am_Tf c = q := by
      unfold am_Tf
      rw [List.getD_eq_getElem?_getD, hq]
      rfl
    have := hf c hc
    rw [hq2] at this
    exact this
  · unfold am_tys at hk
    match k, hk with
    | 0, hk => cases hk; exact g20
    | 1, hk => cases hk; exact g21
    | 2, hk => cases hk; exact g22
    | 3, hk => cases hk; exact g23
    | j + 4, hk => cases hk
theorem va_T_ext {ty : FieldType} {t N : Nat} {f g : Nat → Value} {A : Nat → Prop} {U : State} {H : Heap} (h : va_T ty t N f A U H) (hfg : ∀ j, j < N → f j = g j) : va_T ty t N g A U H := by
  obtain ⟨cell, h1, h2, h3, h4, h5, h6, h7⟩ := h
  exact ⟨cell, h1, h2, h3, h4, h5, fun j hj => by rw [← hfg j hj]; exact h6 j hj, h7⟩
/-- what an exception's throw asks, beside the tables -/
def vy_E (A : Nat → Prop) (a1 a2 : Nat) (U : State) (H : Heap) : Prop :=
  vk_R "SecondTelling" 140 "no such thing" a1 U ∧ vk_R "SecondTelling" 163 "no such what" a2 U ∧ vx_Zq Bundle.tN "UNASSIGNED_STACK" Bundle.steD A U H ∧ vx_Zq Bundle.tN "SUPPRESSED_SENTINEL" Bundle.listD A U H
  ∧ (va_Nw (.declares (Bundle.initS "java/lang/RuntimeException")) U ∧ va_Nw (.declares (Bundle.initS "java/lang/Exception")) U ∧ va_Nw (.declares (Bundle.initS Bundle.tN)) U)
  ∧ va_Nw (.castable "java/lang/IndexOutOfBoundsException" "java/lang/IndexOutOfBoundsException") U ∧ va_Nw (.castable "java/util/NoSuchElementException" "java/util/NoSuchElementException") U ∧ va_Nc "java/util/NoSuchElementException" "java/lang/IndexOutOfBoundsException" U
theorem va_Nc_moved {C T : String} {s U : State} (hW : s.WarmedH U.vm) (h : va_Nc C T s) : va_Nc C T U := va_Nc.moved hW.alike h
theorem vy_E_move {A B : Nat → Prop} {a1 a2 : Nat} {s U : State} {H : Heap} (h : vy_E A a1 a2 s s.heap) (hW : s.WarmedH U.vm) (hk : ∀ a : Nat, a < s.heap.size → ¬ A a → H[a]? = s.heap[a]?) (hB : ∀ q, B q → A q) : vy_E B a1 a2 U H := by
  obtain ⟨e1, e2, e3, e4, ⟨e5, e6, e7⟩, e8, e9, e10⟩ := h
  exact ⟨e1.warm hW, e2.warm hW, ((e3.kept hk).narrow hB).moved hW.alike, ((e4.kept hk).narrow hB).moved hW.alike, ⟨e5.warmD hW, e6.warmD hW, e7.warmD hW⟩, e8.warmC hW, e9.warmC hW, va_Nc_moved hW e10⟩
