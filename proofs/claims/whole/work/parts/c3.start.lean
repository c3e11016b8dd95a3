/-! THE LAW'S START: what the Statement gives -/
def am_SA : List Int32 := [1, 9, 100, 0]
def am_SM : List Int32 := [99, 99, 100, 99999]
def am_tms (i : Nat) : Term := if i = 0 then .string "SecondTelling$Tokens" 19 else .string "SecondTellingModel" 194
theorem am_start {s : State} {b L : Nat} {xs : Nat → Int32} (hts : ∀ w ∈ lw_tbl, w.before #[Value.ref b] s = true) (hgv : (Jvm.Cond.and given_1 narrow_1).before #[Value.ref b] s = true) (hX : va_X b L xs s s.heap) (hbl : b < s.heap.size) (hL : L ≤ 3072) :
    ∃ (adx : Nat → Nat) (a1 a2 : Nat), va_Z "SecondTelling" "SETTING_AT_FIRST" "[I" (.ref (adx 1000001)) (fun q => s.heap.size ≤ q) s s.heap ∧ va_Z "SecondTelling" "SETTING_MOST" "[I" (.ref (adx 1000002)) (fun q => s.heap.size ≤ q) s s.heap
      ∧ va_T .int b L (fun j => .int (xs j)) (fun q => s.heap.size ≤ q) s s.heap ∧ va_T .int (adx 1000001) 4 (fun j => .int (am_SA.getD j 0)) (fun q => s.heap.size ≤ q) s s.heap ∧ va_T .int (adx 1000002) 4 (fun j => .int (am_SM.getD j 0)) (fun q => s.heap.size ≤ q) s s.heap
      ∧ va_Nw (.fieldLinkNest "SecondTelling$Story" 48 "SecondTelling" "SETTING_AT_FIRST" "[I" "SecondTelling") s ∧ va_Nw (.fieldLinkNest "SecondTelling$Reader" 159 "SecondTelling" "SETTING_MOST" "[I" "SecondTelling") s
      ∧ am_Y adx (fun q => s.heap.size ≤ q) s s.heap ∧ vy_E (fun q => s.heap.size ≤ q) a1 a2 s s.heap := by
  have hs := flat_of_before _ hgv
  have hA : ∀ a : Nat, a < s.heap.size → ¬ (fun q : Nat => s.heap.size ≤ q) a := fun a ha => Nat.not_le.mpr ha
  obtain ⟨t1, e1, T1⟩ := va_Tof (args := #[Value.ref b]) (s := s) (tm := .static "SecondTelling" "SETTING_AT_FIRST" "[I") (ty := .int) (N := 4) (f := fun j => .int (am_SA.getD j 0)) (A := fun q => s.heap.size ≤ q) (by decide) (hs _ (by decide +kernel)) (va_eqt (hs _ (by decide +kernel))) (fun j hj => va_eqt (z := am_SA.getD j 0) (by
    rcases (show j = 0 ∨ j = 1 ∨ j = 2 ∨ j = 3 by omega) with rfl | rfl | rfl | rfl
    · exact hs _ (by decide +kernel)
    · exact hs _ (by decide +kernel)
    · exact hs _ (by decide +kernel)
    · exact hs _ (by decide +kernel))) hA
  obtain ⟨t2, e2, T2⟩ := va_Tof (args := #[Value.ref b]) (s := s) (tm := .static "SecondTelling" "SETTING_MOST" "[I") (ty := .int) (N := 4) (f := fun j => .int (am_SM.getD j 0)) (A := fun q => s.heap.size ≤ q) (by decide) (hs _ (by decide +kernel)) (va_eqt (hs _ (by decide +kernel))) (fun j hj => va_eqt (z := am_SM.getD j 0) (by
    rcases (show j = 0 ∨ j = 1 ∨ j = 2 ∨ j = 3 by omega) with rfl | rfl | rfl | rfl
    · exact hs _ (by decide +kernel)
    · exact hs _ (by decide +kernel)
    · exact hs _ (by decide +kernel)
    · exact hs _ (by decide +kernel))) hA
  obtain ⟨adK, adV, hSS, hSe⟩ := vk_Sof (args := #[Value.ref b]) (s := s) (N := 2) (tm := am_tms) (len := am_SL) (byt := am_SB) (A := fun q => s.heap.size ≤ q)
    (fun i hi => by rcases (show i = 0 ∨ i = 1 by omega) with rfl | rfl <;> decide)
    (fun i hi => by
      rcases (show i = 0 ∨ i = 1 by omega) with rfl | rfl
      · exact hs _ (by decide +kernel)
      · exact hs _ (by decide +kernel))
    (fun i hi => by
      rcases (show i = 0 ∨ i = 1 by omega) with rfl | rfl
      · exact hs _ (by decide +kernel)
      · exact hs _ (by decide +kernel))
    (fun i hi => by
      rcases (show i = 0 ∨ i = 1 by omega) with rfl | rfl
      · exact hs _ (by decide +kernel)
      · exact hs _ (by decide +kernel))
    (fun i hi => by
      rcases (show i = 0 ∨ i = 1 by omega) with rfl | rfl
      · exact hs _ (by decide +kernel)
      · exact hs _ (by decide +kernel))
    (fun i hi j hj => by
      rcases (show i = 0 ∨ i = 1 by omega) with rfl | rfl
      · exact hs _ (List.mem_of_getElem? (i := 53 + j) ((by decide +kernel : ∀ j : Nat, j < 110 → (flatC (Jvm.Cond.and given_1 narrow_1))[53 + j]? = some (Cond.eq (.elem (.field (am_tms 0) "java/lang/String" "value" "[B") (.int (Int32.ofNat j))) (.int ((am_SB.getD 0 []).getD j 0)))) j hj))
      · exact hs _ (List.mem_of_getElem? (i := 203 + j) ((by decide +kernel : ∀ j : Nat, j < 110 → (flatC (Jvm.Cond.and given_1 narrow_1))[203 + j]? = some (Cond.eq (.elem (.field (am_tms 1) "java/lang/String" "value" "[B") (.int (Int32.ofNat j))) (.int ((am_SB.getD 1 []).getD j 0)))) j hj)))
    (fun i j hi hj hij => by
      rcases (show (i = 0 ∧ j = 1) ∨ (i = 1 ∧ j = 0) by omega) with ⟨rfl, rfl⟩ | ⟨rfl, rfl⟩
      · exact Or.inl (hs _ (by decide +kernel))
      · exact Or.inr (hs _ (by decide +kernel))) hA
  obtain ⟨s1, _, _, _, q1, -⟩ := Cond.exactly_spec (args := #[Value.ref b]) (first := s) (o := none) (s := s) (idx := []) (t := .string "SecondTelling" 140) (cls := "java/lang/String") (hs _ (by decide +kernel))
  obtain ⟨s2, _, _, _, q2, -⟩ := Cond.exactly_spec (args := #[Value.ref b]) (first := s) (o := none) (s := s) (idx := []) (t := .string "SecondTelling" 163) (cls := "java/lang/String") (hs _ (by decide +kernel))
  have hlay : ∀ i, i < 2 → (fun q => if q = 1000001 then t1 else if q = 1000002 then t2 else if q < 1000005 then adK (q - 1000003) else adV (q - 1000005)) (1000003 + i) = adK i := by
    intro i hi
    show (if 1000003 + i = 1000001 then t1 else if 1000003 + i = 1000002 then t2 else if 1000003 + i < 1000005 then adK (1000003 + i - 1000003) else adV (1000003 + i - 1000005)) = adK i
    rw [if_neg (by omega), if_neg (by omega), if_pos (by omega), Nat.add_sub_cancel_left]
  have hlav : ∀ i, i < 2 → (fun q => if q = 1000001 then t1 else if q = 1000002 then t2 else if q < 1000005 then adK (q - 1000003) else adV (q - 1000005)) (1000005 + i) = adV i := by
    intro i hi
    show (if 1000005 + i = 1000001 then t1 else if 1000005 + i = 1000002 then t2 else if 1000005 + i < 1000005 then adK (1000005 + i - 1000003) else adV (1000005 + i - 1000005)) = adV i
    rw [if_neg (by omega), if_neg (by omega), if_neg (by omega), Nat.add_sub_cancel_left]
  refine ⟨fun q => if q = 1000001 then t1 else if q = 1000002 then t2 else if q < 1000005 then adK (q - 1000003) else adV (q - 1000005), s1, s2, ?_, ?_, ?_, ?_, ?_, ?_, ?_, ?_, ?_⟩
  · exact va_Zof (hts _ (am_in1 (List.mem_of_getElem? (i := 39) (by decide +kernel)))) (hts _ (am_in1 (List.mem_of_getElem? (i := 1) (by decide +kernel)))) e1 hA
  · exact va_Zof (hts _ (am_in3 (List.mem_of_getElem? (i := 149) (by decide +kernel)))) (hts _ (am_in1 (List.mem_of_getElem? (i := 1) (by decide +kernel)))) e2 hA
  · obtain ⟨scr, x1, x2, x3, x4, x5⟩ := hX
    exact ⟨scr, x1, x2, x3, by omega, by rw [x4], x5, hA b hbl⟩
  · exact T1
  · exact T2
  · exact va_Nw.of rfl (hts _ (am_in1 (List.mem_of_getElem? (i := 38) (by decide +kernel))))
  · exact va_Nw.of rfl (hts _ (am_in3 (List.mem_of_getElem? (i := 148) (by decide +kernel))))
  · refine ⟨?_, ?_, ⟨fun i hi => ?_, fun i j hi hj e9 => ?_⟩, ?_, ?_⟩
    · have := hlay 0 (by omega)
      rw [show (1000003 : Nat) = 1000003 + 0 from rfl]
      rw [this]
      exact vk_R.of (hts _ (am_in1 (List.mem_of_getElem? (i := 191) (by decide +kernel)))) (hSe 0 (by omega))
    · have := hlay 1 (by omega)
      rw [show (1000004 : Nat) = 1000003 + 1 from rfl]
      rw [this]
      exact vk_R.of (hts _ (am_in7 (List.mem_of_getElem? (i := 1) (by decide +kernel)))) (hSe 1 (by omega))
    · rw [hlay i hi, hlav i hi]
      exact hSS.1 i hi
    · rw [hlay i hi, hlay j hj] at e9
      exact hSS.2 i j hi hj e9
    · exact va_Zof (hts _ (am_in1 (List.mem_of_getElem? (i := 201) (by decide +kernel)))) (hts _ (am_in1 (List.mem_of_getElem? (i := 7) (by decide +kernel)))) (va_eqt (hs _ (by decide +kernel))) hA
    · exact va_Zqof (hts _ (am_in1 (List.mem_of_getElem? (i := 217) (by decide +kernel)))) (hts _ (am_in1 (List.mem_of_getElem? (i := 9) (by decide +kernel)))) (hs _ (by decide +kernel)) hA
  · exact ⟨vk_R.of (hts _ (am_in5 (List.mem_of_getElem? (i := 192) (by decide +kernel)))) q1, vk_R.of (hts _ (am_in5 (List.mem_of_getElem? (i := 227) (by decide +kernel)))) q2, vx_Zqof (hts _ (am_in5 (List.mem_of_getElem? (i := 179) (by decide +kernel)))) (hts _ (am_in1 (List.mem_of_getElem? (i := 17) (by decide +kernel)))) (hs _ (by decide +kernel)) hA, vx_Zqof (hts _ (am_in5 (List.mem_of_getElem? (i := 181) (by decide +kernel)))) (hts _ (am_in1 (List.mem_of_getElem? (i := 17) (by decide +kernel)))) (hs _ (by decide +kernel)) hA, ⟨va_Nw.of rfl (hts _ (am_in5 (List.mem_of_getElem? (i := 156) (by decide +kernel)))), va_Nw.of rfl (hts _ (am_in5 (List.mem_of_getElem? (i := 158) (by decide +kernel)))), va_Nw.of rfl (hts _ (am_in5 (List.mem_of_getElem? (i := 160) (by decide +kernel))))⟩, va_Nw.of rfl (hts _ (am_in5 (List.mem_of_getElem? (i := 154) (by decide +kernel)))), va_Nw.of rfl (hts _ (am_in5 (List.mem_of_getElem? (i := 220) (by decide +kernel)))), va_Nc.of (hs _ (by decide +kernel))⟩
