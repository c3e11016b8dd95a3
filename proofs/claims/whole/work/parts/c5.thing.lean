/-! THE CLASS'S thing, ITS THROWS; the law's own method thing -/
theorem SH_len : (SH : List (Nat × Nat)).length = 142 := by decide +kernel
section CTH
variable {l : Launch} {D : va_G} {cy : Nat → ClassId} {ad : Nat → Nat} {sz a1 a2 : Nat} {ρ : Nat → Nat → Nat} {μ : Nat → Nat → Int} {cs : Nat × Nat × Nat} {b w u : Nat} {S : MS} {W0 : MW}
def th_P (D : va_G) (cy : Nat → ClassId) (ad : Nat → Nat) (h : am_H) (sz a1 a2 : Nat) : State → Prop := fun U => am_Pq D cy ad h sz U ∧ vy_E (va_A (am_ws cy ad h) sz) a1 a2 U U.heap
abbrev th_X (D : va_G) (cy : Nat → ClassId) (ad : Nat → Nat) (h : am_H) (sz : Nat) (v : Int) : String → State → State → Prop := vx_X (S := Unit) (fun _ => True) (fun E _ U => ((v = 1 ∧ E = "java/lang/IndexOutOfBoundsException") ∨ (v = 2 ∧ E = "java/util/NoSuchElementException")) ∧ va_P D vwCl (am_ws cy ad h) U.heap) (va_A (am_ws cy ad h) sz)
abbrev th_Q (D : va_G) (cy : Nat → ClassId) (ad : Nat → Nat) (h : am_H) (sz : Nat) (v z : Int) : Array Value → State → Outcome → State → Prop := va_Qi (S := Unit) (fun r _ => v = 0 ∧ r = Int32.ofInt z ∧ am_R32 z) (fun _ U => va_P D vwCl (am_ws cy ad h) U.heap) (va_A (am_ws cy ad h) sz)
theorem th_blind {h : am_H} {av : List Value} : FrameBlind (va_Pc av (th_P D cy ad h sz a1 a2)) := by
  intro a U g mk hq
  obtain ⟨q0, q1, q2⟩ := hq
  obtain ⟨-, q1⟩ := am_blind (D := D) (cy := cy) (ad := ad) (h := h) (sz := sz) (av := av) a U g mk ⟨q0, q1⟩
  refine ⟨q0, q1, ?_⟩
  obtain ⟨e1, e2, e3, e4, ⟨e5, e6, e7⟩, e8, e9, e10⟩ := q2
  exact ⟨vk_R.same rfl e1, vk_R.same rfl e2, vx_Zq.moved (u := U) (U := U.calling g mk a) (Vm.Alike.refl U.vm) e3, vx_Zq.moved (u := U) (U := U.calling g mk a) (Vm.Alike.refl U.vm) e4, ⟨e5.same rfl rfl, e6.same rfl rfl, e7.same rfl rfl⟩, e8.same rfl rfl, e9.same rfl rfl, va_Nc.moved (u := U) (U := U.calling g mk a) (Vm.Alike.refl U.vm) e10⟩
theorem th_io : ∀ w ∈ (vx_atS "SecondTelling" 142 "java/lang/IndexOutOfBoundsException" ["java/lang/RuntimeException", "java/lang/Exception"]).filter goodWord, w ∈ lw_tbl := by decide +kernel
theorem th_no : ∀ w ∈ ((vy_own "SecondTelling" 165 "java/util/NoSuchElementException" 13 prog_28_method_4_code ["java/lang/RuntimeException", "java/lang/Exception"]).filter vx_no).filter goodWord, w ∈ lw_tbl := by decide +kernel
theorem th_ioB : ∀ w ∈ (vx_atS "SecondTelling" 142 "java/lang/IndexOutOfBoundsException" ["java/lang/RuntimeException", "java/lang/Exception"]).filter (fun w => !goodWord w), w ∈ [Cond.declares (Bundle.initS "java/lang/RuntimeException"), Cond.declares (Bundle.initS "java/lang/Exception"), Cond.declares (Bundle.initS Bundle.tN), Cond.castable "java/lang/IndexOutOfBoundsException" "java/lang/IndexOutOfBoundsException"] := by decide +kernel
theorem th_noB : ∀ w ∈ ((vy_own "SecondTelling" 165 "java/util/NoSuchElementException" 13 prog_28_method_4_code ["java/lang/RuntimeException", "java/lang/Exception"]).filter vx_no).filter (fun w => !goodWord w), w ∈ [Cond.declares (Bundle.initS "java/lang/RuntimeException"), Cond.declares (Bundle.initS "java/lang/Exception"), Cond.declares (Bundle.initS Bundle.tN), Cond.castable "java/util/NoSuchElementException" "java/util/NoSuchElementException"] := by decide +kernel
theorem th_ioG : ∀ w ∈ Cond.classLink "SecondTelling" 138 "java/lang/IndexOutOfBoundsException" :: Cond.initialized "java/lang/IndexOutOfBoundsException" :: vx_atS "SecondTelling" 142 "java/lang/IndexOutOfBoundsException" ["java/lang/RuntimeException", "java/lang/Exception"], vx_ot w = true := by decide +kernel
theorem th_noG : ∀ w ∈ Cond.classLink "SecondTelling" 161 "java/util/NoSuchElementException" :: Cond.initialized "java/util/NoSuchElementException" :: ((vy_own "SecondTelling" 165 "java/util/NoSuchElementException" 13 prog_28_method_4_code ["java/lang/RuntimeException", "java/lang/Exception"]).filter vx_no), vx_ot w = true := by decide +kernel
theorem th_w1 : Cond.classLink "SecondTelling" 138 "java/lang/IndexOutOfBoundsException" ∈ am_ts := am_ts_of (am_in5 (List.mem_of_getElem? (i := 152) (by decide +kernel))) (by decide +kernel)
theorem th_w2 : Cond.initialized "java/lang/IndexOutOfBoundsException" ∈ am_ts := am_ts_of (am_in1 (List.mem_of_getElem? (i := 20) (by decide +kernel))) (by decide +kernel)
theorem th_w3 : Cond.classLink "SecondTelling" 161 "java/util/NoSuchElementException" ∈ am_ts := am_ts_of (am_in5 (List.mem_of_getElem? (i := 218) (by decide +kernel))) (by decide +kernel)
theorem th_w4 : Cond.initialized "java/util/NoSuchElementException" ∈ am_ts := am_ts_of (am_in1 (List.mem_of_getElem? (i := 21) (by decide +kernel))) (by decide +kernel)
theorem th_mok : am_mok 2 2 (am_M 90) := am_v90
theorem X_thing90 (hl : l.stackTraces = false) (hR : RAx ρ μ b w u S W0) (hG : am_G (SH, ρ, μ, cs)) {t k : Int} (ht : am_R32 t) (hk : am_R32 k) : vx_Met l (am_M 90).1 (Cond.code (am_M 90).1 (am_M 90).2.1 (am_M 90).2.2.1 (am_M 90).2.2.2.1 :: am_ts) { frames := 100, cells := 1, slots := 6, locals := 4000 } (va_Pc (([.inr (.inr 0), .inl t, .inl k] : List am_V).map (am_av ad)) (th_P D cy ad (SH, ρ, μ, cs) sz a1 a2)) (th_Q D cy ad (SH, ρ, μ, cs) sz (thc S t k) (thgA S W0 t k)) (th_X D cy ad (SH, ρ, μ, cs) sz (thc S t k)) 1 6 (va_A (am_ws cy ad (SH, ρ, μ, cs)) sz) := by
  obtain ⟨k1, k2, k3, k4, k5, k6, k7, k8, k9⟩ := th_mok
  refine vx_ofW (cc := (am_M 90).2.1) (maxL := (am_M 90).2.2.1) (ret := (am_M 90).2.2.2.1) k2 rfl ?_
  intro p e s mt args below meth c s₁ B hml hout hv
  obtain ⟨rfl, ⟨hsz, hP, hK, hD0, hXx⟩, hE⟩ := hv
  subst hsz
  have hts0 := atoms_spec (ws := Cond.code (am_M 90).1 (am_M 90).2.1 (am_M 90).2.2.1 (am_M 90).2.2.2.1 :: am_ts) B.pre
  have hts : ∀ w ∈ am_ts, w.before _ s = true := fun w hw => hts0 w (List.mem_cons_of_mem _ hw)
  have hown : s.vm.findClass (am_cn (am_own 90)) = some mt.cls := findClass_of_methodNamed B.named
  have hnm : meth.name = (am_M 90).1.name := (name_of_methodNamed B.named B.method).1
  have hC : am_C p s mt _ meth c 90 := ⟨B.exec, B.bytes, hml, hown, hts, hnm, B.returns, B.notSynchronized⟩
  have hlocks := B.notSynchronized
  have hRp : am_Rp D cy ad (va_A (am_ws cy ad (SH, ρ, μ, cs)) s.heap.size) s (SH, ρ, μ, cs) s.heap [] := ⟨hK, hP, hD0.self, va_S.rf, fun q hq => Or.inr hq, hG, hXx⟩
  have hso : am_so (SH : List (Nat × Nat)).length ([.inr (.inr 0), .inl t, .inl k] : List am_V) := by
    intro v hv
    rcases List.mem_cons.mp hv with rfl | hv
    · exact Or.inl (by rw [SH_len]; decide)
    · rcases List.mem_cons.mp hv with rfl | hv
      · exact ht
      · rw [List.mem_singleton.mp hv]
        exact hk
  rw [lg_entry_eq]
  have hl0 := am_ent_lr (ad := ad) (m := 90) (nn := (SH : List (Nat × Nat)).length) (as := [.inr (.inr 0), .inl t, .inl k]) (Nat.le_of_ble_eq_true rfl) hso
  generalize (lg_sl (([.inr (.inr 0), .inl t, .inl k] : List am_V).map (am_av ad)) ++ List.replicate ((am_M 90).2.2.1 - (lg_sl (([.inr (.inr 0), .inl t, .inl k] : List am_V).map (am_av ad))).length) Slot.unset).toArray = ls at hl0 ⊢
  by_cases cT : 0 ≤ t ∧ t < S 0 1
  · by_cases cK : 0 ≤ k ∧ k ≤ 4
    · have ec : thc S t k = 0 := by unfold thc; rw [if_pos cT, if_pos cK]
      obtain ⟨n, hn⟩ := am_E_iff.mp (X_thing3 (d := 90) (cs := cs) hR.1 cT cK)
      refine vx_ret ?_
      refine am_sound l n _ 90 0 _ [] (SH, ρ, μ, cs) _ hn p e _ s mt _ below meth c _ D cy (va_A (am_ws cy ad (SH, ρ, μ, cs)) s.heap.size) cs.1 cs.2.1 ad s.heap [] 0 0 ls ⟨hC, k9, hRp, ⟨by show 90 + 3 ≤ 100; omega, by show 40 * (90 + 3) ≤ 4000; omega⟩, ⟨Nat.zero_add _, Nat.zero_add _⟩, ⟨by show cs.1 ≤ 1 + cs.1; omega, by show cs.2.1 ≤ 6 + cs.2.1; omega⟩, ⟨?_, fun z => absurd z (by decide)⟩⟩ hl0 (fun v hv => by cases hv)
      intro pc9 ad9 H9 locs9 ls9 cells9 slots9 g1 g2 g3 g4 g5 g6
      obtain ⟨f1, f2, f3, f4, f5, f6, f7⟩ := am_Rp_ad g2 g1
      obtain ⟨g7, ty, g8, g9⟩ := g6
      refine W.widen (k := 1) (n := 6) (by have g3 : cells9 + cs.1 = cs.1 := g3; omega) (by have g4 : slots9 + cs.2.1 = cs.2.1 := g4; omega) ?_
      exact W.zret B.exec B.bytes (B.returns.trans g8) g9 (fun t9 ht9 hW9 => ⟨⟨_, (), rfl, ⟨ec, rfl, am_so_hd g5⟩, by show va_P D vwCl _ t9.heap; rw [ht9]; exact f2⟩, f4.F ht9⟩) f4.2.2 g7 hlocks
    · have ec : thc S t k = 2 := by unfold thc; rw [if_pos cT, if_neg cK]
      obtain ⟨hxm, hrm, hb2, hgs, -, -, -, -, hXS, -⟩ := hR.1
      have hn0 := X_isThing (d := 90) (cs := cs) hxm hb2 hgs hXS (p := t)
      rw [if_pos cT] at hn0
      obtain ⟨n, hn⟩ := am_E_iff.mp hn0
      refine lv_aload_n (i := 0) (x := ad 0) B.exec B.bytes (am_code_dec k9 (pc := 0) (i := .aload_n 0) (n := 1) rfl) rfl (hl0.at (i := 0) (v := .inr (.inr 0)) rfl) ?_
      refine lv_iload_n (i := 1) (x := Int32.ofInt t) B.exec B.bytes (am_code_dec k9 (pc := 1) (i := .iload_n 1) (n := 1) rfl) rfl (hl0.at (i := 1) (v := .inl t) rfl) ?_
      refine w_callV (m := 90) (m' := 135) (np := 1) (q := 0) (ar := [.inl t]) (rest := []) (am_code_dec k9 (pc := 2) (i := .invokevirtual 134) (n := 3) rfl) (show am_pool 90 134 = some (2, 135, 1, 0, 847) from rfl) hC hRp hl0.2.1.1 (show am_isk (am_ks SH cs.2.2 0) 9 = true from rfl) rfl (fun v hv => hso v (by
          rcases List.mem_cons.mp hv with rfl | hv
          · exact List.mem_cons_self
          · rw [List.mem_singleton.mp hv]
            exact List.mem_cons_of_mem _ List.mem_cons_self)) (Nat.le_of_ble_eq_true rfl) hn (Nat.zero_le _) (by show 90 + 1 ≤ 100; omega) (Nat.le_of_ble_eq_true rfl) (by show 0 + (cs.1 - cs.1) ≤ 1; omega) (by show 0 + (cs.2.1 - cs.2.1) ≤ 6; omega) (fun H1 locs1 ad' g1 g2 g3 => ?_)
      obtain ⟨f1, f2, f3, f4, f5, f6, f7⟩ := am_Rp_ad g2 g1
      refine W.widen (k := 0) (n := 0) (by show 0 + (cs.1 - cs.1) ≤ 0; omega) (by show 0 + (cs.2.1 - cs.2.1) ≤ 0; omega) ?_
      have hxx : ∀ (cls : String) (q1 : (thc S t k = 1 ∧ cls = "java/lang/IndexOutOfBoundsException") ∨ (thc S t k = 2 ∧ cls = "java/util/NoSuchElementException")) (t9 : State), s.vm.Alike t9.vm → H1.size ≤ t9.heap.size → (∀ q : Nat, q < H1.size → t9.heap[q]? = H1[q]?) → th_X D cy ad (SH, ρ, μ, cs) s.heap.size (thc S t k) cls s t9 := fun cls q1 t9 _ h1 h2 => ⟨(), trivial, ⟨q1, f2.kept (fun k x hx => h2 x.1 ((f2 k x hx).lt))⟩, ⟨Nat.le_trans f4.1 h1, fun q h3 h4 => (h2 q (Nat.lt_of_lt_of_le h3 f4.1)).trans (f4.2.1 q h3 h4)⟩⟩
      refine lv_if_ne (tgt := 18) (x := 1) B.exec B.bytes (am_code_dec k9 (pc := 5) (i := .ifCond .ne 13) (n := 3) rfl) rfl (fun _ => ?_) (fun q => absurd q (by decide))
      refine lv_iload_n (i := 2) (x := Int32.ofInt k) B.exec B.bytes (am_code_dec k9 (pc := 18) (i := .iload_n 2) (n := 1) rfl) rfl (hl0.at (i := 2) (v := .inl k) rfl) ?_
      refine lv_tableOut (tgt := 101) B.exec B.bytes (am_code_dec k9 (pc := 19) (i := .tableswitch 82 0 4 #[33, 43, 53, 63, 72]) (n := 33) rfl) (by rw [am_toI hk]; omega) rfl ?_
      exact vy_throwS (rx := prog_28_method_4_code) (ix := 13) (by decide +kernel) (by decide +kernel) (by decide +kernel) (by decide +kernel) B.exec B.bytes hl (own := "SecondTelling") (cls := "java/util/NoSuchElementException") (text := "no such what") (names := ["java/lang/RuntimeException", "java/lang/Exception"]) (ik := 161) (is := 163) (ic := 165) (sa := a2) (A := va_A (am_ws cy ad (SH, ρ, μ, cs)) s.heap.size) hown (by decide +kernel) (by decide +kernel) (hts _ th_w3) (hts _ th_w4) hE.2.1
        (vx_hat (fun w hw => hts w (am_ts_of (th_no w hw) (List.mem_filter.mp hw).2)) th_noB (vx_c (va_Nw.use rfl hE.2.2.2.2.1.1) (vx_c (va_Nw.use rfl hE.2.2.2.2.1.2.1) (vx_c (va_Nw.use rfl hE.2.2.2.2.1.2.2) (vx_c (va_Nw.use rfl hE.2.2.2.2.2.2.1) vx_n))))) th_noG hE.2.2.1 hE.2.2.2.1 f4 (hl0.2.1.1.trans hml.symm)
        (am_code_dec k9 (pc := 101) (i := .new 161) (n := 3) rfl) (am_code_dec k9 (pc := 104) (i := .dup) (n := 1) rfl) (am_code_dec k9 (pc := 105) (i := .ldc 163) (n := 2) rfl) (am_code_dec k9 (pc := 107) (i := .invokespecial 165) (n := 3) rfl) (am_code_dec k9 (pc := 110) (i := .athrow) (n := 1) rfl)
        (fun x hx => (hout x hx).elim) (by decide) (Nat.le_of_ble_eq_true rfl) (Nat.le_of_ble_eq_true rfl) (Nat.le_of_ble_eq_true rfl) hlocks (hxx _ (Or.inr ⟨ec, rfl⟩)) f4.2.2 (Nat.le_of_ble_eq_true rfl) (Nat.le_of_ble_eq_true rfl)
  · have ec : thc S t k = 1 := by unfold thc; rw [if_neg cT]
    obtain ⟨hxm, hrm, hb2, hgs, -, -, -, -, hXS, -⟩ := hR.1
    have hn0 := X_isThing (d := 90) (cs := cs) hxm hb2 hgs hXS (p := t)
    rw [if_neg cT] at hn0
    obtain ⟨n, hn⟩ := am_E_iff.mp hn0
    refine lv_aload_n (i := 0) (x := ad 0) B.exec B.bytes (am_code_dec k9 (pc := 0) (i := .aload_n 0) (n := 1) rfl) rfl (hl0.at (i := 0) (v := .inr (.inr 0)) rfl) ?_
    refine lv_iload_n (i := 1) (x := Int32.ofInt t) B.exec B.bytes (am_code_dec k9 (pc := 1) (i := .iload_n 1) (n := 1) rfl) rfl (hl0.at (i := 1) (v := .inl t) rfl) ?_
    refine w_callV (m := 90) (m' := 135) (np := 1) (q := 0) (ar := [.inl t]) (rest := []) (am_code_dec k9 (pc := 2) (i := .invokevirtual 134) (n := 3) rfl) (show am_pool 90 134 = some (2, 135, 1, 0, 847) from rfl) hC hRp hl0.2.1.1 (show am_isk (am_ks SH cs.2.2 0) 9 = true from rfl) rfl (fun v hv => hso v (by
        rcases List.mem_cons.mp hv with rfl | hv
        · exact List.mem_cons_self
        · rw [List.mem_singleton.mp hv]
          exact List.mem_cons_of_mem _ List.mem_cons_self)) (Nat.le_of_ble_eq_true rfl) hn (Nat.zero_le _) (by show 90 + 1 ≤ 100; omega) (Nat.le_of_ble_eq_true rfl) (by show 0 + (cs.1 - cs.1) ≤ 1; omega) (by show 0 + (cs.2.1 - cs.2.1) ≤ 6; omega) (fun H1 locs1 ad' g1 g2 g3 => ?_)
    obtain ⟨f1, f2, f3, f4, f5, f6, f7⟩ := am_Rp_ad g2 g1
    refine W.widen (k := 0) (n := 0) (by show 0 + (cs.1 - cs.1) ≤ 0; omega) (by show 0 + (cs.2.1 - cs.2.1) ≤ 0; omega) ?_
    have hxx : ∀ (cls : String) (q1 : (thc S t k = 1 ∧ cls = "java/lang/IndexOutOfBoundsException") ∨ (thc S t k = 2 ∧ cls = "java/util/NoSuchElementException")) (t9 : State), s.vm.Alike t9.vm → H1.size ≤ t9.heap.size → (∀ q : Nat, q < H1.size → t9.heap[q]? = H1[q]?) → th_X D cy ad (SH, ρ, μ, cs) s.heap.size (thc S t k) cls s t9 := fun cls q1 t9 _ h1 h2 => ⟨(), trivial, ⟨q1, f2.kept (fun k x hx => h2 x.1 ((f2 k x hx).lt))⟩, ⟨Nat.le_trans f4.1 h1, fun q h3 h4 => (h2 q (Nat.lt_of_lt_of_le h3 f4.1)).trans (f4.2.1 q h3 h4)⟩⟩
    refine lv_if_ne (tgt := 18) (x := 0) B.exec B.bytes (am_code_dec k9 (pc := 5) (i := .ifCond .ne 13) (n := 3) rfl) rfl (fun q => absurd rfl q) (fun _ => ?_)
    exact vx_throwS B.exec B.bytes hl (own := "SecondTelling") (cls := "java/lang/IndexOutOfBoundsException") (text := "no such thing") (names := ["java/lang/RuntimeException", "java/lang/Exception"]) (ik := 138) (is := 140) (ic := 142) (sa := a1) (A := va_A (am_ws cy ad (SH, ρ, μ, cs)) s.heap.size) hown (by decide +kernel) (by decide +kernel) (hts _ th_w1) (hts _ th_w2) hE.1
      (vx_hat (fun w hw => hts w (am_ts_of (th_io w hw) (List.mem_filter.mp hw).2)) th_ioB (vx_c (va_Nw.use rfl hE.2.2.2.2.1.1) (vx_c (va_Nw.use rfl hE.2.2.2.2.1.2.1) (vx_c (va_Nw.use rfl hE.2.2.2.2.1.2.2) (vx_c (va_Nw.use rfl hE.2.2.2.2.2.1) vx_n))))) th_ioG hE.2.2.1 hE.2.2.2.1 f4 (hl0.2.1.1.trans hml.symm)
      (am_code_dec k9 (pc := 8) (i := .new 138) (n := 3) rfl) (am_code_dec k9 (pc := 11) (i := .dup) (n := 1) rfl) (am_code_dec k9 (pc := 12) (i := .ldc 140) (n := 2) rfl) (am_code_dec k9 (pc := 14) (i := .invokespecial 142) (n := 3) rfl) (am_code_dec k9 (pc := 17) (i := .athrow) (n := 1) rfl)
      (fun x hx => (hout x hx).elim) (by decide) (Nat.le_of_ble_eq_true rfl) (Nat.le_of_ble_eq_true rfl) (Nat.le_of_ble_eq_true rfl) hlocks (hxx _ (Or.inl ⟨ec, rfl⟩)) f4.2.2 (Nat.le_of_ble_eq_true rfl) (Nat.le_of_ble_eq_true rfl)
end CTH
