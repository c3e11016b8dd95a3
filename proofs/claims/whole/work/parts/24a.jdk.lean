/-! STRING CONSTANTS: the JDK's own length and charAt over the two of them -/
theorem sw_value : Cond.fieldLink "java/lang/String" 9 "java/lang/String" "value" "[B" ∈ am_ts := am_ts_of (am_in8 (List.mem_of_getElem? (i := 227) (by decide +kernel))) (by decide +kernel)
theorem sw_coder : Cond.fieldLink "java/lang/String" 15 "java/lang/String" "coder" "B" ∈ am_ts := am_ts_of (am_in8 (List.mem_of_getElem? (i := 228) (by decide +kernel))) (by decide +kernel)
theorem sw_comp : Cond.fieldLink "java/lang/String" 38 "java/lang/String" "COMPACT_STRINGS" "Z" ∈ am_ts := am_ts_of (am_in1 (List.mem_of_getElem? (i := 200) (by decide +kernel))) (by decide +kernel)
theorem sw_form : Cond.fieldLink "java/lang/String" 1053 "jdk/internal/util/Preconditions" "SIOOBE_FORMATTER" "Ljava/util/function/BiFunction;" ∈ am_ts := am_ts_of (am_in1 (List.mem_of_getElem? (i := 216) (by decide +kernel))) (by decide +kernel)
abbrev jw (m : Nat) : List Cond := Cond.code (am_M m).1 (am_M m).2.1 (am_M m).2.2.1 (am_M m).2.2.2.1 :: am_ts
def j_P (ad : Nat → Nat) : State → Prop := fun U => am_Y ad (fun _ => False) U U.heap
abbrev j_Q (z : Int32) : Array Value → State → Outcome → State → Prop := va_Qi (S := Unit) (fun r _ => r = z) (fun _ _ => True) (fun _ => False)
abbrev j_R (d : Nat) : Room := { frames := d, cells := 0, slots := 0, locals := 40 * d }
theorem j_blind {ad : Nat → Nat} {av : List Value} : FrameBlind (va_Pc av (j_P ad)) := by
  intro a U g mk hq
  obtain ⟨q0, y1, y2, y3, y4, y5⟩ := hq
  exact ⟨q0, vk_R.same rfl y1, vk_R.same rfl y2, y3.moved (U := U.calling g mk a) (Vm.Alike.refl U.vm), y4.moved (U := U.calling g mk a) (Vm.Alike.refl U.vm), y5.moved (U := U.calling g mk a) (Vm.Alike.refl U.vm)⟩
theorem j_at {ad : Nat → Nat} {A : Nat → Prop} {s U : State} {H : Heap} {locs : List Loc} (hY : am_Y ad A s s.heap) (hS : va_S A s.heap H locs) (hU : U.heap = H) (hW : s.WarmedH U.vm) : j_P ad U := am_Y_move hY hW (fun a h1 h2 => by rw [hU]; exact hS.2.1 a h1 h2) (fun q h => h.elim) (fun _ _ => rfl)
theorem j_gV {m idx m' np w : Nat} {z : Int} (hp : am_pool m idx = some (2, m', np, z, w)) : GoodIn am_ts (wsV (am_cn (am_own m)) idx (am_M m').1.cls (am_M m').1 (jw m')) ∧ am_mok 2 np (am_M m') := by
  obtain ⟨wl, hok⟩ : Cond.methodLink (am_cn (am_own m)) idx (am_M m').1 ∈ am_ts ∧ am_mok 2 np (am_M m') := am_pool_ok hp
  obtain ⟨k1, k2, k3, k4, k5, k6, k7, k8, k9⟩ := id hok
  refine ⟨?_, hok⟩
  intro x hx9
  unfold wsV at hx9
  rcases List.mem_append.mp hx9 with hx9 | hx9
  · rcases List.mem_cons.mp hx9 with e9 | hx9
    · rw [e9]; exact am_good wl
    · rcases List.mem_cons.mp hx9 with e9 | hx9
      · rw [e9]; exact am_good k8.1
      · rcases List.mem_cons.mp hx9 with e9 | hx9
        · rw [e9]; exact am_good k8.2
        · rw [List.mem_singleton.mp hx9]; exact am_good k4
  · exact am_goodc k3 x hx9
theorem j_gS {m idx m' np w : Nat} {z : Int} (hp : am_pool m idx = some (3, m', np, z, w)) : GoodIn am_ts (va_wsS (am_cn (am_own m)) idx (am_M m').1 (jw m')) ∧ am_mok 3 np (am_M m') := by
  obtain ⟨wl, hok⟩ : Cond.methodLink (am_cn (am_own m)) idx (am_M m').1 ∈ am_ts ∧ am_mok 3 np (am_M m') := am_pool_ok hp
  obtain ⟨k1, k2, k3, k4, k5, k6, k7, k8, k9⟩ := id hok
  refine ⟨?_, hok⟩
  intro x hx9
  unfold va_wsS at hx9
  rcases List.mem_append.mp hx9 with hx9 | hx9
  · rcases List.mem_cons.mp hx9 with e9 | hx9
    · rw [e9]; exact am_good wl
    · rcases List.mem_cons.mp hx9 with e9 | hx9
      · rw [e9]; exact am_good k8
      · rw [List.mem_singleton.mp hx9]; exact am_good k4
  · exact am_goodc k3 x hx9
section JDK
variable {l : Launch} {ad : Nat → Nat} {i : Nat}
theorem j_coder (hi : i < 2) : Met l (am_M 266).1 (jw 266) (j_R 0) (va_Pc [.ref (ad (1000003 + i))] (j_P ad)) (j_Q 0) 0 0 (fun _ => False) := by
  obtain ⟨k1, k2, k3, k4, k5, k6, k7, k8, k9⟩ := (show am_mok 2 0 (am_M 266) from am_v266)
  refine Met.ofW (cc := (am_M 266).2.1) (maxL := 1) (ret := (am_M 266).2.2.2.1) k2 rfl ?_
  intro p e s mt args below meth c s₁ B hml hv
  obtain ⟨rfl, hY⟩ := hv
  have hY : am_Y ad (fun _ => False) s s.heap := hY
  obtain ⟨y1, y2, y3, y4, y5⟩ := id hY
  have hts0 := atoms_spec (ws := jw 266) B.pre
  have hts : ∀ w ∈ am_ts, w.before _ s = true := fun w hw => hts0 w (List.mem_cons_of_mem _ hw)
  have hown : s.vm.findClass (am_cn (am_own 266)) = some mt.cls := findClass_of_methodNamed B.named
  have hlocks := B.notSynchronized
  have hb : c.code = (am_M 266).2.1 := B.bytes
  have hS : va_S (fun _ => False) s.heap s.heap [] := va_S.rf
  rw [lg_entry_eq]
  have hl := lv_entry [.ref (ad (1000003 + i))] (n := 1) (Nat.le_of_ble_eq_true rfl)
  generalize (lg_sl [.ref (ad (1000003 + i))] ++ List.replicate (1 - (lg_sl [.ref (ad (1000003 + i))]).length) Slot.unset).toArray = ls at hl ⊢
  have hl : lv_has ls 1 [(0, .ref (ad (1000003 + i)))] := hl
  refine va_gets B.exec hb y4 hS hown (hts _ sw_comp) (fun _ h9 => h9) (am_code_dec k9 (m := 266) (pc := 0) (i := .getstatic 38) (n := 3) rfl) ?_
  refine lv_if_eq (tgt := 13) B.exec hb (am_code_dec k9 (m := 266) (pc := 3) (i := .ifCond .eq 10) (n := 3) rfl) rfl (fun q => absurd q (by decide)) (fun _ => ?_)
  refine lv_aload_n (i := 0) B.exec hb (am_code_dec k9 (m := 266) (pc := 6) (i := .aload_n 0) (n := 1) rfl) rfl (lv_at hl 0 rfl) ?_
  refine vk_getf B.exec hb (y3.1 i hi).2.1 hS hown (hts _ sw_coder) (fun _ h9 => h9) (am_code_dec k9 (m := 266) (pc := 7) (i := .getfield 15) (n := 3) rfl) ?_
  refine lv_goto (tgt := 14) B.exec hb (am_code_dec k9 (m := 266) (pc := 10) (i := .goto 4) (n := 3) rfl) rfl ?_
  exact W.zret B.exec hb (show meth.sig.returnType = some .byte from B.returns) rfl (fun t9 ht9 hW9 => ⟨⟨_, (), rfl, rfl, trivial⟩, hS.F ht9⟩) hS.2.2 (am_code_dec k9 (m := 266) (pc := 14) (i := .ireturn) (n := 1) rfl) hlocks
theorem j_latin (hi : i < 2) : Met l (am_M 267).1 (jw 267) (j_R 0) (va_Pc [.ref (ad (1000003 + i))] (j_P ad)) (j_Q 1) 0 0 (fun _ => False) := by
  obtain ⟨k1, k2, k3, k4, k5, k6, k7, k8, k9⟩ := (show am_mok 2 0 (am_M 267) from am_v267)
  refine Met.ofW (cc := (am_M 267).2.1) (maxL := 1) (ret := (am_M 267).2.2.2.1) k2 rfl ?_
  intro p e s mt args below meth c s₁ B hml hv
  obtain ⟨rfl, hY⟩ := hv
  have hY : am_Y ad (fun _ => False) s s.heap := hY
  obtain ⟨y1, y2, y3, y4, y5⟩ := id hY
  have hts0 := atoms_spec (ws := jw 267) B.pre
  have hts : ∀ w ∈ am_ts, w.before _ s = true := fun w hw => hts0 w (List.mem_cons_of_mem _ hw)
  have hown : s.vm.findClass (am_cn (am_own 267)) = some mt.cls := findClass_of_methodNamed B.named
  have hlocks := B.notSynchronized
  have hb : c.code = (am_M 267).2.1 := B.bytes
  have hS : va_S (fun _ => False) s.heap s.heap [] := va_S.rf
  rw [lg_entry_eq]
  have hl := lv_entry [.ref (ad (1000003 + i))] (n := 1) (Nat.le_of_ble_eq_true rfl)
  generalize (lg_sl [.ref (ad (1000003 + i))] ++ List.replicate (1 - (lg_sl [.ref (ad (1000003 + i))]).length) Slot.unset).toArray = ls at hl ⊢
  have hl : lv_has ls 1 [(0, .ref (ad (1000003 + i)))] := hl
  refine va_gets B.exec hb y4 hS hown (hts _ sw_comp) (fun _ h9 => h9) (am_code_dec k9 (m := 267) (pc := 0) (i := .getstatic 38) (n := 3) rfl) ?_
  refine lv_if_eq (tgt := 17) B.exec hb (am_code_dec k9 (m := 267) (pc := 3) (i := .ifCond .eq 14) (n := 3) rfl) rfl (fun q => absurd q (by decide)) (fun _ => ?_)
  refine lv_aload_n (i := 0) B.exec hb (am_code_dec k9 (m := 267) (pc := 6) (i := .aload_n 0) (n := 1) rfl) rfl (lv_at hl 0 rfl) ?_
  refine vk_getf B.exec hb (y3.1 i hi).2.1 hS hown (hts _ sw_coder) (fun _ h9 => h9) (am_code_dec k9 (m := 267) (pc := 7) (i := .getfield 15) (n := 3) rfl) ?_
  refine lv_if_ne (tgt := 17) B.exec hb (am_code_dec k9 (m := 267) (pc := 10) (i := .ifCond .ne 7) (n := 3) rfl) rfl (fun q => absurd rfl q) (fun _ => ?_)
  refine lv_iconst (v := 1) B.exec hb (am_code_dec k9 (m := 267) (pc := 13) (i := .iconst 1) (n := 1) rfl) rfl ?_
  refine lv_goto (tgt := 18) B.exec hb (am_code_dec k9 (m := 267) (pc := 14) (i := .goto 4) (n := 3) rfl) rfl ?_
  exact W.zret B.exec hb (show meth.sig.returnType = some .boolean from B.returns) rfl (fun t9 ht9 hW9 => ⟨⟨_, (), rfl, rfl, trivial⟩, hS.F ht9⟩) hS.2.2 (am_code_dec k9 (m := 267) (pc := 18) (i := .ireturn) (n := 1) rfl) hlocks
theorem j_length (hi : i < 2) : Met l (am_M 264).1 (jw 264) (j_R 1) (va_Pc [.ref (ad (1000003 + i))] (j_P ad)) (j_Q 110) 0 0 (fun _ => False) := by
  have hlen : am_SL.getD i 0 = 110 := by rcases (show i = 0 ∨ i = 1 by omega) with rfl | rfl <;> rfl
  obtain ⟨k1, k2, k3, k4, k5, k6, k7, k8, k9⟩ := (show am_mok 2 0 (am_M 264) from am_v264)
  refine Met.ofW (cc := (am_M 264).2.1) (maxL := 1) (ret := (am_M 264).2.2.2.1) k2 rfl ?_
  intro p e s mt args below meth c s₁ B hml hv
  obtain ⟨rfl, hY⟩ := hv
  have hY : am_Y ad (fun _ => False) s s.heap := hY
  obtain ⟨y1, y2, y3, y4, y5⟩ := id hY
  have hts0 := atoms_spec (ws := jw 264) B.pre
  have hts : ∀ w ∈ am_ts, w.before _ s = true := fun w hw => hts0 w (List.mem_cons_of_mem _ hw)
  have hown : s.vm.findClass (am_cn (am_own 264)) = some mt.cls := findClass_of_methodNamed B.named
  have hlocks := B.notSynchronized
  have hb : c.code = (am_M 264).2.1 := B.bytes
  have hS : va_S (fun _ => False) s.heap s.heap [] := va_S.rf
  rw [lg_entry_eq]
  have hl := lv_entry [.ref (ad (1000003 + i))] (n := 1) (Nat.le_of_ble_eq_true rfl)
  generalize (lg_sl [.ref (ad (1000003 + i))] ++ List.replicate (1 - (lg_sl [.ref (ad (1000003 + i))]).length) Slot.unset).toArray = ls at hl ⊢
  have hl : lv_has ls 1 [(0, .ref (ad (1000003 + i)))] := hl
  refine lv_aload_n (i := 0) B.exec hb (am_code_dec k9 (m := 264) (pc := 0) (i := .aload_n 0) (n := 1) rfl) rfl (lv_at hl 0 rfl) ?_
  refine vk_getf B.exec hb (y3.1 i hi).2.2.1 hS hown (hts _ sw_value) (fun _ h9 => h9) (am_code_dec k9 (m := 264) (pc := 1) (i := .getfield 9) (n := 3) rfl) ?_
  refine va_tlen (v := 110) B.exec hb (y3.1 i hi).2.2.2 hS (by rw [hlen]; rfl) (am_code_dec k9 (m := 264) (pc := 4) (i := .arraylength) (n := 1) rfl) ?_
  refine lv_aload_n (i := 0) B.exec hb (am_code_dec k9 (m := 264) (pc := 5) (i := .aload_n 0) (n := 1) rfl) rfl (lv_at hl 0 rfl) ?_
  have hg6 := j_gV (m := 264) (idx := 335) (m' := 266) (np := 0) (w := 311) (z := 0) rfl
  have cw6 := cwV (R := j_R 1) (s := s) (args := _) (own := am_cn (am_own 264)) (C := (am_M 266).1.cls) (index := 335) (y := (am_M 266).1) (bytes := (am_M 266).2.1) (maxL := (am_M 266).2.2.1) (ret := (am_M 266).2.2.2.1) (Ts := am_ts) (ws := jw 266) (rm := j_R 0) (mc := 0) (ms := 0) 0 hts hg6.1 rfl rfl rfl ⟨rfl, hg6.2.2.2.2.2.1.1, hg6.2.2.2.2.2.1.2, hg6.2.2.2.2.2.2.2.1⟩ ⟨Nat.le_of_ble_eq_true rfl, Nat.le_of_ble_eq_true rfl⟩
  refine va_calli (va_runV (As := []) (rest := [.int 110]) ⟨B.exec, hb, hml, hown, hts⟩ (j_coder hi) cw6 ⟨j_blind, vk_recv y3 hi hS, fun U hU hW => ⟨rfl, j_at hY hS hU hW⟩⟩ rfl rfl hl.1 rfl (lv_room (Nat.le_of_ble_eq_true rfl)) (am_code_dec k9 (m := 264) (pc := 6) (i := .invokevirtual 335) (n := 3) rfl) ⟨Nat.le_refl _, Nat.le_refl _⟩) hS (fun q _ h => h) (fun q h => h) (fun r9 _ t9 H6 locs6 ht9 hvm9 hp9 _ hz9 hk9 hS6 => ?_)
  subst hp9
  refine lv_ishr B.exec hb (am_code_dec k9 (m := 264) (pc := 9) (i := .ishr) (n := 1) rfl) ?_
  exact W.zret B.exec hb (show meth.sig.returnType = some .int from B.returns) rfl (fun t9 ht9 hW9 => ⟨⟨_, (), rfl, (by decide), trivial⟩, hS6.F ht9⟩) hS6.2.2 (am_code_dec k9 (m := 264) (pc := 10) (i := .ireturn) (n := 1) rfl) hlocks
theorem j_pre {x y : Int32} {v : Value} (hv0 : v = .null ∨ ∃ t, v = .ref t) (hx : ¬ x < 0) (hxy : x < y) : Met l (am_M 274).1 (jw 274) (j_R 0) (va_Pc [.int x, .int y, v] (j_P ad)) (j_Q x) 0 0 (fun _ => False) := by
  rcases hv0 with rfl | ⟨t, rfl⟩
  · obtain ⟨k1, k2, k3, k4, k5, k6, k7, k8, k9⟩ := (show am_mok 3 3 (am_M 274) from am_v274)
    refine Met.ofW (cc := (am_M 274).2.1) (maxL := 3) (ret := (am_M 274).2.2.2.1) k2 rfl ?_
    intro p e s mt args below meth c s₁ B hml hv
    obtain ⟨rfl, hY⟩ := hv
    have hY : am_Y ad (fun _ => False) s s.heap := hY
    obtain ⟨y1, y2, y3, y4, y5⟩ := id hY
    have hts0 := atoms_spec (ws := jw 274) B.pre
    have hts : ∀ w ∈ am_ts, w.before _ s = true := fun w hw => hts0 w (List.mem_cons_of_mem _ hw)
    have hown : s.vm.findClass (am_cn (am_own 274)) = some mt.cls := findClass_of_methodNamed B.named
    have hlocks := B.notSynchronized
    have hb : c.code = (am_M 274).2.1 := B.bytes
    have hS : va_S (fun _ => False) s.heap s.heap [] := va_S.rf
    rw [lg_entry_eq]
    have hl := lv_entry [.int x, .int y, .null] (n := 3) (Nat.le_of_ble_eq_true rfl)
    generalize (lg_sl [.int x, .int y, .null] ++ List.replicate (3 - (lg_sl [.int x, .int y, .null]).length) Slot.unset).toArray = ls at hl ⊢
    have hl : lv_has ls 3 [(0, .int x), (1, .int y), (2, .null)] := hl
    refine lv_iload_n (i := 0) B.exec hb (am_code_dec k9 (m := 274) (pc := 0) (i := .iload_n 0) (n := 1) rfl) rfl (lv_at hl 0 rfl) ?_
    refine lv_if_lt (tgt := 9) B.exec hb (am_code_dec k9 (m := 274) (pc := 1) (i := .ifCond .lt 8) (n := 3) rfl) rfl (fun q => absurd q hx) (fun _ => ?_)
    refine lv_iload_n (i := 0) B.exec hb (am_code_dec k9 (m := 274) (pc := 4) (i := .iload_n 0) (n := 1) rfl) rfl (lv_at hl 0 rfl) ?_
    refine lv_iload_n (i := 1) B.exec hb (am_code_dec k9 (m := 274) (pc := 5) (i := .iload_n 1) (n := 1) rfl) rfl (lv_at hl 1 rfl) ?_
    refine lv_icmp_lt (tgt := 16) B.exec hb (am_code_dec k9 (m := 274) (pc := 6) (i := .if_icmp .lt 10) (n := 3) rfl) rfl (fun _ => ?_) (fun q => absurd hxy q)
    refine lv_iload_n (i := 0) B.exec hb (am_code_dec k9 (m := 274) (pc := 16) (i := .iload_n 0) (n := 1) rfl) rfl (lv_at hl 0 rfl) ?_
    exact W.zret B.exec hb (show meth.sig.returnType = some .int from B.returns) rfl (fun t9 ht9 hW9 => ⟨⟨_, (), rfl, rfl, trivial⟩, hS.F ht9⟩) hS.2.2 (am_code_dec k9 (m := 274) (pc := 17) (i := .ireturn) (n := 1) rfl) hlocks
  · obtain ⟨k1, k2, k3, k4, k5, k6, k7, k8, k9⟩ := (show am_mok 3 3 (am_M 274) from am_v274)
    refine Met.ofW (cc := (am_M 274).2.1) (maxL := 3) (ret := (am_M 274).2.2.2.1) k2 rfl ?_
    intro p e s mt args below meth c s₁ B hml hv
    obtain ⟨rfl, hY⟩ := hv
    have hY : am_Y ad (fun _ => False) s s.heap := hY
    obtain ⟨y1, y2, y3, y4, y5⟩ := id hY
    have hts0 := atoms_spec (ws := jw 274) B.pre
    have hts : ∀ w ∈ am_ts, w.before _ s = true := fun w hw => hts0 w (List.mem_cons_of_mem _ hw)
    have hown : s.vm.findClass (am_cn (am_own 274)) = some mt.cls := findClass_of_methodNamed B.named
    have hlocks := B.notSynchronized
    have hb : c.code = (am_M 274).2.1 := B.bytes
    have hS : va_S (fun _ => False) s.heap s.heap [] := va_S.rf
    rw [lg_entry_eq]
    have hl := lv_entry [.int x, .int y, .ref t] (n := 3) (Nat.le_of_ble_eq_true rfl)
    generalize (lg_sl [.int x, .int y, .ref t] ++ List.replicate (3 - (lg_sl [.int x, .int y, .ref t]).length) Slot.unset).toArray = ls at hl ⊢
    have hl : lv_has ls 3 [(0, .int x), (1, .int y), (2, .ref t)] := hl
    refine lv_iload_n (i := 0) B.exec hb (am_code_dec k9 (m := 274) (pc := 0) (i := .iload_n 0) (n := 1) rfl) rfl (lv_at hl 0 rfl) ?_
    refine lv_if_lt (tgt := 9) B.exec hb (am_code_dec k9 (m := 274) (pc := 1) (i := .ifCond .lt 8) (n := 3) rfl) rfl (fun q => absurd q hx) (fun _ => ?_)
    refine lv_iload_n (i := 0) B.exec hb (am_code_dec k9 (m := 274) (pc := 4) (i := .iload_n 0) (n := 1) rfl) rfl (lv_at hl 0 rfl) ?_
    refine lv_iload_n (i := 1) B.exec hb (am_code_dec k9 (m := 274) (pc := 5) (i := .iload_n 1) (n := 1) rfl) rfl (lv_at hl 1 rfl) ?_
    refine lv_icmp_lt (tgt := 16) B.exec hb (am_code_dec k9 (m := 274) (pc := 6) (i := .if_icmp .lt 10) (n := 3) rfl) rfl (fun _ => ?_) (fun q => absurd hxy q)
    refine lv_iload_n (i := 0) B.exec hb (am_code_dec k9 (m := 274) (pc := 16) (i := .iload_n 0) (n := 1) rfl) rfl (lv_at hl 0 rfl) ?_
    exact W.zret B.exec hb (show meth.sig.returnType = some .int from B.returns) rfl (fun t9 ht9 hW9 => ⟨⟨_, (), rfl, rfl, trivial⟩, hS.F ht9⟩) hS.2.2 (am_code_dec k9 (m := 274) (pc := 17) (i := .ireturn) (n := 1) rfl) hlocks
theorem j_chk {x y : Int32} (hx : ¬ x < 0) (hxy : x < y) : Met l (am_M 268).1 (jw 268) (j_R 1) (va_Pc [.int x, .int y] (j_P ad)) (va_Qv (S := Unit) (fun _ => True) (fun _ _ => True) (fun _ => False)) 0 0 (fun _ => False) := by
  obtain ⟨k1, k2, k3, k4, k5, k6, k7, k8, k9⟩ := (show am_mok 3 2 (am_M 268) from am_v268)
  refine Met.ofW (cc := (am_M 268).2.1) (maxL := 2) (ret := (am_M 268).2.2.2.1) k2 rfl ?_
  intro p e s mt args below meth c s₁ B hml hv
  obtain ⟨rfl, hY⟩ := hv
  have hY : am_Y ad (fun _ => False) s s.heap := hY
  obtain ⟨y1, y2, y3, y4, y5⟩ := id hY
  have hts0 := atoms_spec (ws := jw 268) B.pre
  have hts : ∀ w ∈ am_ts, w.before _ s = true := fun w hw => hts0 w (List.mem_cons_of_mem _ hw)
  have hown : s.vm.findClass (am_cn (am_own 268)) = some mt.cls := findClass_of_methodNamed B.named
  have hlocks := B.notSynchronized
  have hb : c.code = (am_M 268).2.1 := B.bytes
  have hS : va_S (fun _ => False) s.heap s.heap [] := va_S.rf
  rw [lg_entry_eq]
  have hl := lv_entry [.int x, .int y] (n := 2) (Nat.le_of_ble_eq_true rfl)
  generalize (lg_sl [.int x, .int y] ++ List.replicate (2 - (lg_sl [.int x, .int y]).length) Slot.unset).toArray = ls at hl ⊢
  have hl : lv_has ls 2 [(0, .int x), (1, .int y)] := hl
  refine lv_iload_n (i := 0) B.exec hb (am_code_dec k9 (m := 268) (pc := 0) (i := .iload_n 0) (n := 1) rfl) rfl (lv_at hl 0 rfl) ?_
  refine lv_iload_n (i := 1) B.exec hb (am_code_dec k9 (m := 268) (pc := 1) (i := .iload_n 1) (n := 1) rfl) rfl (lv_at hl 1 rfl) ?_
  have key : ∀ v : Value, (v = .null ∨ ∃ t, v = .ref t) → W p l e (j_R 1) s mt #[Value.int x, Value.int y] below meth c s.heap [] 0 0 (MQ below (va_Qv (S := Unit) (fun _ => True) (fun _ _ => True) (fun _ => False)) #[Value.int x, Value.int y] s 0 0 (fun _ => False)) (F0 mt 5 ls [v, .int y, .int x]) := by
    intro v hv0
    have hvc : v.category = 1 := by rcases hv0 with rfl | ⟨t, rfl⟩ <;> rfl
    have hg5 := j_gS (m := 268) (idx := 1059) (m' := 274) (np := 3) (w := 333) (z := 0) rfl
    have cw5 := va_cwS (R := j_R 1) (s := s) (args := _) (own := am_cn (am_own 268)) (index := 1059) (y := (am_M 274).1) (bytes := (am_M 274).2.1) (maxL := (am_M 274).2.2.1) (ret := (am_M 274).2.2.2.1) (Ts := am_ts) (ws := jw 274) (rm := j_R 0) (mc := 0) (ms := 0) 3 hts hg5.1 rfl rfl rfl ⟨hg5.2.2.2.2.2.1.1, hg5.2.2.2.2.2.1.2, hg5.2.2.2.2.2.2.2.1⟩ ⟨Nat.le_of_ble_eq_true rfl, Nat.le_of_ble_eq_true rfl⟩
    refine va_calli (va_runS (As := [.int x, .int y, v]) (rest := []) ⟨B.exec, hb, hml, hown, hts⟩ (j_pre hv0 hx hxy) cw5 ⟨j_blind, fun U hU hW => ⟨rfl, j_at hY hS hU hW⟩⟩ rfl rfl hl.1 rfl (lv_room (Nat.le_of_ble_eq_true rfl)) (am_code_dec k9 (m := 268) (pc := 5) (i := .invokestatic 1059) (n := 3) rfl) ⟨Nat.le_refl _, Nat.le_refl _⟩) hS (fun q _ h => h) (fun q h => h) (fun r9 _ t9 H5 locs5 ht9 hvm9 hp9 _ hz9 hk9 hS5 => ?_)
    subst hp9
    refine lv_pop B.exec hb (am_code_dec k9 (m := 268) (pc := 8) (i := .pop) (n := 1) rfl) rfl ?_
    exact W.vret B.exec hb (show meth.sig.returnType = none from B.returns) (fun t9 ht9 hW9 => ⟨⟨(), rfl, trivial, trivial⟩, hS5.F ht9⟩) hS5.2.2 (am_code_dec k9 (m := 268) (pc := 9) (i := .return_) (n := 1) rfl) hlocks
  rcases y5 with z | ⟨t, z⟩
  · exact va_gets B.exec hb z hS hown (hts _ sw_form) (fun _ h9 => h9) (am_code_dec k9 (m := 268) (pc := 2) (i := .getstatic 1053) (n := 3) rfl) (key _ (Or.inl rfl))
  · exact va_gets B.exec hb z hS hown (hts _ sw_form) (fun _ h9 => h9) (am_code_dec k9 (m := 268) (pc := 2) (i := .getstatic 1053) (n := 3) rfl) (key _ (Or.inr ⟨t, rfl⟩))
theorem j_ch : ∀ i : Nat, i < 2 → ∀ j : Nat, j < 110 → ((((am_SB.getD i []).getD j 0 &&& 255).toUInt32 % 65536).toInt32 = Int32.ofInt ((am_STR.getD i []).getD j 0)) ∧ narrow .char (.int (Int32.ofInt ((am_STR.getD i []).getD j 0))) = .int (Int32.ofInt ((am_STR.getD i []).getD j 0)) := by decide +kernel
theorem j_lch (hi : i < 2) {z : Int} (hz : am_R32 z) (h0 : 0 ≤ z) (h1 : z < 110) : Met l (am_M 269).1 (jw 269) (j_R 2) (va_Pc [.ref (ad (1000005 + i)), .int (Int32.ofInt z)] (j_P ad)) (j_Q (Int32.ofInt ((am_STR.getD i []).getD z.toNat 0))) 0 0 (fun _ => False) := by
  have hlen : am_SL.getD i 0 = 110 := by rcases (show i = 0 ∨ i = 1 by omega) with rfl | rfl <;> rfl
  obtain ⟨hch, hnar⟩ := j_ch i hi z.toNat (by omega)
  have x0 : ¬ Int32.ofInt z < 0 := by rw [← am_o0, am_lt hz am_R0]; omega
  have x1 : Int32.ofInt z < 110 := (am_lt hz (y := 110) ⟨by decide, by decide⟩).mpr h1
  obtain ⟨k1, k2, k3, k4, k5, k6, k7, k8, k9⟩ := (show am_mok 3 2 (am_M 269) from am_v269)
  refine Met.ofW (cc := (am_M 269).2.1) (maxL := 2) (ret := (am_M 269).2.2.2.1) k2 rfl ?_
  intro p e s mt args below meth c s₁ B hml hv
  obtain ⟨rfl, hY⟩ := hv
  have hY : am_Y ad (fun _ => False) s s.heap := hY
  obtain ⟨y1, y2, y3, y4, y5⟩ := id hY
  have hts0 := atoms_spec (ws := jw 269) B.pre
  have hts : ∀ w ∈ am_ts, w.before _ s = true := fun w hw => hts0 w (List.mem_cons_of_mem _ hw)
  have hown : s.vm.findClass (am_cn (am_own 269)) = some mt.cls := findClass_of_methodNamed B.named
  have hlocks := B.notSynchronized
  have hb : c.code = (am_M 269).2.1 := B.bytes
  have hS : va_S (fun _ => False) s.heap s.heap [] := va_S.rf
  rw [lg_entry_eq]
  have hl := lv_entry [.ref (ad (1000005 + i)), .int (Int32.ofInt z)] (n := 2) (Nat.le_of_ble_eq_true rfl)
  generalize (lg_sl [.ref (ad (1000005 + i)), .int (Int32.ofInt z)] ++ List.replicate (2 - (lg_sl [.ref (ad (1000005 + i)), .int (Int32.ofInt z)]).length) Slot.unset).toArray = ls at hl ⊢
  have hl : lv_has ls 2 [(0, .ref (ad (1000005 + i))), (1, .int (Int32.ofInt z))] := hl
  refine lv_iload_n (i := 1) B.exec hb (am_code_dec k9 (m := 269) (pc := 0) (i := .iload_n 1) (n := 1) rfl) rfl (lv_at hl 1 rfl) ?_
  refine lv_aload_n (i := 0) B.exec hb (am_code_dec k9 (m := 269) (pc := 1) (i := .aload_n 0) (n := 1) rfl) rfl (lv_at hl 0 rfl) ?_
  refine va_tlen (v := 110) B.exec hb (y3.1 i hi).2.2.2 hS (by rw [hlen]; rfl) (am_code_dec k9 (m := 269) (pc := 2) (i := .arraylength) (n := 1) rfl) ?_
  have hg3 := j_gS (m := 269) (idx := 9) (m' := 268) (np := 2) (w := 328) (z := 0) rfl
  have cw3 := va_cwS (R := j_R 2) (s := s) (args := _) (own := am_cn (am_own 269)) (index := 9) (y := (am_M 268).1) (bytes := (am_M 268).2.1) (maxL := (am_M 268).2.2.1) (ret := (am_M 268).2.2.2.1) (Ts := am_ts) (ws := jw 268) (rm := j_R 1) (mc := 0) (ms := 0) 2 hts hg3.1 rfl rfl rfl ⟨hg3.2.2.2.2.2.1.1, hg3.2.2.2.2.2.1.2, hg3.2.2.2.2.2.2.2.1⟩ ⟨Nat.le_of_ble_eq_true rfl, Nat.le_of_ble_eq_true rfl⟩
  refine va_callv (va_runS (As := [.int (Int32.ofInt z), .int 110]) (rest := []) ⟨B.exec, hb, hml, hown, hts⟩ (j_chk x0 x1) cw3 ⟨j_blind, fun U hU hW => ⟨rfl, j_at hY hS hU hW⟩⟩ rfl rfl hl.1 rfl (lv_room (Nat.le_of_ble_eq_true rfl)) (am_code_dec k9 (m := 269) (pc := 3) (i := .invokestatic 9) (n := 3) rfl) ⟨Nat.le_refl _, Nat.le_refl _⟩) hS (fun q _ h => h) (fun q h => h) (fun _ t9 H3 locs3 ht9 hvm9 hp9 _ hz9 hk9 hS3 => ?_)
  refine lv_aload_n (i := 0) B.exec hb (am_code_dec k9 (m := 269) (pc := 6) (i := .aload_n 0) (n := 1) rfl) rfl (lv_at hl 0 rfl) ?_
  refine lv_iload_n (i := 1) B.exec hb (am_code_dec k9 (m := 269) (pc := 7) (i := .iload_n 1) (n := 1) rfl) rfl (lv_at hl 1 rfl) ?_
  refine va_tb (v := .int ((am_SB.getD i []).getD z.toNat 0)) B.exec hb (y3.1 i hi).2.2.2 hS3 (by rw [hlen]; exact am_vin hz (by simp [am_in]; omega)) (by rw [am_nn hz]) (am_code_dec k9 (m := 269) (pc := 8) (i := .baload) (n := 1) rfl) ?_
  refine lv_sipush (v := 255) B.exec hb (am_code_dec k9 (m := 269) (pc := 9) (i := .sipush 255) (n := 3) rfl) (by decide) ?_
  refine lv_iand B.exec hb (am_code_dec k9 (m := 269) (pc := 12) (i := .iand) (n := 1) rfl) ?_
  refine lv_i2c (v := Int32.ofInt ((am_STR.getD i []).getD z.toNat 0)) B.exec hb (am_code_dec k9 (m := 269) (pc := 13) (i := .i2c) (n := 1) rfl) hch ?_
  exact W.zret B.exec hb (show meth.sig.returnType = some .char from B.returns) hnar (fun t9 ht9 hW9 => ⟨⟨_, (), rfl, rfl, trivial⟩, hS3.F ht9⟩) hS3.2.2 (am_code_dec k9 (m := 269) (pc := 14) (i := .ireturn) (n := 1) rfl) hlocks
theorem j_charAt (hi : i < 2) {z : Int} (hz : am_R32 z) (h0 : 0 ≤ z) (h1 : z < 110) : Met l (am_M 265).1 (jw 265) (j_R 3) (va_Pc [.ref (ad (1000003 + i)), .int (Int32.ofInt z)] (j_P ad)) (j_Q (Int32.ofInt ((am_STR.getD i []).getD z.toNat 0))) 0 0 (fun _ => False) := by
  obtain ⟨hch, hnar⟩ := j_ch i hi z.toNat (by omega)
  obtain ⟨k1, k2, k3, k4, k5, k6, k7, k8, k9⟩ := (show am_mok 2 1 (am_M 265) from am_v265)
  refine Met.ofW (cc := (am_M 265).2.1) (maxL := 2) (ret := (am_M 265).2.2.2.1) k2 rfl ?_
  intro p e s mt args below meth c s₁ B hml hv
  obtain ⟨rfl, hY⟩ := hv
  have hY : am_Y ad (fun _ => False) s s.heap := hY
  obtain ⟨y1, y2, y3, y4, y5⟩ := id hY
  have hts0 := atoms_spec (ws := jw 265) B.pre
  have hts : ∀ w ∈ am_ts, w.before _ s = true := fun w hw => hts0 w (List.mem_cons_of_mem _ hw)
  have hown : s.vm.findClass (am_cn (am_own 265)) = some mt.cls := findClass_of_methodNamed B.named
  have hlocks := B.notSynchronized
  have hb : c.code = (am_M 265).2.1 := B.bytes
  have hS : va_S (fun _ => False) s.heap s.heap [] := va_S.rf
  rw [lg_entry_eq]
  have hl := lv_entry [.ref (ad (1000003 + i)), .int (Int32.ofInt z)] (n := 2) (Nat.le_of_ble_eq_true rfl)
  generalize (lg_sl [.ref (ad (1000003 + i)), .int (Int32.ofInt z)] ++ List.replicate (2 - (lg_sl [.ref (ad (1000003 + i)), .int (Int32.ofInt z)]).length) Slot.unset).toArray = ls at hl ⊢
  have hl : lv_has ls 2 [(0, .ref (ad (1000003 + i))), (1, .int (Int32.ofInt z))] := hl
  refine lv_aload_n (i := 0) B.exec hb (am_code_dec k9 (m := 265) (pc := 0) (i := .aload_n 0) (n := 1) rfl) rfl (lv_at hl 0 rfl) ?_
  have hg1 := j_gV (m := 265) (idx := 492) (m' := 267) (np := 0) (w := 321) (z := 0) rfl
  have cw1 := cwV (R := j_R 3) (s := s) (args := _) (own := am_cn (am_own 265)) (C := (am_M 267).1.cls) (index := 492) (y := (am_M 267).1) (bytes := (am_M 267).2.1) (maxL := (am_M 267).2.2.1) (ret := (am_M 267).2.2.2.1) (Ts := am_ts) (ws := jw 267) (rm := j_R 0) (mc := 0) (ms := 0) 0 hts hg1.1 rfl rfl rfl ⟨rfl, hg1.2.2.2.2.2.1.1, hg1.2.2.2.2.2.1.2, hg1.2.2.2.2.2.2.2.1⟩ ⟨Nat.le_of_ble_eq_true rfl, Nat.le_of_ble_eq_true rfl⟩
  refine va_calli (va_runV (As := []) (rest := []) ⟨B.exec, hb, hml, hown, hts⟩ (j_latin hi) cw1 ⟨j_blind, vk_recv y3 hi hS, fun U hU hW => ⟨rfl, j_at hY hS hU hW⟩⟩ rfl rfl hl.1 rfl (lv_room (Nat.le_of_ble_eq_true rfl)) (am_code_dec k9 (m := 265) (pc := 1) (i := .invokevirtual 492) (n := 3) rfl) ⟨Nat.le_refl _, Nat.le_refl _⟩) hS (fun q _ h => h) (fun q h => h) (fun r9 _ t9 H1 locs1 ht9 hvm9 hp9 _ hz9 hk9 hS1 => ?_)
  subst hp9
  refine lv_if_eq (tgt := 16) B.exec hb (am_code_dec k9 (m := 265) (pc := 4) (i := .ifCond .eq 12) (n := 3) rfl) rfl (fun q => absurd q (by decide)) (fun _ => ?_)
  refine lv_aload_n (i := 0) B.exec hb (am_code_dec k9 (m := 265) (pc := 7) (i := .aload_n 0) (n := 1) rfl) rfl (lv_at hl 0 rfl) ?_
  refine vk_getf B.exec hb (y3.1 i hi).2.2.1 hS1 hown (hts _ sw_value) (fun _ h9 => h9) (am_code_dec k9 (m := 265) (pc := 8) (i := .getfield 9) (n := 3) rfl) ?_
  refine lv_iload_n (i := 1) B.exec hb (am_code_dec k9 (m := 265) (pc := 11) (i := .iload_n 1) (n := 1) rfl) rfl (lv_at hl 1 rfl) ?_
  have hg12 := j_gS (m := 265) (idx := 495) (m' := 269) (np := 2) (w := 325) (z := 0) rfl
  have cw12 := va_cwS (R := j_R 3) (s := s) (args := _) (own := am_cn (am_own 265)) (index := 495) (y := (am_M 269).1) (bytes := (am_M 269).2.1) (maxL := (am_M 269).2.2.1) (ret := (am_M 269).2.2.2.1) (Ts := am_ts) (ws := jw 269) (rm := j_R 2) (mc := 0) (ms := 0) 2 hts hg12.1 rfl rfl rfl ⟨hg12.2.2.2.2.2.1.1, hg12.2.2.2.2.2.1.2, hg12.2.2.2.2.2.2.2.1⟩ ⟨Nat.le_of_ble_eq_true rfl, Nat.le_of_ble_eq_true rfl⟩
  refine va_calli (va_runS (As := [.ref (ad (1000005 + i)), .int (Int32.ofInt z)]) (rest := []) ⟨B.exec, hb, hml, hown, hts⟩ (j_lch hi hz h0 h1) cw12 ⟨j_blind, fun U hU hW => ⟨rfl, j_at hY hS1 hU hW⟩⟩ rfl rfl hl.1 rfl (lv_room (Nat.le_of_ble_eq_true rfl)) (am_code_dec k9 (m := 265) (pc := 12) (i := .invokestatic 495) (n := 3) rfl) ⟨Nat.le_refl _, Nat.le_refl _⟩) hS1 (fun q _ h => h) (fun q h => h) (fun r9 _ t9 H12 locs12 ht9 hvm9 hp9 _ hz9 hk9 hS12 => ?_)
  subst hp9
  exact W.zret B.exec hb (show meth.sig.returnType = some .char from B.returns) hnar (fun t9 ht9 hW9 => ⟨⟨_, (), rfl, rfl, trivial⟩, hS12.F ht9⟩) hS12.2.2 (am_code_dec k9 (m := 265) (pc := 15) (i := .ireturn) (n := 1) rfl) hlocks
end JDK
