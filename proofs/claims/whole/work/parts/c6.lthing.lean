/-! THE LAW'S METHOD thing: it catches what the class's thing throws -/
section CLT
variable {l : Launch} {p : Program} {e : Env} {R : Room} {s : State} {mt : MethodId} {args : Array Value} {below : List Frame} {meth : Method} {c : Code} {Q : State → Prop} {D : va_G} {cy : Nat → ClassId} {A : Nat → Prop} {ad : Nat → Nat} {h : am_H} {H : Heap} {locs : List Loc} {cells slots : Nat} {ls : Array Slot} {pc : Nat}
theorem w_last {q : Nat} {z : Int} {rest : List Value} (hex : p.tables.exec = Jvm.exec) {cc : ByteArray} (hcb : c.code = cc) (hd : decode cc pc = .ok (.lastore, 1)) (hR : am_Rp D cy ad A s h H locs) (ek : (am_kl h q).1 = 23) (hn : am_in 0 (am_kl h q).2 = true) (hz : am_R64 z)
    (kk : ∀ (H1 : Heap) (locs1 : List Loc), am_Rp D cy ad A s (am_wr h q 0 z) H1 locs1 → W p l e R s mt args below meth c H1 locs1 cells slots Q (F0 mt (pc + 1) ls rest)) : W p l e R s mt args below meth c H locs cells slots Q (F0 mt pc ls (.long (Int64.ofInt z) :: .int 0 :: .ref (ad q) :: rest)) := by
  obtain ⟨hK, hP, hD, hS, hA, hG, hXx⟩ := id hR
  have hi : am_R32 0 := am_R0
  have hin := am_vin hi hn
  obtain ⟨a1, a2, a3, a4⟩ := am_arl_at (cy := cy) (ad := ad) hG (q := q) ek
  refine va_last hex hcb hK hP hD hS q 3 (n := (am_kl h q).2) a3 rfl (i := Int32.ofInt 0) hin hd (fun H1 locs1 P1 D1 S1 => ?_)
  rw [am_nn hi] at P1 D1
  refine kk H1 locs1 (am_Rp_put hR (h' := am_wr h q 0 z) ?_ P1 D1 S1 ?_ (fun x j hx => am_up_ne (by omega)) rfl)
  · refine am_ws_set rfl a1 (fun x kl' hx' _ => am_ce_ne (fun j => rfl) (fun j => am_up_ne hx')) ?_
    rw [am_ce_long ek]
    show Sum.inl (cy 23, (am_kl h q).2, Sum.inr (Sum.inl (fun j => Int64.ofInt (am_up h.2.2.1 q 0 z q j)))) = _
    rw [am_ustL]
    rfl
  · refine am_G_put hG rfl (by omega) (k := 0) (p := q) (fun x j _ => rfl) (fun x j hj => am_up_no hj) (fun kl hkl h9 _ => ?_) (fun kl hkl h9 _ => ?_) (fun kl hkl h20 h9 _ => ?_)
    · rw [a1] at hkl
      cases hkl
      omega
    · show am_R64 (am_up h.2.2.1 q 0 z q 0)
      rw [am_up_eq]
      exact hz
    · rw [a1] at hkl
      cases hkl
      omega
end CLT
section CLU
variable {l : Launch} {D : va_G} {cy : Nat → ClassId} {ad : Nat → Nat} {sz a1 a2 : Nat} {ρ : Nat → Nat → Nat} {μ : Nat → Nat → Int} {cs : Nat × Nat × Nat} {b w u : Nat} {S : MS} {W0 : MW}
abbrev lt_tab : List (Nat × Nat × Nat × Nat) := [(0, 10, 13, 13), (0, 10, 17, 15)]
abbrev lt_ws : List Cond := Cond.codeWith yL_thing cL_thing 5 (some .int) lt_tab :: am_ts
theorem dLt_0 : decode cL_thing 0 = .ok (.aload_n 3, 1) := by decide +kernel
theorem dLt_1 : decode cL_thing 1 = .ok (.iconst 0, 1) := by decide +kernel
theorem dLt_2 : decode cL_thing 2 = .ok (.aload_n 0, 1) := by decide +kernel
theorem dLt_3 : decode cL_thing 3 = .ok (.iload_n 1, 1) := by decide +kernel
theorem dLt_4 : decode cL_thing 4 = .ok (.iload_n 2, 1) := by decide +kernel
theorem dLt_5 : decode cL_thing 5 = .ok (.invokevirtual 7, 3) := by decide +kernel
theorem dLt_8 : decode cL_thing 8 = .ok (.i2l, 1) := by decide +kernel
theorem dLt_9 : decode cL_thing 9 = .ok (.lastore, 1) := by decide +kernel
theorem dLt_10 : decode cL_thing 10 = .ok (.goto 11, 3) := by decide +kernel
theorem dLt_13 : decode cL_thing 13 = .ok (.astore 4, 2) := by decide +kernel
theorem dLt_15 : decode cL_thing 15 = .ok (.iconst 1, 1) := by decide +kernel
theorem dLt_16 : decode cL_thing 16 = .ok (.ireturn, 1) := by decide +kernel
theorem dLt_17 : decode cL_thing 17 = .ok (.astore 4, 2) := by decide +kernel
theorem dLt_19 : decode cL_thing 19 = .ok (.iconst 2, 1) := by decide +kernel
theorem dLt_20 : decode cL_thing 20 = .ok (.ireturn, 1) := by decide +kernel
theorem dLt_21 : decode cL_thing 21 = .ok (.iconst 0, 1) := by decide +kernel
theorem dLt_22 : decode cL_thing 22 = .ok (.ireturn, 1) := by decide +kernel
theorem lt_w1 : Cond.codeWith yL_thing cL_thing 5 (some .int) lt_tab ∈ am_ts := am_ts_of (am_in5 (List.mem_of_getElem? (i := 145) (by decide +kernel))) (by decide +kernel)
theorem lt_w2 : Cond.classLink RL 13 "java/lang/IndexOutOfBoundsException" ∈ am_ts := am_ts_of (am_in5 (List.mem_of_getElem? (i := 146) (by decide +kernel))) (by decide +kernel)
theorem lt_w3 : Cond.classLink RL 15 "java/util/NoSuchElementException" ∈ am_ts := am_ts_of (am_in5 (List.mem_of_getElem? (i := 147) (by decide +kernel))) (by decide +kernel)
def lt_h (S : MS) (W0 : MW) (t k : Int) (h : am_H) : am_H := if thc S t k = 0 then am_wr h 141 0 (thgA S W0 t k) else h
theorem X_Lthing (hl : l.stackTraces = false) (hR : RAx ρ μ b w u S W0) (hG : am_G (SH, ρ, μ, cs)) {t k : Int} (ht : am_R32 t) (hk : am_R32 k) : vx_Met l yL_thing lt_ws { frames := 110, cells := 1, slots := 6, locals := 4400 } (va_Pc [.ref (ad 0), .int (Int32.ofInt t), .int (Int32.ofInt k), .ref (ad 141)] (th_P D cy ad (SH, ρ, μ, cs) sz a1 a2)) (va_Qi (S := Unit) (fun r _ => r = Int32.ofInt (thc S t k) ∧ am_G (lt_h S W0 t k (SH, ρ, μ, cs))) (fun _ U => va_P D vwCl (am_ws cy ad (lt_h S W0 t k (SH, ρ, μ, cs))) U.heap ∧ va_D (va_A (am_ws cy ad (SH, ρ, μ, cs)) sz) (am_ws cy ad (lt_h S W0 t k (SH, ρ, μ, cs)))) (va_A (am_ws cy ad (SH, ρ, μ, cs)) sz)) (vx_X (S := Unit) (fun _ => False) (fun _ _ _ => False) (fun _ => False)) 1 6 (va_A (am_ws cy ad (SH, ρ, μ, cs)) sz) := by
  refine vx_ofWH (cc := cL_thing) (maxL := 5) (ret := some .int) (hh := lt_tab) (by decide +kernel) rfl ?_
  intro p e s mt args below meth c s₁ B hml hv
  obtain ⟨rfl, ⟨hsz, hP, hK, hD0, hXx⟩, hE⟩ := hv
  subst hsz
  have hts0 := atoms_spec (ws := lt_ws) B.pre
  have hts : ∀ w ∈ am_ts, w.before _ s = true := fun w hw => hts0 w (List.mem_cons_of_mem _ hw)
  have htab : c.exceptionTable.toList = tableOf lt_tab := vx_table (x := yL_thing) B (hts0 _ List.mem_cons_self)
  have hown : s.vm.findClass RL = some mt.cls := findClass_of_methodNamed B.named
  have hlocks := B.notSynchronized
  have hRp : am_Rp D cy ad (va_A (am_ws cy ad (SH, ρ, μ, cs)) s.heap.size) s (SH, ρ, μ, cs) s.heap [] := ⟨hK, hP, hD0.self, va_S.rf, fun q hq => Or.inr hq, hG, hXx⟩
  rw [lg_entry_eq]
  have hl0 := lv_entry [.ref (ad 0), .int (Int32.ofInt t), .int (Int32.ofInt k), .ref (ad 141)] (n := 5) (Nat.le_of_ble_eq_true rfl)
  generalize (lg_sl [Value.ref (ad 0), .int (Int32.ofInt t), .int (Int32.ofInt k), .ref (ad 141)] ++ List.replicate (5 - (lg_sl [Value.ref (ad 0), .int (Int32.ofInt t), .int (Int32.ofInt k), .ref (ad 141)]).length) Slot.unset).toArray = ls at hl0 ⊢
  have hl0 : lv_has ls 5 [(0, .ref (ad 0)), (1, .int (Int32.ofInt t)), (2, .int (Int32.ofInt k)), (3, .ref (ad 141))] := hl0
  refine lv_aload_n (i := 3) B.exec B.bytes dLt_0 rfl (lv_at hl0 3 rfl) ?_
  refine lv_iconst (v := 0) B.exec B.bytes dLt_1 rfl ?_
  refine lv_aload_n (i := 0) B.exec B.bytes dLt_2 rfl (lv_at hl0 0 rfl) ?_
  refine lv_iload_n (i := 1) B.exec B.bytes dLt_3 rfl (lv_at hl0 1 rfl) ?_
  refine lv_iload_n (i := 2) B.exec B.bytes dLt_4 rfl (lv_at hl0 2 rfl) ?_
  obtain ⟨wl, hok⟩ : Cond.methodLink (am_cn (am_own 275)) 7 (am_M 90).1 ∈ am_ts ∧ am_mok 2 2 (am_M 90) := am_pool_ok (m := 275) (idx := 7) (e := (2, 90, 2, 0, 1223)) rfl
  obtain ⟨k1, k2, k3, k4, k5, k6, k7, k8, k9⟩ := id hok
  have hcy : am_isk (am_kl (SH, ρ, μ, cs) 0) 9 = true := rfl
  obtain ⟨b1, b2, b3, b4⟩ := am_obj_at (cy := cy) (ad := ad) hG (by decide : 9 < 11) hcy
  have hrc := va_recv hK hP (am_Tf_at 9 (by decide)) b3
  have cw := cwV (R := { frames := 110, cells := 1, slots := 6, locals := 4400 }) (s := s) (args := _) (own := RL) (C := (am_M 90).1.cls) (index := 7) (y := (am_M 90).1) (bytes := (am_M 90).2.1) (maxL := (am_M 90).2.2.1) (ret := (am_M 90).2.2.2.1) (Ts := am_ts) (ws := Cond.code (am_M 90).1 (am_M 90).2.1 (am_M 90).2.2.1 (am_M 90).2.2.2.1 :: am_ts) (rm := { frames := 100, cells := 1, slots := 6, locals := 4000 }) (mc := 1) (ms := 6) 2 hts (by
      intro x hx9
      unfold wsV at hx9
      rcases List.mem_append.mp hx9 with hx9 | hx9
      · rcases List.mem_cons.mp hx9 with e9 | hx9
        · rw [e9]; exact am_good wl
        · rcases List.mem_cons.mp hx9 with e9 | hx9
          · rw [e9]; exact am_good k8.1
          · rcases List.mem_cons.mp hx9 with e9 | hx9
            · rw [e9]; exact am_good k8.2
            · rw [List.mem_singleton.mp hx9]; exact am_good k4
      · exact am_goodc k3 x hx9) rfl rfl rfl ⟨rfl, k5.1, k5.2, k7⟩ ⟨Nat.le_of_ble_eq_true rfl, Nat.le_of_ble_eq_true rfl⟩
  have hM := X_thing90 (D := D) (cy := cy) (ad := ad) (sz := s.heap.size) (a1 := a1) (a2 := a2) hl hR hG ht hk
  have hAin : ∀ q, va_A (am_ws cy ad (SH, ρ, μ, cs)) s.heap.size q → va_A (am_ws cy ad (SH, ρ, μ, cs)) s.heap.size q := fun _ hq => hq
  have hS0 : va_S (va_A (am_ws cy ad (SH, ρ, μ, cs)) s.heap.size) s.heap s.heap [] := va_S.rf
  refine vx_calli (vx_runV (As := [.int (Int32.ofInt t), .int (Int32.ofInt k)]) (rest := [.int 0, .ref (ad 141)]) ⟨B.exec, B.bytes, hml, hown, hts⟩ hM cw ⟨th_blind, hrc, fun U hU hW => ⟨rfl, am_Pq_at hRp hU hW, vy_E_move hE hW (fun a _ _ => by rw [hU]) hAin⟩⟩ rfl rfl hl0.1 rfl (lv_room (Nat.le_of_ble_eq_true rfl)) dLt_5 ⟨Nat.le_of_ble_eq_true rfl, Nat.le_of_ble_eq_true rfl⟩) hS0 (fun q _ hq => hq) hAin (fun q _ hq => hq) ?_ ?_
  · intro E ce q9 _ t9 H1 locs1 ht9 hvm _ hBX hz1 hk1 hS1 hcell hcv hcl
    obtain ⟨hv, hP1⟩ := hBX
    rw [ht9] at hP1
    rcases hv with ⟨ev, rfl⟩ | ⟨ev, rfl⟩
    · have eh : lt_h S W0 t k (SH, ρ, μ, cs) = (SH, ρ, μ, cs) := by unfold lt_h; rw [ev, if_neg (by decide)]
      refine vx_catch (own := RL) (name := "java/lang/IndexOutOfBoundsException") hown [] (⟨0, 10, 13, 13⟩ : ExceptionTableEntry) [(⟨0, 10, 17, 15⟩ : ExceptionTableEntry)] (by rw [htab]; rfl) (fun z hz => by cases hz) rfl (by decide) (hts _ lt_w2) (va_Nw.use rfl hE.2.2.2.2.2.1) hcell hcv hcl ?_
      refine lv_astore (lv' := [(4, .ref q9), (0, .ref (ad 0)), (1, .int (Int32.ofInt t)), (2, .int (Int32.ofInt k)), (3, .ref (ad 141))]) B.exec B.bytes dLt_13 hl0 (by decide) rfl (fun ls1 hl1 => ?_)
      refine lv_iconst (v := 1) B.exec B.bytes dLt_15 rfl ?_
      refine vx_ret ?_
      exact W.zret B.exec B.bytes B.returns rfl (fun t8 ht8 hW8 => ⟨⟨_, (), rfl, ⟨by rw [ev]; rfl, by rw [eh]; exact hG⟩, by show va_P D vwCl _ t8.heap ∧ _; rw [eh, ht8]; exact ⟨hP1, hD0.self⟩⟩, hS1.F ht8⟩) hS1.2.2 dLt_16 hlocks
    · have eh : lt_h S W0 t k (SH, ρ, μ, cs) = (SH, ρ, μ, cs) := by unfold lt_h; rw [ev, if_neg (by decide)]
      refine vx_catch (own := RL) (name := "java/util/NoSuchElementException") hown [(⟨0, 10, 13, 13⟩ : ExceptionTableEntry)] (⟨0, 10, 17, 15⟩ : ExceptionTableEntry) [] (by rw [htab]; rfl) (fun z hz => by
          rw [List.mem_singleton.mp hz]
          exact Or.inr ⟨by decide, "java/lang/IndexOutOfBoundsException", hts _ lt_w2, hE.2.2.2.2.2.2.2⟩) rfl (by decide) (hts _ lt_w3) (va_Nw.use rfl hE.2.2.2.2.2.2.1) hcell hcv hcl ?_
      refine lv_astore (lv' := [(4, .ref q9), (0, .ref (ad 0)), (1, .int (Int32.ofInt t)), (2, .int (Int32.ofInt k)), (3, .ref (ad 141))]) B.exec B.bytes dLt_17 hl0 (by decide) rfl (fun ls1 hl1 => ?_)
      refine lv_iconst (v := 2) B.exec B.bytes dLt_19 rfl ?_
      refine vx_ret ?_
      exact W.zret B.exec B.bytes B.returns rfl (fun t8 ht8 hW8 => ⟨⟨_, (), rfl, ⟨by rw [ev]; rfl, by rw [eh]; exact hG⟩, by show va_P D vwCl _ t8.heap ∧ _; rw [eh, ht8]; exact ⟨hP1, hD0.self⟩⟩, hS1.F ht8⟩) hS1.2.2 dLt_20 hlocks
  · intro r _ t9 H1 locs1 ht9 hvm hr hP1 hz1 hk1 hS1
    obtain ⟨ev, er, eR⟩ := hr
    rw [ht9] at hP1
    subst er
    have eh : lt_h S W0 t k (SH, ρ, μ, cs) = am_wr (SH, ρ, μ, cs) 141 0 (thgA S W0 t k) := by unfold lt_h; rw [if_pos ev]
    have hRp1 : am_Rp D cy ad (va_A (am_ws cy ad (SH, ρ, μ, cs)) s.heap.size) s (SH, ρ, μ, cs) H1 locs1 := ⟨hK, hP1, hD0.self, hS1, fun q hq => Or.inr hq, hG, hXx⟩
    refine lv_i2l (v := Int64.ofInt (thgA S W0 t k)) B.exec B.bytes dLt_8 (am_i2l_eq eR) ?_
    refine w_last (q := 141) B.exec B.bytes dLt_9 hRp1 rfl rfl ⟨by have := eR.1; omega, by have := eR.2; omega⟩ (fun H2 locs2 hR2 => ?_)
    obtain ⟨f1, f2, f3, f4, f5, f6, f7⟩ := hR2
    refine lv_goto (tgt := 21) B.exec B.bytes dLt_10 rfl ?_
    refine lv_iconst (v := 0) B.exec B.bytes dLt_21 rfl ?_
    refine vx_ret ?_
    exact W.zret B.exec B.bytes B.returns rfl (fun t8 ht8 hW8 => ⟨⟨_, (), rfl, ⟨by rw [ev]; rfl, by rw [eh]; exact f6⟩, by show va_P D vwCl _ t8.heap ∧ _; rw [eh, ht8]; exact ⟨f2, f3⟩⟩, f4.F ht8⟩) f4.2.2 dLt_22 hlocks
end CLU
