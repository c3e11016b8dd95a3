/-! THE LAW'S LOOP -/
def lw_Q (_ : Array Value) (s : State) (o : Outcome) (t : State) : Prop := o = .returned (some (.int 1)) ∧ Framed s o t [] 601024 7293034
def lw_Z (below : List Frame) (a : Array Value) (s : State) : State → Prop := fun t => ∃ o, t.status = .running ∧ Ended t below o ∧ lw_Q a s o t
/-- the law's own end, with 1 on the stack, nothing written that was there before, its room as the claim has it -/
theorem lw_ret {p : Program} {l : Launch} {e : Env} {s : State} {m : MethodId} {below : List Frame} {meth : Method} {c : Code} {b : Nat} (hx : p.tables.exec = Jvm.exec) (hb : c.code = code) (hr : meth.sig.returnType = ret) (hlocks : meth.locks = false) {pc : Nat} {H : Heap} {ls : Array Slot} (hdg : decode code pc = .ok (.ireturn, 1)) : W p l e room_1 s m #[Value.ref b] below meth c H [] 601024 7293034 (lw_Z below #[Value.ref b] s) (F0 m pc ls [.int 1]) := by
  intro T hT X
  obtain ⟨fs, hret, hrun, hended, hW, hframe⟩ := X.leave (v := some (.int 1)) (hlocks := hlocks) (fun h => by rw [hr] at h; cases h)
  have hmeth' : T.vm.method? m = some meth := X.method'
  refine ⟨T.setFrames fs, ?_, .returned (some (.int 1)), hrun, hended, rfl, ⟨_, rfl⟩, hW, hframe⟩
  jvm_step X.here [X.here.top, hx, hb, hdg, hmeth', hr, ret, narrow_b1]
  (try refine ⟨rfl, ?_⟩); (try refine ⟨rfl, ?_⟩)
  first | (intro acts; rw [hret _ acts rfl rfl rfl]) | rw [hret _ _ rfl rfl rfl]
  exact Steps.refl _
theorem am_dec276 : am_dec 276 := am_d276
abbrev lw_lv (i : Int) : am_L := [some (.inr (.inr 1000000)), some (.inr (.inr 0)), some (.inr (.inr 99)), some (.inr (.inr 141)), some (.inl i), none, none]
theorem lw_hi {lv : am_L} {i : Int} (h : am_hi lv = some i) : 0 ≤ i ∧ lv.getD 0 none = some (.inr (.inr 1000000)) ∧ lv.getD 1 none = some (.inr (.inr 0)) ∧ lv.getD 2 none = some (.inr (.inr 99)) ∧ lv.getD 3 none = some (.inr (.inr 141)) ∧ lv.getD 4 none = some (.inl i) := by
  have lb : ∀ k p, am_lb lv k p = true → lv.getD k none = some (.inr (.inr p)) := by
    intro k p hk
    unfold am_lb at hk
    split at hk
    · rename_i q hq
      rw [hq, Nat.eq_of_beq_eq_true hk]
    · cases hk
  unfold am_hi at h
  split at h
  · rename_i j hj
    cases hc : (am_lb lv 0 1000000 && (am_lb lv 1 0 && (am_lb lv 2 99 && (am_lb lv 3 141 && decide (0 ≤ j))))) with
    | false => rw [hc] at h; cases h
    | true =>
      rw [hc] at h
      have e : j = i := Option.some.inj h
      subst e
      simp only [Bool.and_eq_true, decide_eq_true_eq] at hc
      obtain ⟨c0, c1, c2, c3, c4⟩ := hc
      exact ⟨c4, lb _ _ c0, lb _ _ c1, lb _ _ c2, lb _ _ c3, hj⟩
  · cases h
theorem lw_lr {ad : Nat → Nat} {n : Nat} {ls : Array Slot} {lv : am_L} {i : Int} (hl : am_lr ad n ls 7 lv) (h : am_hi lv = some i) : am_lr ad n ls 7 (lw_lv i) := by
  obtain ⟨-, h0, h1, h2, h3, h4⟩ := lw_hi h
  have key : ∀ (j : Nat) (v : am_V), (lw_lv i).getD j none = some v → lv.getD j none = some v := by
    intro j v hv
    match j, hv with
    | 0, hv => cases hv; exact h0
    | 1, hv => cases hv; exact h1
    | 2, hv => cases hv; exact h2
    | 3, hv => cases hv; exact h3
    | 4, hv => cases hv; exact h4
    | 5, hv => cases hv
    | 6, hv => cases hv
    | j + 7, hv => cases hv
  refine ⟨rfl, ⟨hl.2.1.1, hl.2.1.2.1, fun q hq => ?_⟩, fun j v hv => hl.2.2 j v (key j v hv)⟩
  obtain ⟨v, hv, he⟩ := am_al_mem.mp hq
  exact hl.2.1.2.2 q (am_al_mem.mpr ⟨v, key _ _ hv, he⟩)
section CLP
variable {l : Launch} {p : Program} {e : Env} {s : State} {mt : MethodId} {args : Array Value} {below : List Frame} {meth : Method} {c : Code} {D : va_G} {cy : Nat → ClassId} {a1 a2 L : Nat} {bb : Nat}
/-- one step more in the script -/
theorem lw_next {Q : State → Prop} {R : Room} {ad : Nat → Nat} {H : Heap} {locs : List Loc} {cells slots nn : Nat} {ls : Array Slot} {i : Int} (hC : am_C p s mt args meth c 276) (hl : am_lr ad nn ls 7 (lw_lv i)) (i0 : 0 ≤ i) (i1 : i < 100000)
    (kk : ∀ ls1, am_lr ad nn ls1 7 (lw_lv (i + 6)) → W p l e R s mt args below meth c H locs cells slots Q (F0 mt 23 ls1 [])) : W p l e R s mt args below meth c H locs cells slots Q (F0 mt 1533 ls []) := by
  obtain ⟨hex, hcb, -⟩ := hC
  have h5 := hl.2.1
  have e5 : am_al ad (lw_lv i) = [(0, am_av ad (.inr (.inr 1000000))), (1, am_av ad (.inr (.inr 0))), (2, am_av ad (.inr (.inr 99))), (3, am_av ad (.inr (.inr 141))), (4, .int (Int32.ofInt i))] := rfl
  rw [e5] at h5
  refine lv_iinc (k := 4) (x := Int32.ofInt i) (v := Int32.ofInt (i + 6)) (lv' := [(4, .int (Int32.ofInt (i + 6))), (0, am_av ad (.inr (.inr 1000000))), (1, am_av ad (.inr (.inr 0))), (2, am_av ad (.inr (.inr 99))), (3, am_av ad (.inr (.inr 141)))]) hex hcb (am_code_dec am_dec276 (pc := 1533) (i := .iinc 4 6) (n := 3) rfl) h5 rfl (by rw [Int32.ofInt_add]) (by decide) rfl (fun ls1 hl1 => ?_)
  refine lv_goto (tgt := 23) hex hcb (am_code_dec am_dec276 (pc := 1536) (i := .goto (-1513)) (n := 3) rfl) rfl ?_
  refine kk ls1 ⟨rfl, ?_, fun j v hv => ?_⟩
  · exact lv_sub hl1 [1, 2, 3, 4, 0] rfl
  · match j, hv with
    | 0, hv => cases hv; exact hl.2.2 0 _ rfl
    | 1, hv => cases hv; exact hl.2.2 1 _ rfl
    | 2, hv => cases hv; exact hl.2.2 2 _ rfl
    | 3, hv => cases hv; exact hl.2.2 3 _ rfl
    | 4, hv => cases hv; exact ⟨by omega, by omega⟩
    | 5, hv => cases hv
    | 6, hv => cases hv
    | j + 7, hv => cases hv
theorem lw_wS : GoodIn am_ts (va_wsS RL 39 yL_thing lt_ws) := by
  intro x hx9
  unfold va_wsS at hx9
  rcases List.mem_append.mp hx9 with hx9 | hx9
  · rcases List.mem_cons.mp hx9 with e9 | hx9
    · rw [e9]; exact am_good (am_ts_of (am_in5 (List.mem_of_getElem? (i := 143) (by decide +kernel))) (by decide +kernel))
    · rcases List.mem_cons.mp hx9 with e9 | hx9
      · rw [e9]; exact am_good (am_ts_of (am_in5 (List.mem_of_getElem? (i := 144) (by decide +kernel))) (by decide +kernel))
      · rw [List.mem_singleton.mp hx9]; exact am_good (am_ts_of (am_in1 (List.mem_of_getElem? (i := 0) (by decide +kernel))) (by decide +kernel))
  · exact am_goodc lt_w1 x hx9
theorem law_loop (hlf : l.stackTraces = false) (hC : am_C p s mt #[Value.ref bb] meth c 276) (hret : meth.sig.returnType = ret) (hE : vy_E (fun q => s.heap.size ≤ q) a1 a2 s s.heap) (hL : L ≤ 3072) : ∀ (n i : Nat), L + 6 ≤ i + n → i ≤ L + 6 →
    ∀ (ρ : Nat → Nat → Nat) (μ : Nat → Nat → Int) (cells slots : Nat) (ad : Nat → Nat) (H : Heap) (locs : List Loc) (ls : Array Slot), RA ρ μ → am_Rp D cy ad (fun q => s.heap.size ≤ q) s (SH, ρ, μ, (cells, slots, L)) H locs → cells + n ≤ 601024 → slots + 6 * n ≤ 7293034 → am_lr ad (SH : List (Nat × Nat)).length ls 7 (lw_lv (i : Int)) →
    W p l e room_1 s mt #[Value.ref bb] below meth c H locs cells slots (lw_Z below #[Value.ref bb] s) (F0 mt 23 ls []) := by
  intro n
  induction n using Nat.strongRecOn with
  | ind n ih =>
    intro i hn hi ρ μ cells slots ad H locs ls hRA hRp hcl hsl hl
    have hdC : 301 ≤ room_1.frames ∧ 40 * 301 ≤ room_1.locals := ⟨Nat.le_of_ble_eq_true rfl, Nat.le_of_ble_eq_true rfl⟩
    have hBnd : ∀ j, μ 1000000 j < 2147483648 := fun j => (hRp.2.2.2.2.2.1.2.2 1000000 j (Nat.le_refl _)).2
    by_cases c6 : (i : Int) + 6 ≤ ((cells, slots, L) : Nat × Nat × Nat).2.2
    · have c6' : i + 6 ≤ L := by have : (i : Int) + 6 ≤ (L : Int) := c6; omega
      have go : ∀ (ρ' : Nat → Nat → Nat) (μ' : Nat → Nat → Int) (cells' slots' : Nat) (ad' : Nat → Nat) (H' : Heap) (locs' : List Loc) (ls' : Array Slot), RA ρ' μ' → am_Rp D cy ad' (fun q => s.heap.size ≤ q) s (SH, ρ', μ', (cells', slots', L)) H' locs' → cells' ≤ cells + 1 → slots' ≤ slots + 6 → am_lr ad' (SH : List (Nat × Nat)).length ls' 7 (lw_lv (i : Int)) → W p l e room_1 s mt #[Value.ref bb] below meth c H' locs' cells' slots' (lw_Z below #[Value.ref bb] s) (F0 mt 1533 ls' []) := by
        intro ρ' μ' cells' slots' ad' H' locs' ls' g1 g2 g3 g4 g5
        refine lw_next hC g5 (by omega) (by omega) (fun ls1 hl1 => ?_)
        exact ih (n - 6) (by omega) (i + 6) (by omega) (by omega) ρ' μ' cells' slots' ad' H' locs' ls1 g1 g2 (by omega) (by omega) (by rw [show ((i + 6 : Nat) : Int) = (i : Int) + 6 by omega]; exact hl1)
      have go2 : ∀ (ρ' : Nat → Nat → Nat) (μ' : Nat → Nat → Int) (cells' slots' : Nat), RA ρ' μ' → cells' ≤ cells + 1 → slots' ≤ slots + 6 → ∀ (m9 pc9 : Nat) (lv9 : am_L) (st9 : List am_V) (h9 : am_H) (ad9 : Nat → Nat) (H9 : Heap) (locs9 : List Loc) (ls9 : Array Slot), am_x m9 301 276 pc9 lv9 st9 h9 = some (some (.inr (.inr (2 * i))), (SH, ρ', μ', (cells', slots', L))) → h9.2.2.2 = (cells', slots', L) → am_Rp D cy ad9 (fun q => s.heap.size ≤ q) s h9 H9 locs9 → am_lr ad9 h9.1.length ls9 7 lv9 → am_so h9.1.length st9 → W p l e room_1 s mt #[Value.ref bb] below meth c H9 locs9 cells' slots' (lw_Z below #[Value.ref bb] s) (F0 mt pc9 ls9 (st9.map (am_av ad9))) := by
        intro ρ' μ' cells' slots' r1 r2 r3 m9 pc9 lv9 st9 h9 ad9 H9 locs9 ls9 hx hcs hR9 hl9 hs9
        refine am_sound l m9 301 276 pc9 lv9 st9 h9 _ hx p e room_1 s mt _ below meth c _ D cy (fun q => s.heap.size ≤ q) 0 0 ad9 H9 locs9 cells' slots' ls9 ⟨hC, am_dec276, hR9, hdC, ⟨by rw [hcs]; rfl, by rw [hcs]; rfl⟩, ⟨?_, ?_⟩, ⟨?_, fun _ => ?_⟩⟩ hl9 hs9
        · show cells' ≤ 601024 + 0
          omega
        · show slots' ≤ 7293034 + 0
          omega
        · intro pc8 ad8 H8 locs8 ls8 cells8 slots8 k1 k2 k3 k4 k5 k6
          exact absurd k6 (fun z => z)
        · intro pc8 ad8 H8 locs8 ls8 cells8 slots8 lv8 st8 i8 k1 k2 k3 k4 k5 k6 k7 k8
          have k3 : cells8 + 0 = cells' := k3
          have k4 : slots8 + 0 = slots' := k4
          have ec : cells8 = cells' := by omega
          have es : slots8 = slots' := by omega
          subst ec
          subst es
          obtain ⟨j0, -⟩ := lw_hi k7
          rcases k8 with ⟨rfl, rfl, e8⟩ | ⟨-, -, e8⟩
          · have e8 : 2 * i = 2 * i8.toNat := Sum.inr.inj (Sum.inr.inj (Option.some.inj e8))
            have e9 : i8 = (i : Int) := by omega
            subst e9
            exact go ρ' μ' cells8 slots8 ad8 H8 locs8 ls8 r1 k2 r2 r3 (lw_lr k5 k7)
          · have e8 : 2 * i = 2 * i8.toNat + 1 := Sum.inr.inj (Sum.inr.inj (Option.some.inj e8))
            omega
      rcases LW_all (d := 0) (cs := (cells, slots, L)) hRA (i := (i : Int)) (by omega) c6 (by show L < 2147483648; omega) hBnd with ⟨ρ', μ', q1, q2, q3⟩ | q3
      · obtain ⟨m9, hm9⟩ := am_E_iff.mp q3
        exact go2 ρ' μ' cells slots q1 (by omega) (by omega) m9 23 _ [] _ ad H locs ls hm9 rfl hRp hl (fun v hv => by cases hv)
      · obtain ⟨m9, hm9⟩ := am_E_iff.mp q3
        refine am_sound l m9 301 276 23 _ [] _ _ hm9 p e room_1 s mt _ below meth c _ D cy (fun q => s.heap.size ≤ q) 0 0 ad H locs cells slots ls ⟨hC, am_dec276, hRp, hdC, ⟨rfl, rfl⟩, ⟨?_, ?_⟩, ⟨?_, fun _ => ?_⟩⟩ hl (fun v hv => by cases hv)
        · show cells ≤ 601024 + 0
          omega
        · show slots ≤ 7293034 + 0
          omega
        · intro pc8 ad8 H8 locs8 ls8 cells8 slots8 k1 k2 k3 k4 k5 k6
          exact absurd k6 (fun z => z)
        · intro pc8 ad8 H8 locs8 ls8 cells8 slots8 lv8 st8 i8 k1 k2 k3 k4 k5 k6 k7 k8
          have k3 : cells8 + 0 = cells := k3
          have k4 : slots8 + 0 = slots := k4
          have ec : cells8 = cells := by omega
          have es : slots8 = slots := by omega
          subst ec
          subst es
          obtain ⟨j0, -⟩ := lw_hi k7
          rcases k8 with ⟨-, -, e8⟩ | ⟨rfl, rfl, e8⟩
          · have e8 : 2 * (i : Int).toNat + 1 = 2 * i8.toNat := Sum.inr.inj (Sum.inr.inj (Option.some.inj e8))
            omega
          · have e8 : 2 * (i : Int).toNat + 1 = 2 * i8.toNat + 1 := Sum.inr.inj (Sum.inr.inj (Option.some.inj e8))
            have e9 : i8 = (i : Int) := by omega
            subst e9
            obtain ⟨b, w, u, S, W0, hAx⟩ := hRA
            obtain ⟨hex, hcb, hml, hown, hts, hnm⟩ := id hC
            obtain ⟨hK, hP, hD, hS, hA, hG, hXx⟩ := id k2
            have k2' : am_Rp D cy ad8 (fun q => s.heap.size ≤ q) s (SH, ρ, μ, (cells8, slots8, L)) H8 locs8 := k2
            have hG' : am_G (SH, ρ, μ, (cells8, slots8, L)) := hG
            have hD' : va_D (fun q => s.heap.size ≤ q) (am_ws cy ad8 (SH, ρ, μ, (cells8, slots8, L))) := hD
            have et : μ 1000000 ((i : Int) + 1).toNat = μ 1000000 (i + 1) := by rw [show ((i : Int) + 1).toNat = i + 1 by omega]
            have ek : μ 1000000 ((i : Int) + 2).toNat = μ 1000000 (i + 2) := by rw [show ((i : Int) + 2).toNat = i + 2 by omega]
            have ht : am_R32 (μ 1000000 (i + 1)) := hG'.2.2 1000000 _ (Nat.le_refl _)
            have hk : am_R32 (μ 1000000 (i + 2)) := hG'.2.2 1000000 _ (Nat.le_refl _)
            have hM := X_Lthing (D := D) (cy := cy) (ad := ad8) (sz := H8.size) (a1 := a1) (a2 := a2) (cs := (cells8, slots8, L)) hlf hAx hG' ht hk
            have cw := vx_cwSW (R := room_1) (s := s) (args := #[Value.ref bb]) (own := RL) (index := 39) (y := yL_thing) (bytes := cL_thing) (maxL := 5) (ret := some .int) (hh := lt_tab) (Ts := am_ts) (ws := lt_ws) (rm := { frames := 110, cells := 1, slots := 6, locals := 4400 }) (mc := 1) (ms := 6) 4 hts lw_wS rfl rfl rfl ⟨by decide, by decide, by decide +kernel⟩ ⟨Nat.le_of_ble_eq_true rfl, Nat.le_of_ble_eq_true rfl⟩
            have hin := am_A_in hD' hS hA
            show W p l e room_1 s mt #[Value.ref bb] below meth c H8 locs8 cells8 slots8 (lw_Z below #[Value.ref bb] s) (F0 mt 374 ls8 [.ref (ad8 141), .int (Int32.ofInt (μ 1000000 (i + 2))), .int (Int32.ofInt (μ 1000000 (i + 1))), .ref (ad8 0)])
            refine vx_calli (vx_runSX (As := [.ref (ad8 0), .int (Int32.ofInt (μ 1000000 (i + 1))), .int (Int32.ofInt (μ 1000000 (i + 2))), .ref (ad8 141)]) (rest := []) ⟨hex, hcb, hml, hown, hts⟩ hM cw ⟨th_blind, fun U hU hW => ⟨rfl, am_Pq_at k2' hU hW, vy_E_move hE hW (fun a h1 h2 => by rw [hU]; exact hS.2.1 a h1 h2) hin⟩⟩ rfl rfl k5.2.1.1 rfl (lv_room (Nat.zero_le _)) (am_code_dec am_dec276 (pc := 374) (i := .invokestatic 39) (n := 3) rfl) ⟨by show cells8 + 1 ≤ 601024; omega, by show slots8 + 6 ≤ 7293034; omega⟩) hS (fun q _ hq => hin q hq) hin (fun q _ hq => hq.elim) (fun E ce q9 u9 t9 H1 locs1 _ _ hpx => hpx.elim) ?_
            intro r9 _ t9 H1 locs1 ht9 hvm hr hB hz1 hk1 hS1
            obtain ⟨er, eG⟩ := hr
            obtain ⟨eP, eD⟩ := hB
            rw [ht9] at eP
            subst er
            obtain ⟨μ1, e1, hm1⟩ : ∃ μ1, μ1 = (if thc S (μ 1000000 (i + 1)) (μ 1000000 (i + 2)) = 0 then am_up μ 141 0 (thgA S W0 (μ 1000000 (i + 1)) (μ 1000000 (i + 2))) else μ) ∧ lt_h S W0 (μ 1000000 (i + 1)) (μ 1000000 (i + 2)) (SH, ρ, μ, (cells8, slots8, L)) = (SH, ρ, μ1, (cells8, slots8, L)) := by
              refine ⟨_, rfl, ?_⟩
              unfold lt_h am_wr
              by_cases cz : thc S (μ 1000000 (i + 1)) (μ 1000000 (i + 2)) = 0
              · rw [if_pos cz, if_pos cz]
              · rw [if_neg cz, if_neg cz]
            rw [hm1] at eP eD eG
            obtain ⟨μ', p1, p2, p3⟩ := LT (d := 0) (cs := (cells8 + 1, slots8 + 6, L)) hAx (i := (i : Int)) (by omega) c6 (by show L < 2147483648; omega) et ek e1
            have hR1 : am_Rp D cy ad8 (fun q => s.heap.size ≤ q) s (SH, ρ, μ1, (cells8 + 1, slots8 + 6, L)) H1 locs1 := by
              refine ⟨hK, eP, eD.weaken (fun k q _ hq => hin q.1 hq), hS1, hA, eG, ?_⟩
              obtain ⟨z1, z2, tt, n1, n2, yy⟩ := hXx
              refine ⟨z1, z2, fun k hk3 => ?_, n1, n2, yy⟩
              have := tt k hk3
              have e0 : ∀ j, μ1 (1000000 + k) j = μ (1000000 + k) j := by
                intro j
                rw [e1]
                by_cases cz : thc S (μ 1000000 (i + 1)) (μ 1000000 (i + 2)) = 0
                · rw [if_pos cz]
                  exact if_neg (by omega)
                · rw [if_neg cz]
              show va_T .int (ad8 (1000000 + k)) (am_ks SH L (1000000 + k)).2 (fun j => .int (Int32.ofInt (μ1 (1000000 + k) j))) _ s s.heap
              rw [show (fun j => Value.int (Int32.ofInt (μ1 (1000000 + k) j))) = fun j => Value.int (Int32.ofInt (μ (1000000 + k) j)) from funext fun j => by rw [e0]]
              exact this
            obtain ⟨m7, hm7⟩ := am_E_iff.mp p3
            exact go2 ρ μ' (cells8 + 1) (slots8 + 6) p1 (by omega) (by omega) m7 377 _ [.inl (thc S (μ 1000000 (i + 1)) (μ 1000000 (i + 2)))] _ ad8 H1 locs1 ls8 hm7 rfl hR1 (lw_lr k5 k7) (fun v hv => by
              rw [List.mem_singleton.mp hv]
              show am_R32 (thc S (μ 1000000 (i + 1)) (μ 1000000 (i + 2)))
              unfold thc am_R32
              repeat' split
              all_goals omega)
    · have q3 := LW_end (d := 0) (ρ := ρ) (μ := μ) (cs := (cells, slots, L)) (i := (i : Int)) c6 (by show L < 2147483648; omega)
      obtain ⟨m9, hm9⟩ := am_E_iff.mp q3
      refine am_sound l m9 301 276 23 _ [] _ _ hm9 p e room_1 s mt _ below meth c _ D cy (fun q => s.heap.size ≤ q) 0 0 ad H locs cells slots ls ⟨hC, am_dec276, hRp, hdC, ⟨rfl, rfl⟩, ⟨?_, ?_⟩, ⟨?_, fun _ => ?_⟩⟩ hl (fun v hv => by cases hv)
      · show cells ≤ 601024 + 0
        omega
      · show slots ≤ 7293034 + 0
        omega
      · intro pc8 ad8 H8 locs8 ls8 cells8 slots8 k1 k2 k3 k4 k5 k6
        have k3 : cells8 + 0 = cells := k3
        have k4 : slots8 + 0 = slots := k4
        refine va_forget (fun q hq => k2.2.2.2.1.2.2 q hq) ?_
        refine W.widen (k := 601024) (n := 7293034) (by omega) (by omega) ?_
        exact lw_ret hC.1 hC.2.1 hret hC.2.2.2.2.2.2.2 k6.1
      · intro pc8 ad8 H8 locs8 ls8 cells8 slots8 lv8 st8 i8 k1 k2 k3 k4 k5 k6 k7 k8
        rcases k8 with ⟨-, -, e8⟩ | ⟨-, -, e8⟩
        · cases e8
        · cases e8
end CLP
