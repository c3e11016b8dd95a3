def lw_P (b : Addr) (xs : List Int32) (args : Array Value) (s : State) : Prop := args = #[.ref b] ∧ s.IntsAt b xs ∧ xs.length ≤ 3072 ∧ (Jvm.Cond.and given_1 narrow_1).before args s = true
/-- what holds at the law's entry: the machine, the code, the tables' words (any of lw_tbl by 'hts w (by decide +kernel)'), the script of L ints xs at the cell b, what the Statement gives of the start (any of its parts by flat_of_before) -/
def lw_At (p : Program) (s : State) (m : MethodId) (meth : Method) (c : Code) (b L : Nat) (xs : Nat → Int32) : Prop :=
  p.tables.exec = Jvm.exec ∧ c.code = code ∧ meth.sig.returnType = ret ∧ c.maxLocals = 7 ∧ s.vm.findClass RL = some m.cls ∧ (∀ w ∈ lw_tbl, w.before #[Value.ref b] s = true) ∧ va_X b L xs s s.heap ∧ b < s.heap.size ∧ meth.locks = false ∧ meth.name = "law" ∧ (Jvm.Cond.and given_1 narrow_1).before #[Value.ref b] s = true
theorem whole_start {p : Program} {e : Env} {s : State} {m : MethodId} {below : List Frame} {meth : Method} {c : Code} (l : Launch) (hflags : l.flags = flags0) {b L : Nat} {xs : Nat → Int32} (hL : L ≤ 3072) (C0 : lw_At p s m meth c b L xs) : W p l e room_1 s m #[Value.ref b] below meth c s.heap [] 0 0 (lw_Z below #[Value.ref b] s) (entryFrame m ([Value.ref b] : List Value).toArray 7) := by
  obtain ⟨hx, hb, hr, hml, hown, hts, hX, hbl, hlocks, hnm, hgv⟩ := id C0
  have htsA : ∀ w ∈ am_ts, w.before #[Value.ref b] s = true := fun w hw => hts w (List.mem_filter.mp hw).1
  obtain ⟨D, cy, hK⟩ := am_K0 htsA
  obtain ⟨adx, a1, a2, z1, z2, T0, T1, T2, n1, n2, yy, hE⟩ := am_start hts hgv hX hbl hL
  have hlf : l.stackTraces = false := by unfold Launch.stackTraces; rw [hflags]; decide
  have hC : am_C p s m #[Value.ref b] meth c 276 := ⟨hx, hb, hml, hown, htsA, hnm, hr, hlocks⟩
  have hb : c.code = (am_M 276).2.1 := hC.2.1
  have hRp := zb_Rp (A := fun q => s.heap.size ≤ q) hK (fun _ h => h) z1 z2 T1 T2 n1 n2 yy
  obtain ⟨h1, h2, r1, r2, l1, l2, hk, c1, c2⟩ := zb_run
  have hl := lv_entry ([.ref b]) (n := 7) (Nat.le_of_ble_eq_true rfl)
  rw [lg_entry_eq]
  generalize (lg_sl ([.ref b]) ++ List.replicate (7 - (lg_sl ([.ref b])).length) Slot.unset).toArray = ls at hl ⊢
  have hl : lv_has ls 7 [(0, .ref b)] := hl
  have f1 : 100 + 1 ≤ room_1.frames := Nat.le_of_ble_eq_true rfl
  refine w_new (m := 276) (am_code_dec am_dec276 (pc := 0) (i := .new 8) (n := 3) rfl) (show am_pool 276 8 = some (7, 9, 16, 0, 139) from rfl) hC hRp (Nat.le_of_ble_eq_true rfl) (Nat.le_of_ble_eq_true rfl) (Nat.le_of_ble_eq_true rfl) (fun H1 q1 R1 => ?_)
  refine lv_dup hx hb (am_code_dec am_dec276 (pc := 3) (i := .dup) (n := 1) rfl) rfl ?_
  refine w_callI (m := 276) (m' := 84) (np := 0) (q := 0) (ar := []) (rest := [.ref q1]) (am_code_dec am_dec276 (pc := 4) (i := .invokespecial 17) (n := 3) rfl) (show am_pool 276 17 = some (4, 84, 0, 0, 141) from rfl) hC R1 hl.1 (by decide) rfl (fun v hv => by rw [List.mem_singleton.mp hv]; exact Or.inl (Nat.le_of_ble_eq_true rfl)) (Nat.le_of_ble_eq_true rfl) r1 (Nat.le_of_ble_eq_true rfl) f1 (Nat.le_of_ble_eq_true rfl) (by rw [c1]; exact Nat.le_of_ble_eq_true rfl) (by rw [c1]; exact Nat.le_of_ble_eq_true rfl) (fun H2 locs2 ad2 g2 R2 _ => ?_)
  have e0 : ad2 0 = q1 := (g2 0 (Or.inl (Nat.le_of_ble_eq_true rfl))).trans rfl
  refine W.widen (k := 99) (n := 3531) (by rw [c1]; exact Nat.le_of_ble_eq_true rfl) (by rw [c1]; exact Nat.le_of_ble_eq_true rfl) ?_
  show W p l e room_1 s m #[Value.ref b] below meth c H2 locs2 99 3531 (lw_Z below #[Value.ref b] s) (F0 m 7 ls [.ref q1])
  rw [← e0]
  refine lv_astore_n (i := 1) (lv' := [(1, .ref (ad2 0)), (0, .ref b)]) hx hb (am_code_dec am_dec276 (pc := 7) (i := .astore_n 1) (n := 1) rfl) rfl hl (by decide) rfl (fun ls hl => ?_)
  refine w_new (m := 276) (am_code_dec am_dec276 (pc := 8) (i := .new 18) (n := 3) rfl) (show am_pool 276 18 = some (7, 10, 67, 0, 1309) from rfl) hC R2 (by show h1.1.length < 999999; rw [l1]; decide) (Nat.le_of_ble_eq_true rfl) (Nat.le_of_ble_eq_true rfl) (fun H3 q3 R3 => ?_)
  have e3 : am_ad ad2 h1.1.length q3 99 = q3 := by unfold am_ad; rw [l1, if_pos rfl]
  have e30 : am_ad ad2 h1.1.length q3 0 = ad2 0 := by unfold am_ad; rw [l1, if_neg (by decide)]
  have l1' : (am_mk h1 10 67).1.length = 100 := by show (h1.1 ++ [(10, 67)]).length = 100; rw [List.length_append, l1]; rfl
  have c1' : (am_mk h1 10 67).2.2.2 = (100, 3598, 4) := by show (h1.2.2.2.1 + 1, h1.2.2.2.2.1 + 67, h1.2.2.2.2.2) = _; rw [c1]
  refine lv_dup hx hb (am_code_dec am_dec276 (pc := 11) (i := .dup) (n := 1) rfl) rfl ?_
  show W p l e room_1 s m #[Value.ref b] below meth c H3 locs2 (99 + 1) (3531 + 67) (lw_Z below #[Value.ref b] s) (F0 m 12 ls [.ref q3, .ref q3])
  rw [← e3]
  refine w_callI (m := 276) (m' := 139) (np := 0) (q := 99) (ar := []) (rest := [.ref (am_ad ad2 h1.1.length q3 99)]) (am_code_dec am_dec276 (pc := 12) (i := .invokespecial 20) (n := 3) rfl) (show am_pool 276 20 = some (4, 139, 0, 0, 1311) from rfl) hC R3 hl.1 (by decide) rfl (fun v hv => by rw [List.mem_singleton.mp hv]; exact Or.inl (by rw [l1']; decide)) (Nat.le_of_ble_eq_true rfl) r2 (Nat.le_of_ble_eq_true rfl) f1 (Nat.le_of_ble_eq_true rfl) (by rw [c2, c1']; exact Nat.le_of_ble_eq_true rfl) (by rw [c2, c1']; exact Nat.le_of_ble_eq_true rfl) (fun H4 locs4 ad4 g4 R4 _ => ?_)
  have e40 : ad4 0 = ad2 0 := (g4 0 (Or.inl (by rw [l1']; decide))).trans e30
  have e49 : ad4 99 = am_ad ad2 h1.1.length q3 99 := g4 99 (Or.inl (by rw [l1']; decide))
  refine W.widen (k := 141) (n := 10197) (by rw [c2, c1']; exact Nat.le_of_ble_eq_true rfl) (by rw [c2, c1']; exact Nat.le_of_ble_eq_true rfl) ?_
  show W p l e room_1 s m #[Value.ref b] below meth c H4 locs4 141 10197 (lw_Z below #[Value.ref b] s) (F0 m 15 ls [.ref (am_ad ad2 h1.1.length q3 99)])
  rw [← e40] at hl
  rw [← e49]
  refine lv_astore_n (i := 2) (lv' := [(2, .ref (ad4 99)), (1, .ref (ad4 0)), (0, .ref b)]) hx hb (am_code_dec am_dec276 (pc := 15) (i := .astore_n 2) (n := 1) rfl) rfl hl (by decide) rfl (fun ls hl => ?_)
  refine lv_iconst (v := 1) hx hb (am_code_dec am_dec276 (pc := 16) (i := .iconst 1) (n := 1) rfl) rfl ?_
  refine w_newl (m := 276) (am_code_dec am_dec276 (pc := 17) (i := .newarray .long) (n := 2) rfl) hC R4 (by show h2.1.length < 999999; rw [l2]; decide) (Nat.le_of_ble_eq_true rfl) (Nat.le_of_ble_eq_true rfl) (fun H5 q5 R5 => ?_)
  have e5 : am_ad ad4 h2.1.length q5 141 = q5 := by unfold am_ad; rw [l2, if_pos rfl]
  have e50 : am_ad ad4 h2.1.length q5 0 = ad4 0 := by unfold am_ad; rw [l2, if_neg (by decide)]
  have e59 : am_ad ad4 h2.1.length q5 99 = ad4 99 := by unfold am_ad; rw [l2, if_neg (by decide)]
  rw [← e50, ← e59] at hl
  show W p l e room_1 s m #[Value.ref b] below meth c H5 locs4 142 10198 (lw_Z below #[Value.ref b] s) (F0 m 19 ls [.ref q5])
  rw [← e5]
  refine lv_astore_n (i := 3) (lv' := [(3, .ref (am_ad ad4 h2.1.length q5 141)), (2, .ref (am_ad ad4 h2.1.length q5 99)), (1, .ref (am_ad ad4 h2.1.length q5 0)), (0, .ref b)]) hx hb (am_code_dec am_dec276 (pc := 19) (i := .astore_n 3) (n := 1) rfl) rfl hl (by decide) rfl (fun ls hl => ?_)
  refine lv_iconst (v := 0) hx hb (am_code_dec am_dec276 (pc := 20) (i := .iconst 0) (n := 1) rfl) rfl ?_
  refine lv_istore (lv' := [(4, .int 0), (3, .ref (am_ad ad4 h2.1.length q5 141)), (2, .ref (am_ad ad4 h2.1.length q5 99)), (1, .ref (am_ad ad4 h2.1.length q5 0)), (0, .ref b)]) hx hb (am_code_dec am_dec276 (pc := 21) (i := .istore 4) (n := 2) rfl) hl (by decide) rfl (fun ls hl => ?_)
  obtain ⟨-, kR, kM, -⟩ := zb_k_use hk
  refine law_loop (l := l) (D := D) (cy := cy) (a1 := a1) (a2 := a2) (L := L) (bb := b) hlf hC hr hE hL (L + 6) 0 (by omega) (by omega) (am_mk h2 23 1).2.1 (fun p j => if p = 1000000 then (xs j).toInt else (am_mk h2 23 1).2.2.1 p j) 142 10198 (fun q => if q = 1000000 then b else am_ad ad4 h2.1.length q5 q) H5 locs4 ls (zb_RA kR (fun e9 he9 => ?_)) (zb_real R5 hk T0) (by omega) (by omega) ⟨rfl, ?_, fun j v hv => ?_⟩
  · show (if e9.1 = 1000000 then _ else _) = _
    rw [if_neg ((by decide +kernel : ∀ e9 ∈ zb_M, e9.1 ≠ 1000000) e9 he9)]
    exact kM e9 he9
  · exact lv_sub hl [4, 3, 2, 1, 0] rfl
  · match j, hv with
    | 0, hv => cases hv; exact Or.inr (by decide)
    | 1, hv => cases hv; exact Or.inl (by rw [SH_len]; decide)
    | 2, hv => cases hv; exact Or.inl (by rw [SH_len]; decide)
    | 3, hv => cases hv; exact Or.inl (by rw [SH_len]; decide)
    | 4, hv => cases hv; exact am_R0
    | 5, hv => cases hv
    | 6, hv => cases hv
    | j + 7, hv => cases hv
set_option maxHeartbeats 4000000 in
theorem lw_walk (l : Launch) (hflags : l.flags = flags0) (b : Addr) (xs : List Int32) : MetFree l x (headSpec (Jvm.Cond.code x code maxLocals ret :: tables_1) room_1) (lw_P b xs) (fun _ _ _ _ _ => True) lw_Q := by
  refine MetFree.of_bodyS (code := code) (maxLocals := maxLocals) (ret := ret) (by decide) ?_ ?_
  · intro args s m h hn
    obtain ⟨meth, c, h1, h2, h3, h4, h5, h6, -, -⟩ := Cond.code_spec hn (atoms_spec (ws := Jvm.Cond.code x code maxLocals ret :: tables_1) h _ List.mem_cons_self)
    exact ⟨meth, c, h1, h2, h3, h4, h5, h6⟩
  · intro p e s m args below meth c s₁ B hml0 hP _
    obtain ⟨rfl, hx, hbd, hgv⟩ := hP
    obtain ⟨scr, harrAt, hlist, hof, hsmall⟩ := hx
    obtain ⟨hcb, hkn, -, -⟩ := State.arrayAt?_spec harrAt
    have hown : s.vm.findClass RL = some m.cls := findClass_of_methodNamed B.named
    have hts0 : ∀ c ∈ (Jvm.Cond.code x code maxLocals ret :: tables_1), c.before #[Value.ref b] s = true := atoms_spec (ws := Jvm.Cond.code x code maxLocals ret :: tables_1) B.pre
    have hts : ∀ w ∈ lw_tbl, w.before #[Value.ref b] s = true := k2_hts_sels lw_privs (fun w hw => hts0 w (List.mem_cons_of_mem _ hw)) lw_privs_ok
    have hml : c.maxLocals = 7 := B.maxLocals_eq (hts0 _ List.mem_cons_self)
    have X₀ : Stand p l e room_1 s m #[Value.ref b] below meth c s₁ [] 0 0 := Stand.of_body B
    have hh0 : s₁.heap = s.heap := by rw [B.state]; rfl
    have hsz : scr.slots.size = xs.length := by rw [← Array.length_toList, hlist, List.length_map]
    have hval : ∀ j : Nat, j < xs.length → scr.slots[j]? = some (.int (xs.getD j 0)) := fun j hj => by
      rw [← Array.getElem?_toList, hlist]
      simp [hj]
    have hbl : b < s.heap.size := (Array.getElem?_eq_some_iff.mp hcb).1
    have hX : va_X b xs.length (fun j => xs.getD j 0) s s.heap := ⟨scr, hcb, hof, hkn, hsz, hval⟩
    have K : W p l e room_1 s m #[Value.ref b] below meth c s₁.heap [] 0 0 (lw_Z below #[Value.ref b] s) (entryFrame m ([Value.ref b] : List Value).toArray 7) := by
      rw [hh0]
      exact whole_start l hflags hbd ⟨B.exec, B.bytes, B.returns, hml, hown, hts, hX, hbl, B.notSynchronized, (name_of_methodNamed B.named B.method).1, hgv⟩
    obtain ⟨t, a1, o, b1, b2, b3⟩ := K s₁ rfl X₀
    exact ⟨t, o, a1, b1, b2, b3⟩
theorem lw_pre_spec {args : Array Value} {s : State} (h : (Jvm.Cond.and given_1 narrow_1).before args s = true) (hr : rest_1_c.before args s = true) : ∃ (b : Addr) (xs : List Int32), lw_P b xs args s := by
  have hs := flat_of_before _ h
  have hq := flat_of_before _ hr
  have hc : (Cond.count 1).before args s = true := hs _ (by decide +kernel)
  have harr : (Cond.arrayOf (.arg 0) .int).before args s = true := hs _ (by decide +kernel)
  have hle : (Cond.le (.length (.arg 0)) (.int 3072)).before args s = true := hs _ (by decide +kernel)
  have hlen : (Cond.isInt (.length (.arg 0))).before args s = true := hq _ (by decide +kernel)
  have hall : (Cond.all (.arg 0) (.isInt (.elem (.arg 0) (.index 0)))).before args s = true := hq _ (by decide +kernel)
  obtain ⟨b, xs, hb, hx⟩ := State.ints_of_pre rfl harr hlen hall
  have hsm : xs.length < 2 ^ 31 := hx.choose_spec.2.2.2
  have hev : (Term.length (.arg 0)).eval args s none [] s = some (.int xs.length.toInt32) := hx.length_eval hb
  have hv := Cond.le_ints hev (show (Term.int 3072).eval args s none [] s = some (.int 3072) from rfl)
  have hd : xs.length.toInt32 ≤ 3072 := by
    simpa [Cond.before, Cond.holds, hv] using hle
  have hN : xs.length ≤ 3072 := (Int32.ofNat_le_ofNat hsm (by decide)).mp (show Int32.ofNat xs.length ≤ Int32.ofNat 3072 from hd)
  exact ⟨b, xs, Cond.one_arg hc (show args[0]? = some (.ref b) from hb), hx, hN, h⟩
theorem lw_comes (l : Launch) (hflags : l.flags = flags0) : Comes l x (Jvm.Cond.code x code maxLocals ret :: tables_1) room_1 (fun tb e args s => Calls_1 tb e args s ∧ rest_1 tb e args s ∧ Pre_1 tb e args s)
    (fun _ _ args s o t => lw_Q args s o t) := by
  intro p e ha hc hk s m args below hf hfit hheap happ hpre
  obtain ⟨b, xs, hP⟩ := lw_pre_spec hpre.2.2 hpre.2.1
  obtain ⟨k, o, h1, h2, h3, hQ⟩ := lw_walk l hflags b xs p e ha hc hk s m args below hf ((Spec.applies_iff_loose hf).mp happ).1 hP trivial
  exact ⟨k, o, h1, h2, h3, hQ⟩
theorem lw_frame {s t : State} {o : Outcome} {args : Array Value} (h : Framed s o t [] 601024 7293034) :
    Framed s o t (fieldLocs frame_1_writes args s ++ arrayLocs frame_1_arrays args s ++ staticLocs frame_1_statics s) 601024 7293034 := h
theorem lw_limb (L : Cond) (hL : ∀ (args : Array Value) (s t : State), L.after args s (.returned (some (.int 1))) t = true) :
    ArmFor flags0 classFile x code maxLocals ret World_1 tables_1 room_1 Calls_1 rest_1 Pre_1
      (fun tb e a s o t => postC L tb e a s o t ∧ Framed s o t (fieldLocs frame_1_writes a s ++ arrayLocs frame_1_arrays a s ++ staticLocs frame_1_statics s) 601024 7293034) := by
  intro l hflags _ _ p e ha hc hk s m args below hf hfit hheap happ hpre
  obtain ⟨k, o, h1, h2, h3, rfl, hF⟩ := lw_comes l hflags p e ha hc hk s m args below hf hfit hheap happ hpre
  exact ⟨k, _, h1, h2, h3, hL args s _, lw_frame hF⟩
theorem i_vc : Claimed_1_1 ∧ Claimed_1_2 := ⟨lw_limb limb_1_1 (fun args s t => by simp [limb_1_1, Cond.after, Cond.holds, Cond.value]), lw_limb limb_1_2 (fun args s t => Cond.after_iff.mpr (by
  first | (rw [show limb_1_2 = Cond.eq .result (.int 1) from rfl, Cond.eq_ints (x := 1) (y := 1) rfl rfl]; simp; done) | (simp [limb_1_2, Cond.value, Term.eval]; done)))⟩
