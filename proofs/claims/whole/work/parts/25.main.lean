/-! THE ABSTRACT MACHINE'S RUNS ARE THE REAL ONE'S: returns, and every instruction -/
section AMZ
variable {l : Launch} {p : Program} {e : Env} {R : Room} {s : State} {mt : MethodId} {args : Array Value} {below : List Frame} {meth : Method} {c : Code} {Q : State → Prop} {D : va_G} {cy : Nat → ClassId} {A : Nat → Prop} {m d c0 s0 : Nat} {r : am_Res} {ad : Nat → Nat} {h : am_H} {H : Heap} {locs : List Loc} {cells slots : Nat} {ls : Array Slot} {lv : am_L} {st : List am_V} {pc n : Nat}
theorem am_one_so {nn : Nat} {v : am_V} (hv : am_okv nn v) : am_so nn (some v).toList := fun w hw => by
  rw [List.mem_singleton.mp hw]; exact hv
theorem s_ret (hd : decode (am_M m).2.1 pc = .ok (.ireturn, 1)) (ih : am_Sd l n) (X : am_Cx l p e R s mt args below meth c Q D cy A m d c0 s0 r ad h H locs cells slots) (hl : am_lr ad h.1.length ls (am_M m).2.2.1 lv) (hs : am_so h.1.length st) (hx : am_FA (am_x n) d m lv h (am_ret m st h) = some r) : am_Wc l p e R s mt args below meth c Q H locs cells slots pc ls (st.map (am_av ad)) := by
  unfold am_ret at hx
  split at hx
  · rename_i z
    have hz : am_R32 z := am_so_hd hs
    split at hx
    · rename_i ht
      obtain rfl := Option.some.inj hx
      exact X.2.2.2.2.2.2.1 pc ad H locs ls cells slots (fun _ _ => rfl) X.2.2.1 X.2.2.2.2.1.1 X.2.2.2.2.1.2 (am_one_so hz) ⟨hd, .int, ht, rfl⟩
    · rename_i ht
      have hx : (bif decide (z = 0 ∨ z = 1) then some (some (.inl z), h) else none) = some r := hx
      by_cases hb : z = 0 ∨ z = 1
      · rw [decide_eq_true hb] at hx
        obtain rfl := Option.some.inj hx
        exact X.2.2.2.2.2.2.1 pc ad H locs ls cells slots (fun _ _ => rfl) X.2.2.1 X.2.2.2.2.1.1 X.2.2.2.2.1.2 (am_one_so hz) ⟨hd, .boolean, ht, by rcases hb with rfl | rfl <;> rfl⟩
      · rw [decide_eq_false hb] at hx
        cases hx
    · rename_i ht
      have hx : (bif decide (-128 ≤ z ∧ z ≤ 127) then some (some (.inl z), h) else none) = some r := hx
      by_cases hb : -128 ≤ z ∧ z ≤ 127
      · rw [decide_eq_true hb] at hx
        obtain rfl := Option.some.inj hx
        refine X.2.2.2.2.2.2.1 pc ad H locs ls cells slots (fun _ _ => rfl) X.2.2.1 X.2.2.2.2.1.1 X.2.2.2.2.1.2 (am_one_so hz) ⟨hd, .byte, ht, ?_⟩
        show Value.int (Int32.ofInt z).toInt8.toInt32 = _
        rw [Int32.toInt8_ofInt, am_bip hb]
      · rw [decide_eq_false hb] at hx
        cases hx
    · rename_i ht
      have hx : (bif decide (0 ≤ z ∧ z ≤ 65535) then some (some (.inl z), h) else none) = some r := hx
      by_cases hb : 0 ≤ z ∧ z ≤ 65535
      · rw [decide_eq_true hb] at hx
        obtain rfl := Option.some.inj hx
        refine X.2.2.2.2.2.2.1 pc ad H locs ls cells slots (fun _ _ => rfl) X.2.2.1 X.2.2.2.2.1.1 X.2.2.2.2.1.2 (am_one_so hz) ⟨hd, .char, ht, ?_⟩
        show Value.int (Int32.ofInt z).toUInt32.toUInt16.toUInt32.toInt32 = _
        rw [lg_i2c_small (by rw [am_toI hz]; omega) (by rw [am_toI hz]; omega)]
      · rw [decide_eq_false hb] at hx
        cases hx
    · cases hx
  · cases hx
theorem s_lret (hd : decode (am_M m).2.1 pc = .ok (.lreturn, 1)) (ih : am_Sd l n) (X : am_Cx l p e R s mt args below meth c Q D cy A m d c0 s0 r ad h H locs cells slots) (hl : am_lr ad h.1.length ls (am_M m).2.2.1 lv) (hs : am_so h.1.length st) (hx : am_FA (am_x n) d m lv h (am_lret m st h) = some r) : am_Wc l p e R s mt args below meth c Q H locs cells slots pc ls (st.map (am_av ad)) := by
  unfold am_lret at hx
  split at hx
  · rename_i z
    have hz : am_R64 z := am_so_hd hs
    split at hx
    · rename_i ht
      obtain rfl := Option.some.inj hx
      exact X.2.2.2.2.2.2.1 pc ad H locs ls cells slots (fun _ _ => rfl) X.2.2.1 X.2.2.2.2.1.1 X.2.2.2.2.1.2 (am_one_so (v := .inr (.inl z)) hz) ⟨hd, ht⟩
    · cases hx
  · cases hx
theorem s_vret (hd : decode (am_M m).2.1 pc = .ok (.return_, 1)) (ih : am_Sd l n) (X : am_Cx l p e R s mt args below meth c Q D cy A m d c0 s0 r ad h H locs cells slots) (hl : am_lr ad h.1.length ls (am_M m).2.2.1 lv) (hs : am_so h.1.length st) (hx : am_FA (am_x n) d m lv h (am_vret m st h) = some r) : am_Wc l p e R s mt args below meth c Q H locs cells slots pc ls (st.map (am_av ad)) := by
  unfold am_vret at hx
  split at hx
  · split at hx
    · rename_i ht
      obtain rfl := Option.some.inj hx
      exact X.2.2.2.2.2.2.1 pc ad H locs ls cells slots (fun _ _ => rfl) X.2.2.1 X.2.2.2.2.1.1 X.2.2.2.2.1.2 (fun v hv => by cases hv) ⟨hd, ht⟩
    · cases hx
  · cases hx
theorem s_act {i : Instr} {len : Nat} (hc : am_code m pc = some (i, len)) (hd : decode (am_M m).2.1 pc = .ok (i, len)) (hlen : am_lok (i, len) = true) (ih : am_Sd l n) (X : am_Cx l p e R s mt args below meth c Q D cy A m d c0 s0 r ad h H locs cells slots) (hl : am_lr ad h.1.length ls (am_M m).2.2.1 lv) (hs : am_so h.1.length st) (hx : am_FA (am_x n) d m lv h (am_act1 d m pc lv st h i len) = some r) : am_Wc l p e R s mt args below meth c Q H locs cells slots pc ls (st.map (am_av ad)) := by
  cases i with
  | iconst z =>
    have hlen : (Nat.beq len 1 && decide (-1 ≤ z ∧ z ≤ 5)) = true := hlen
    rw [Bool.and_eq_true, decide_eq_true_eq] at hlen
    obtain rfl : len = 1 := Nat.eq_of_beq_eq_true hlen.1
    exact s_iconst ⟨by omega, by omega⟩ hd ih X hl hs hx
  | bipush z =>
    have hlen : (Nat.beq len 2 && decide (-128 ≤ z ∧ z ≤ 127)) = true := hlen
    rw [Bool.and_eq_true, decide_eq_true_eq] at hlen
    obtain rfl : len = 2 := Nat.eq_of_beq_eq_true hlen.1
    exact s_bipush hlen.2 hd ih X hl hs hx
  | sipush z =>
    have hlen : (Nat.beq len 3 && decide (-32768 ≤ z ∧ z ≤ 32767)) = true := hlen
    rw [Bool.and_eq_true, decide_eq_true_eq] at hlen
    obtain rfl : len = 3 := Nat.eq_of_beq_eq_true hlen.1
    exact s_sipush hlen.2 hd ih X hl hs hx
  | lconst f =>
    obtain rfl : len = 1 := Nat.eq_of_beq_eq_true hlen
    exact s_lconst hd ih X hl hs hx
  | ldc idx =>
    obtain rfl : len = 2 := Nat.eq_of_beq_eq_true hlen
    have hx : am_FA (am_x n) d m lv h (match am_pool m idx with
      | some (8, _, _, z, _) => am_go (pc + 2) lv (.inl z :: st) h
      | some (10, a, _, _, _) => am_go (pc + 2) lv (.inr (.inr a) :: st) h
      | _ => am_no) = some r := hx
    split at hx
    · rename_i hp
      exact s_ldc hd hp ih X hl hs hx
    · rename_i hp
      exact s_ldcS hd hp ih X hl hs hx
    · cases hx
  | ldc_w idx =>
    obtain rfl : len = 3 := Nat.eq_of_beq_eq_true hlen
    have hx : am_FA (am_x n) d m lv h (match am_pool m idx with
      | some (8, _, _, z, _) => am_go (pc + 3) lv (.inl z :: st) h
      | _ => am_no) = some r := hx
    split at hx
    · rename_i hp
      exact s_ldc_w hd hp ih X hl hs hx
    · cases hx
  | ldc2_w idx =>
    obtain rfl : len = 3 := Nat.eq_of_beq_eq_true hlen
    have hx : am_FA (am_x n) d m lv h (match am_pool m idx with
      | some (9, _, _, z, _) => am_go (pc + 3) lv (.inr (.inl z) :: st) h
      | _ => am_no) = some r := hx
    split at hx
    · rename_i hp
      exact s_ldc2_w hd hp ih X hl hs hx
    · cases hx
  | iload i =>
    obtain rfl : len = 2 := Nat.eq_of_beq_eq_true hlen
    exact s_iload hd ih X hl hs hx
  | iload_n i =>
    obtain rfl : len = 1 := Nat.eq_of_beq_eq_true hlen
    exact s_iload_n hd ih X hl hs hx
  | lload i =>
    obtain rfl : len = 2 := Nat.eq_of_beq_eq_true hlen
    exact s_lload hd ih X hl hs hx
  | lload_n i =>
    obtain rfl : len = 1 := Nat.eq_of_beq_eq_true hlen
    exact s_lload_n hd ih X hl hs hx
  | aload i =>
    obtain rfl : len = 2 := Nat.eq_of_beq_eq_true hlen
    exact s_aload hd ih X hl hs hx
  | aload_n i =>
    obtain rfl : len = 1 := Nat.eq_of_beq_eq_true hlen
    exact s_aload_n hd ih X hl hs hx
  | istore i =>
    obtain rfl : len = 2 := Nat.eq_of_beq_eq_true hlen
    exact s_istore hd ih X hl hs hx
  | istore_n i =>
    obtain rfl : len = 1 := Nat.eq_of_beq_eq_true hlen
    exact s_istore_n hd ih X hl hs hx
  | lstore i =>
    obtain rfl : len = 2 := Nat.eq_of_beq_eq_true hlen
    exact s_lstore hd ih X hl hs hx
  | lstore_n i =>
    obtain rfl : len = 1 := Nat.eq_of_beq_eq_true hlen
    exact s_lstore_n hd ih X hl hs hx
  | astore i =>
    obtain rfl : len = 2 := Nat.eq_of_beq_eq_true hlen
    exact s_astore hd ih X hl hs hx
  | astore_n i =>
    obtain rfl : len = 1 := Nat.eq_of_beq_eq_true hlen
    exact s_astore_n hd ih X hl hs hx
  | iinc i k =>
    obtain rfl : len = 3 := Nat.eq_of_beq_eq_true hlen
    exact s_iincH hd ih X hl hs hx
  | iadd =>
    obtain rfl : len = 1 := Nat.eq_of_beq_eq_true hlen
    exact s_bin _ (fun x y => x + y) (fun x y _ _ => by rw [am_wI, Int32.ofInt_add]) (fun _ _ _ _ => am_wR _) (fun x y rest k => lv_iadd X.1.1 X.1.2.1 hd k) ih X hl hs hx
  | isub =>
    obtain rfl : len = 1 := Nat.eq_of_beq_eq_true hlen
    exact s_bin _ (fun x y => x - y) (fun x y _ _ => by rw [am_wI, Int32.ofInt_sub]) (fun _ _ _ _ => am_wR _) (fun x y rest k => lv_isub X.1.1 X.1.2.1 hd k) ih X hl hs hx
  | imul =>
    obtain rfl : len = 1 := Nat.eq_of_beq_eq_true hlen
    exact s_bin _ (fun x y => x * y) (fun x y _ _ => by rw [am_wI, Int32.ofInt_mul]) (fun _ _ _ _ => am_wR _) (fun x y rest k => lv_imul X.1.1 X.1.2.1 hd k) ih X hl hs hx
  | iand =>
    obtain rfl : len = 1 := Nat.eq_of_beq_eq_true hlen
    exact s_bin am_and (fun x y => x &&& y) (fun x y _ _ => by unfold am_and; rw [Int32.ofInt_toInt]) (fun _ _ _ _ => am_R32_of _) (fun x y rest k => lv_iand X.1.1 X.1.2.1 hd k) ih X hl hs hx
  | ior =>
    obtain rfl : len = 1 := Nat.eq_of_beq_eq_true hlen
    exact s_bin am_or (fun x y => x ||| y) (fun x y _ _ => by unfold am_or; rw [Int32.ofInt_toInt]) (fun _ _ _ _ => am_R32_of _) (fun x y rest k => lv_ior X.1.1 X.1.2.1 hd k) ih X hl hs hx
  | ixor =>
    obtain rfl : len = 1 := Nat.eq_of_beq_eq_true hlen
    exact s_bin am_xor (fun x y => x ^^^ y) (fun x y _ _ => by unfold am_xor; rw [Int32.ofInt_toInt]) (fun _ _ _ _ => am_R32_of _) (fun x y rest k => lv_ixor X.1.1 X.1.2.1 hd k) ih X hl hs hx
  | ishl =>
    obtain rfl : len = 1 := Nat.eq_of_beq_eq_true hlen
    exact s_bin am_shl (fun x y => x <<< (y &&& 31)) (fun x y _ _ => by unfold am_shl; rw [Int32.ofInt_toInt]) (fun _ _ _ _ => am_R32_of _) (fun x y rest k => lv_ishl X.1.1 X.1.2.1 hd k) ih X hl hs hx
  | ishr =>
    obtain rfl : len = 1 := Nat.eq_of_beq_eq_true hlen
    exact s_bin am_shr (fun x y => x >>> (y &&& 31)) (fun x y _ _ => by unfold am_shr; rw [Int32.ofInt_toInt]) (fun _ _ _ _ => am_R32_of _) (fun x y rest k => lv_ishr X.1.1 X.1.2.1 hd k) ih X hl hs hx
  | iushr =>
    obtain rfl : len = 1 := Nat.eq_of_beq_eq_true hlen
    exact s_bin am_ushr (fun x y => (x.toUInt32 >>> (y.toUInt32 &&& Int32.toUInt32 31)).toInt32) (fun x y _ _ => by unfold am_ushr; rw [Int32.ofInt_toInt]) (fun _ _ _ _ => am_R32_of _) (fun x y rest k => lv_iushr X.1.1 X.1.2.1 hd rfl k) ih X hl hs hx
  | idiv =>
    obtain rfl : len = 1 := Nat.eq_of_beq_eq_true hlen
    exact s_div (fun x y => am_w (Int.tdiv x y)) (fun x y => x / y) (fun x y h1 h2 => am_tdiv h1 h2) (fun _ _ _ _ => am_wR _) (fun x y rest hy k => lv_idiv X.1.1 X.1.2.1 hd hy k) ih X hl hs hx
  | irem =>
    obtain rfl : len = 1 := Nat.eq_of_beq_eq_true hlen
    exact s_div (fun x y => Int.tmod x y) (fun x y => x - x / y * y) (fun x y h1 h2 => by rw [am_tdiv h1 h2, am_wI, ← Int32.ofInt_mul, ← Int32.ofInt_sub, Int.tmod_def, Int.mul_comm]) (fun _ _ h1 h2 => am_tmodR h1 h2) (fun x y rest hy k => lv_irem X.1.1 X.1.2.1 hd hy k) ih X hl hs hx
  | ineg =>
    obtain rfl : len = 1 := Nat.eq_of_beq_eq_true hlen
    exact s_un (fun x => am_w (-x)) (fun x => -x) (fun x _ => by rw [am_wI, Int32.ofInt_neg]) (fun _ _ => am_wR _) (fun x rest k => lv_ineg X.1.1 X.1.2.1 hd k) ih X hl hs hx
  | i2b =>
    obtain rfl : len = 1 := Nat.eq_of_beq_eq_true hlen
    exact s_un am_b (fun x => x.toInt8.toInt32) (fun x _ => by unfold am_b; rw [Int32.ofInt_toInt]) (fun _ _ => am_R32_of _) (fun x rest k => lv_i2b X.1.1 X.1.2.1 hd rfl k) ih X hl hs hx
  | i2c =>
    obtain rfl : len = 1 := Nat.eq_of_beq_eq_true hlen
    exact s_un am_ch (fun x => (x.toUInt32 % 65536).toInt32) (fun x _ => by unfold am_ch; rw [Int32.ofInt_toInt]) (fun _ _ => am_R32_of _) (fun x rest k => lv_i2c X.1.1 X.1.2.1 hd rfl k) ih X hl hs hx
  | ladd =>
    obtain rfl : len = 1 := Nat.eq_of_beq_eq_true hlen
    exact s_lbin _ (fun x y => x + y) (fun x y _ _ => by rw [am_wL, Int64.ofInt_add]) (fun _ _ _ _ => am_wR64 _) (fun x y rest k => lv_ladd X.1.1 X.1.2.1 hd k) ih X hl hs hx
  | lsub =>
    obtain rfl : len = 1 := Nat.eq_of_beq_eq_true hlen
    exact s_lbin _ (fun x y => x - y) (fun x y _ _ => by rw [am_wL, Int64.ofInt_sub]) (fun _ _ _ _ => am_wR64 _) (fun x y rest k => lv_lsub X.1.1 X.1.2.1 hd k) ih X hl hs hx
  | lmul =>
    obtain rfl : len = 1 := Nat.eq_of_beq_eq_true hlen
    exact s_lbin _ (fun x y => x * y) (fun x y _ _ => by rw [am_wL, Int64.ofInt_mul]) (fun _ _ _ _ => am_wR64 _) (fun x y rest k => lv_lmul X.1.1 X.1.2.1 hd k) ih X hl hs hx
  | land =>
    obtain rfl : len = 1 := Nat.eq_of_beq_eq_true hlen
    exact s_lbin am_land (fun x y => x &&& y) (fun x y _ _ => by unfold am_land; rw [Int64.ofInt_toInt]) (fun _ _ _ _ => am_R64_of _) (fun x y rest k => lv_land X.1.1 X.1.2.1 hd k) ih X hl hs hx
  | ldiv =>
    obtain rfl : len = 1 := Nat.eq_of_beq_eq_true hlen
    exact s_ldiv (fun x y => am_w64 (Int.tdiv x y)) (fun x y => x / y) (fun x y h1 h2 => am_tdivL h1 h2) (fun _ _ _ _ => am_wR64 _) (fun x y rest hy k => lv_ldiv X.1.1 X.1.2.1 hd hy k) ih X hl hs hx
  | lrem =>
    obtain rfl : len = 1 := Nat.eq_of_beq_eq_true hlen
    exact s_ldiv (fun x y => Int.tmod x y) (fun x y => x - x / y * y) (fun x y h1 h2 => by rw [am_tdivL h1 h2, am_wL, ← Int64.ofInt_mul, ← Int64.ofInt_sub, Int.tmod_def, Int.mul_comm]) (fun _ _ h1 h2 => am_tmodRL h1 h2) (fun x y rest hy k => lv_lrem X.1.1 X.1.2.1 hd hy k) ih X hl hs hx
  | lneg =>
    obtain rfl : len = 1 := Nat.eq_of_beq_eq_true hlen
    exact s_lun (fun x => am_w64 (-x)) (fun x => -x) (fun x _ => by rw [am_wL, Int64.ofInt_neg]) (fun _ _ => am_wR64 _) (fun x rest k => lv_lneg X.1.1 X.1.2.1 hd k) ih X hl hs hx
  | lcmp =>
    obtain rfl : len = 1 := Nat.eq_of_beq_eq_true hlen
    exact s_lcmp hd ih X hl hs hx
  | i2l =>
    obtain rfl : len = 1 := Nat.eq_of_beq_eq_true hlen
    exact s_i2l hd ih X hl hs hx
  | l2i =>
    obtain rfl : len = 1 := Nat.eq_of_beq_eq_true hlen
    exact s_l2i hd ih X hl hs hx
  | dup =>
    obtain rfl : len = 1 := Nat.eq_of_beq_eq_true hlen
    exact s_dup hd ih X hl hs hx
  | dup2 =>
    obtain rfl : len = 1 := Nat.eq_of_beq_eq_true hlen
    exact s_dup2 hd ih X hl hs hx
  | pop =>
    obtain rfl : len = 1 := Nat.eq_of_beq_eq_true hlen
    exact s_pop hd ih X hl hs hx
  | ifCond cnd off =>
    obtain rfl : len = 3 := Nat.eq_of_beq_eq_true hlen
    exact s_if cnd X.1.2.1 X.1.1 hd ih X hl hs hx
  | if_icmp cnd off =>
    obtain rfl : len = 3 := Nat.eq_of_beq_eq_true hlen
    exact s_icmp cnd X.1.2.1 X.1.1 hd ih X hl hs hx
  | goto off =>
    obtain rfl : len = 3 := Nat.eq_of_beq_eq_true hlen
    exact s_goto hd ih X hl hs hx
  | tableswitch dflt lo hi offs => exact s_tsw (of_decide_eq_true hlen) hd ih X hl hs hx
  | lookupswitch dflt ps => exact s_lsw hd ih X hl hs hx
  | getfield idx =>
    obtain rfl : len = 3 := Nat.eq_of_beq_eq_true hlen
    have hx : am_FA (am_x n) d m lv h (match am_pool m idx with
      | some (1, ci, k, t, _) => am_get ci k t.toNat pc lv st h
      | _ => am_no) = some r := hx
    split at hx
    · rename_i hp
      exact s_get hd hp ih X hl hs hx
    · cases hx
  | putfield idx =>
    obtain rfl : len = 3 := Nat.eq_of_beq_eq_true hlen
    have hx : am_FA (am_x n) d m lv h (match am_pool m idx with
      | some (1, ci, k, t, _) => am_put ci k t.toNat pc lv st h
      | _ => am_no) = some r := hx
    split at hx
    · rename_i hp
      exact s_put hc hd hp ih X hl hs hx
    · cases hx
  | getstatic idx =>
    obtain rfl : len = 3 := Nat.eq_of_beq_eq_true hlen
    have hx : am_FA (am_x n) d m lv h (match am_pool m idx with
      | some (11, a, _, _, _) => am_go (pc + 3) lv (.inr (.inr a) :: st) h
      | _ => am_no) = some r := hx
    split at hx
    · rename_i hp
      exact s_gets hd hp ih X hl hs hx
    · cases hx
  | new idx =>
    obtain rfl : len = 3 := Nat.eq_of_beq_eq_true hlen
    have hx : am_FA (am_x n) d m lv h (match am_pool m idx with
      | some (7, ci, k, _, _) => am_new ci k pc lv st h
      | _ => am_no) = some r := hx
    split at hx
    · rename_i hp
      exact s_new hd hp ih X hl hs hx
    · cases hx
  | newarray a =>
    obtain rfl : len = 2 := Nat.eq_of_beq_eq_true hlen
    exact s_newa hd ih X hl hs hx
  | arraylength =>
    obtain rfl : len = 1 := Nat.eq_of_beq_eq_true hlen
    exact s_alen hd ih X hl hs hx
  | iaload =>
    obtain rfl : len = 1 := Nat.eq_of_beq_eq_true hlen
    exact s_iald hd ih X hl hs hx
  | baload =>
    obtain rfl : len = 1 := Nat.eq_of_beq_eq_true hlen
    exact s_bald hd ih X hl hs hx
  | laload =>
    obtain rfl : len = 1 := Nat.eq_of_beq_eq_true hlen
    exact s_lald hd ih X hl hs hx
  | iastore =>
    obtain rfl : len = 1 := Nat.eq_of_beq_eq_true hlen
    exact s_iast hd ih X hl hs hx
  | bastore =>
    obtain rfl : len = 1 := Nat.eq_of_beq_eq_true hlen
    exact s_bast hd ih X hl hs hx
  | lastore =>
    obtain rfl : len = 1 := Nat.eq_of_beq_eq_true hlen
    exact s_last hd ih X hl hs hx
  | invokevirtual idx =>
    obtain rfl : len = 3 := Nat.eq_of_beq_eq_true hlen
    have hx : am_FA (am_x n) d m lv h (bif am_ps m idx 264 then am_slen d pc lv st h else bif am_ps m idx 265 then am_scat d pc lv st h else am_inv (am_pool m idx) 2 2 d pc lv st h) = some r := hx
    cases hp4 : am_ps m idx 264 with
    | true => rw [hp4] at hx; exact s_slen hd hp4 ih X hl hs hx
    | false =>
    rw [hp4] at hx
    cases hp5 : am_ps m idx 265 with
    | true => rw [hp5] at hx; exact s_scat hd hp5 ih X hl hs hx
    | false =>
    rw [hp5] at hx
    have hx : am_FA (am_x n) d m lv h (am_inv (am_pool m idx) 2 2 d pc lv st h) = some r := hx
    cases hp : am_pool m idx with
    | none => rw [hp] at hx; cases hx
    | some q =>
      obtain ⟨tag, a, b, z, w⟩ := q
      rw [hp] at hx
      match tag, hx, hp with
      | 0, hx, _ => cases hx
      | 1, hx, _ => cases hx
      | 2, hx, hp => exact s_callV hd hp ih X hl hs hx
      | t + 3, hx, _ => cases hx
  | invokespecial idx =>
    obtain rfl : len = 3 := Nat.eq_of_beq_eq_true hlen
    have hx : am_FA (am_x n) d m lv h (am_inv (am_pool m idx) 4 5 d pc lv st h) = some r := hx
    cases hp : am_pool m idx with
    | none => rw [hp] at hx; cases hx
    | some q =>
      obtain ⟨tag, a, b, z, w⟩ := q
      rw [hp] at hx
      match tag, hx, hp with
      | 0, hx, _ => cases hx
      | 1, hx, _ => cases hx
      | 2, hx, _ => cases hx
      | 3, hx, _ => cases hx
      | 4, hx, hp => exact s_callI hd hp ih X hl hs hx
      | 5, hx, hp => exact s_obj hd hp ih X hl hs hx
      | t + 6, hx, _ => cases hx
  | invokestatic idx =>
    obtain rfl : len = 3 := Nat.eq_of_beq_eq_true hlen
    unfold am_act1 at hx
    dsimp only at hx
    split at hx
    · rename_i hp
      exact s_callS hd hp ih X hl hs hx
    · rename_i hp
      exact s_acp hd hp ih X hl hs hx
    · rename_i hp
      exact s_mabs hd hp ih X hl hs hx
    · rename_i hp
      exact s_mabsL hd hp ih X hl hs hx
    · rename_i hp
      exact s_mmax hd hp ih X hl hs hx
    · rename_i hp
      exact s_mmaxL hd hp ih X hl hs hx
    · rename_i hp
      exact s_mmin hd hp ih X hl hs hx
    · rename_i hp
      exact s_mminL hd hp ih X hl hs hx
    · exact s_hT ih X hl hs hx
    · cases hx
  | ireturn =>
    obtain rfl : len = 1 := Nat.eq_of_beq_eq_true hlen
    exact s_ret hd ih X hl hs hx
  | lreturn =>
    obtain rfl : len = 1 := Nat.eq_of_beq_eq_true hlen
    exact s_lret hd ih X hl hs hx
  | return_ =>
    obtain rfl : len = 1 := Nat.eq_of_beq_eq_true hlen
    exact s_vret hd ih X hl hs hx
  | _ => cases hx
end AMZ
/-- THE ABSTRACT MACHINE IS SOUND -/
theorem am_sound (l : Launch) : ∀ n, am_Sd l n := by
  intro n
  induction n with
  | zero =>
    intro d m pc lv st h r hx
    cases hx
  | succ n ih =>
    intro d m pc lv st h r hx p e R s mt args below meth c Q D cy A c0 s0 ad H locs cells slots ls X hl hs
    have hx : am_FA (am_x n) d m lv h (am_act d m pc lv st h) = some r := hx
    unfold am_act at hx
    split at hx
    · rename_i i len hc
      have hpf := am_pf_at hc
      unfold am_pfok at hpf
      rw [Bool.and_eq_true] at hpf
      exact s_act hc (am_code_dec X.2.1 hc) hpf.1 ih X hl hs hx
    · cases hx
