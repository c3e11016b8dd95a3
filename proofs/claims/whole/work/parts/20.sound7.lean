/-! THE ABSTRACT MACHINE'S RUNS ARE THE REAL ONE'S: locals, constants, the stack, switches, Math -/
section AML
variable {l : Launch} {p : Program} {e : Env} {R : Room} {s : State} {mt : MethodId} {args : Array Value} {below : List Frame} {meth : Method} {c : Code} {Q : State → Prop} {D : va_G} {cy : Nat → ClassId} {A : Nat → Prop} {m d c0 s0 : Nat} {r : am_Res} {ad : Nat → Nat} {h : am_H} {H : Heap} {locs : List Loc} {cells slots : Nat} {ls : Array Slot} {lv : am_L} {st : List am_V} {pc n : Nat}
theorem am_lr_lt {nn : Nat} (hl : am_lr ad nn ls (am_M m).2.2.1 lv) {i : Nat} (hb : Nat.blt i lv.length = true) : i < (am_M m).2.2.1 := by
  rw [← hl.1]
  exact Nat.blt_eq.mp hb
theorem s_iconst {z : Int} (hz : am_R32 z) (hd : decode (am_M m).2.1 pc = .ok (.iconst z, 1)) (ih : am_Sd l n) (X : am_Cx l p e R s mt args below meth c Q D cy A m d c0 s0 r ad h H locs cells slots) (hl : am_lr ad h.1.length ls (am_M m).2.2.1 lv) (hs : am_so h.1.length st) (hx : am_FA (am_x n) d m lv h (am_go (pc + 1) lv (.inl z :: st) h) = some r) : am_Wc l p e R s mt args below meth c Q H locs cells slots pc ls (st.map (am_av ad)) := lv_iconst (v := Int32.ofInt z) X.1.1 X.1.2.1 hd rfl (s_push ih X hl hs (v := .inl z) hz hx rfl)
theorem am_bip {z : Int} (h : -128 ≤ z ∧ z ≤ 127) : (Int8.ofInt z).toInt32 = Int32.ofInt z := by
  apply Int32.toInt_inj.mp
  rw [Int8.toInt_toInt32, Int8.toInt_ofInt_of_le (by omega) (by omega), am_toI ⟨by omega, by omega⟩]
theorem am_sip {z : Int} (h : -32768 ≤ z ∧ z ≤ 32767) : (Int16.ofInt z).toInt32 = Int32.ofInt z := by
  apply Int32.toInt_inj.mp
  rw [Int16.toInt_toInt32, Int16.toInt_ofInt_of_le (by omega) (by omega), am_toI ⟨by omega, by omega⟩]
theorem s_bipush {z : Int} (hz : -128 ≤ z ∧ z ≤ 127) (hd : decode (am_M m).2.1 pc = .ok (.bipush z, 2)) (ih : am_Sd l n) (X : am_Cx l p e R s mt args below meth c Q D cy A m d c0 s0 r ad h H locs cells slots) (hl : am_lr ad h.1.length ls (am_M m).2.2.1 lv) (hs : am_so h.1.length st) (hx : am_FA (am_x n) d m lv h (am_go (pc + 2) lv (.inl z :: st) h) = some r) : am_Wc l p e R s mt args below meth c Q H locs cells slots pc ls (st.map (am_av ad)) := lv_bipush (v := Int32.ofInt z) X.1.1 X.1.2.1 hd (am_bip hz) (s_push ih X hl hs (v := .inl z) ⟨by omega, by omega⟩ hx rfl)
theorem s_sipush {z : Int} (hz : -32768 ≤ z ∧ z ≤ 32767) (hd : decode (am_M m).2.1 pc = .ok (.sipush z, 3)) (ih : am_Sd l n) (X : am_Cx l p e R s mt args below meth c Q D cy A m d c0 s0 r ad h H locs cells slots) (hl : am_lr ad h.1.length ls (am_M m).2.2.1 lv) (hs : am_so h.1.length st) (hx : am_FA (am_x n) d m lv h (am_go (pc + 3) lv (.inl z :: st) h) = some r) : am_Wc l p e R s mt args below meth c Q H locs cells slots pc ls (st.map (am_av ad)) := lv_sipush (v := Int32.ofInt z) X.1.1 X.1.2.1 hd (am_sip hz) (s_push ih X hl hs (v := .inl z) ⟨by omega, by omega⟩ hx rfl)
theorem s_lconst {f : Fin 2} (hd : decode (am_M m).2.1 pc = .ok (.lconst f, 1)) (ih : am_Sd l n) (X : am_Cx l p e R s mt args below meth c Q D cy A m d c0 s0 r ad h H locs cells slots) (hl : am_lr ad h.1.length ls (am_M m).2.2.1 lv) (hs : am_so h.1.length st) (hx : am_FA (am_x n) d m lv h (am_go (pc + 1) lv (.inr (.inl ((f : Nat) : Int)) :: st) h) = some r) : am_Wc l p e R s mt args below meth c Q H locs cells slots pc ls (st.map (am_av ad)) := lv_lconst (v := Int64.ofInt ((f : Nat) : Int)) X.1.1 X.1.2.1 hd rfl (s_push ih X hl hs (v := .inr (.inl ((f : Nat) : Int))) ⟨by omega, by have := f.2; omega⟩ hx rfl)
theorem s_ldc {idx a b w : Nat} {z : Int} (hd : decode (am_M m).2.1 pc = .ok (.ldc idx, 2)) (hp : am_pool m idx = some (8, a, b, z, w)) (ih : am_Sd l n) (X : am_Cx l p e R s mt args below meth c Q D cy A m d c0 s0 r ad h H locs cells slots) (hl : am_lr ad h.1.length ls (am_M m).2.2.1 lv) (hs : am_so h.1.length st) (hx : am_FA (am_x n) d m lv h (am_go (pc + 2) lv (.inl z :: st) h) = some r) : am_Wc l p e R s mt args below meth c Q H locs cells slots pc ls (st.map (am_av ad)) := by
  obtain ⟨w1, w2⟩ : Cond.constant (am_cn (am_own m)) idx (Int32.ofInt z) ∈ am_ts ∧ am_R32 z := am_pool_ok hp
  exact lv_ldc (v := Int32.ofInt z) X.1.1 X.1.2.1 X.1.2.2.2.1 (X.1.2.2.2.2.1 _ w1) hd (s_push ih X hl hs (v := .inl z) w2 hx rfl)
theorem s_ldc_w {idx a b w : Nat} {z : Int} (hd : decode (am_M m).2.1 pc = .ok (.ldc_w idx, 3)) (hp : am_pool m idx = some (8, a, b, z, w)) (ih : am_Sd l n) (X : am_Cx l p e R s mt args below meth c Q D cy A m d c0 s0 r ad h H locs cells slots) (hl : am_lr ad h.1.length ls (am_M m).2.2.1 lv) (hs : am_so h.1.length st) (hx : am_FA (am_x n) d m lv h (am_go (pc + 3) lv (.inl z :: st) h) = some r) : am_Wc l p e R s mt args below meth c Q H locs cells slots pc ls (st.map (am_av ad)) := by
  obtain ⟨w1, w2⟩ : Cond.constant (am_cn (am_own m)) idx (Int32.ofInt z) ∈ am_ts ∧ am_R32 z := am_pool_ok hp
  exact lv_ldcw (v := Int32.ofInt z) X.1.1 X.1.2.1 X.1.2.2.2.1 (X.1.2.2.2.2.1 _ w1) hd (s_push ih X hl hs (v := .inl z) w2 hx rfl)
theorem s_ldc2_w {idx a b w : Nat} {z : Int} (hd : decode (am_M m).2.1 pc = .ok (.ldc2_w idx, 3)) (hp : am_pool m idx = some (9, a, b, z, w)) (ih : am_Sd l n) (X : am_Cx l p e R s mt args below meth c Q D cy A m d c0 s0 r ad h H locs cells slots) (hl : am_lr ad h.1.length ls (am_M m).2.2.1 lv) (hs : am_so h.1.length st) (hx : am_FA (am_x n) d m lv h (am_go (pc + 3) lv (.inr (.inl z) :: st) h) = some r) : am_Wc l p e R s mt args below meth c Q H locs cells slots pc ls (st.map (am_av ad)) := by
  obtain ⟨w1, w2⟩ : Cond.constantLong (am_cn (am_own m)) idx (Int64.ofInt z) ∈ am_ts ∧ am_R64 z := am_pool_ok hp
  exact lv_ldc2 (v := Int64.ofInt z) X.1.1 X.1.2.1 X.1.2.2.2.1 (X.1.2.2.2.2.1 _ w1) hd (s_push ih X hl hs (v := .inr (.inl z)) w2 hx rfl)
theorem s_iload {i : Nat} (hd : decode (am_M m).2.1 pc = .ok (.iload i, 2)) (ih : am_Sd l n) (X : am_Cx l p e R s mt args below meth c Q D cy A m d c0 s0 r ad h H locs cells slots) (hl : am_lr ad h.1.length ls (am_M m).2.2.1 lv) (hs : am_so h.1.length st) (hx : am_FA (am_x n) d m lv h (am_iload i 2 pc lv st h) = some r) : am_Wc l p e R s mt args below meth c Q H locs cells slots pc ls (st.map (am_av ad)) := by
  unfold am_iload at hx
  split at hx
  · rename_i z hz
    exact lv_iload X.1.1 X.1.2.1 hd (hl.at hz) (s_push ih X hl hs (v := .inl z) (hl.2.2 _ _ hz) hx rfl)
  · cases hx
theorem s_lload {i : Nat} (hd : decode (am_M m).2.1 pc = .ok (.lload i, 2)) (ih : am_Sd l n) (X : am_Cx l p e R s mt args below meth c Q D cy A m d c0 s0 r ad h H locs cells slots) (hl : am_lr ad h.1.length ls (am_M m).2.2.1 lv) (hs : am_so h.1.length st) (hx : am_FA (am_x n) d m lv h (am_lload i 2 pc lv st h) = some r) : am_Wc l p e R s mt args below meth c Q H locs cells slots pc ls (st.map (am_av ad)) := by
  unfold am_lload at hx
  split at hx
  · rename_i z hz
    exact lv_lload X.1.1 X.1.2.1 hd (hl.at hz) (s_push ih X hl hs (v := .inr (.inl z)) (hl.2.2 _ _ hz) hx rfl)
  · cases hx
theorem s_aload {i : Nat} (hd : decode (am_M m).2.1 pc = .ok (.aload i, 2)) (ih : am_Sd l n) (X : am_Cx l p e R s mt args below meth c Q D cy A m d c0 s0 r ad h H locs cells slots) (hl : am_lr ad h.1.length ls (am_M m).2.2.1 lv) (hs : am_so h.1.length st) (hx : am_FA (am_x n) d m lv h (am_aload i 2 pc lv st h) = some r) : am_Wc l p e R s mt args below meth c Q H locs cells slots pc ls (st.map (am_av ad)) := by
  unfold am_aload at hx
  split at hx
  · rename_i q hq
    have h1 := hl.at hq
    by_cases e : q = 999999
    · have ea : am_av ad (.inr (.inr q)) = .null := if_pos e
      rw [ea] at h1
      exact lv_aloadN X.1.1 X.1.2.1 hd h1 (s_push ih X hl hs (v := .inr (.inr q)) (hl.2.2 _ _ hq) hx ea)
    · have ea : am_av ad (.inr (.inr q)) = .ref (ad q) := if_neg e
      rw [ea] at h1
      exact lv_aload X.1.1 X.1.2.1 hd h1 (s_push ih X hl hs (v := .inr (.inr q)) (hl.2.2 _ _ hq) hx ea)
  · cases hx
theorem s_istore {i : Nat} (hd : decode (am_M m).2.1 pc = .ok (.istore i, 2)) (ih : am_Sd l n) (X : am_Cx l p e R s mt args below meth c Q D cy A m d c0 s0 r ad h H locs cells slots) (hl : am_lr ad h.1.length ls (am_M m).2.2.1 lv) (hs : am_so h.1.length st) (hx : am_FA (am_x n) d m lv h (am_istore i 2 pc lv st h) = some r) : am_Wc l p e R s mt args below meth c Q H locs cells slots pc ls (st.map (am_av ad)) := by
  unfold am_istore at hx
  split at hx
  · rename_i z rest
    cases hb : Nat.blt i lv.length with
    | false => rw [hb] at hx; cases hx
    | true =>
      rw [hb] at hx
      exact lv_istore X.1.1 X.1.2.1 hd hl.2.1 (am_lr_lt hl hb) rfl (fun ls1 hl1 => ih _ _ _ _ _ _ _ hx p e R s mt args below meth c Q D cy A c0 s0 ad H locs cells slots ls1 X (am_lr_store hl (v := .inl z) (am_so_hd hs) hl1) (am_so_tl hs))
  · cases hx
theorem s_lstore {i : Nat} (hd : decode (am_M m).2.1 pc = .ok (.lstore i, 2)) (ih : am_Sd l n) (X : am_Cx l p e R s mt args below meth c Q D cy A m d c0 s0 r ad h H locs cells slots) (hl : am_lr ad h.1.length ls (am_M m).2.2.1 lv) (hs : am_so h.1.length st) (hx : am_FA (am_x n) d m lv h (am_lstore i 2 pc lv st h) = some r) : am_Wc l p e R s mt args below meth c Q H locs cells slots pc ls (st.map (am_av ad)) := by
  unfold am_lstore at hx
  split at hx
  · rename_i z rest
    cases hb : Nat.blt (i + 1) lv.length with
    | false => rw [hb] at hx; cases hx
    | true =>
      rw [hb] at hx
      exact lv_lstore X.1.1 X.1.2.1 hd hl.2.1 (am_lr_lt hl hb) rfl (fun ls1 hl1 => ih _ _ _ _ _ _ _ hx p e R s mt args below meth c Q D cy A c0 s0 ad H locs cells slots ls1 X (am_lr_store2 hl (v := .inr (.inl z)) (am_so_hd hs) hl1) (am_so_tl hs))
  · cases hx
theorem s_astore {i : Nat} (hd : decode (am_M m).2.1 pc = .ok (.astore i, 2)) (ih : am_Sd l n) (X : am_Cx l p e R s mt args below meth c Q D cy A m d c0 s0 r ad h H locs cells slots) (hl : am_lr ad h.1.length ls (am_M m).2.2.1 lv) (hs : am_so h.1.length st) (hx : am_FA (am_x n) d m lv h (am_astore i 2 pc lv st h) = some r) : am_Wc l p e R s mt args below meth c Q H locs cells slots pc ls (st.map (am_av ad)) := by
  unfold am_astore at hx
  split at hx
  · rename_i q rest
    cases hb : Nat.blt i lv.length with
    | false => rw [hb] at hx; cases hx
    | true =>
      rw [hb] at hx
      show am_Wc l p e R s mt args below meth c Q H locs cells slots pc ls (am_av ad (.inr (.inr q)) :: rest.map (am_av ad))
      by_cases e9 : q = 999999
      · have ea : am_av ad (.inr (.inr q)) = .null := if_pos e9
        rw [ea]
        exact lv_astoreN X.1.1 X.1.2.1 hd hl.2.1 (am_lr_lt hl hb) rfl (fun ls1 hl1 => ih _ _ _ _ _ _ _ hx p e R s mt args below meth c Q D cy A c0 s0 ad H locs cells slots ls1 X (am_lr_store hl (v := .inr (.inr q)) (am_so_hd hs) (by rw [ea]; exact hl1)) (am_so_tl hs))
      · have ea : am_av ad (.inr (.inr q)) = .ref (ad q) := if_neg e9
        rw [ea]
        exact lv_astore X.1.1 X.1.2.1 hd hl.2.1 (am_lr_lt hl hb) rfl (fun ls1 hl1 => ih _ _ _ _ _ _ _ hx p e R s mt args below meth c Q D cy A c0 s0 ad H locs cells slots ls1 X (am_lr_store hl (v := .inr (.inr q)) (am_so_hd hs) (by rw [ea]; exact hl1)) (am_so_tl hs))
  · cases hx
theorem s_iload_n {i : Fin 4} (hd : decode (am_M m).2.1 pc = .ok (.iload_n i, 1)) (ih : am_Sd l n) (X : am_Cx l p e R s mt args below meth c Q D cy A m d c0 s0 r ad h H locs cells slots) (hl : am_lr ad h.1.length ls (am_M m).2.2.1 lv) (hs : am_so h.1.length st) (hx : am_FA (am_x n) d m lv h (am_iload i 1 pc lv st h) = some r) : am_Wc l p e R s mt args below meth c Q H locs cells slots pc ls (st.map (am_av ad)) := by
  unfold am_iload at hx
  split at hx
  · rename_i z hz
    exact lv_iload_n X.1.1 X.1.2.1 hd rfl (hl.at hz) (s_push ih X hl hs (v := .inl z) (hl.2.2 _ _ hz) hx rfl)
  · cases hx
theorem s_lload_n {i : Fin 4} (hd : decode (am_M m).2.1 pc = .ok (.lload_n i, 1)) (ih : am_Sd l n) (X : am_Cx l p e R s mt args below meth c Q D cy A m d c0 s0 r ad h H locs cells slots) (hl : am_lr ad h.1.length ls (am_M m).2.2.1 lv) (hs : am_so h.1.length st) (hx : am_FA (am_x n) d m lv h (am_lload i 1 pc lv st h) = some r) : am_Wc l p e R s mt args below meth c Q H locs cells slots pc ls (st.map (am_av ad)) := by
  unfold am_lload at hx
  split at hx
  · rename_i z hz
    exact lv_lload_n X.1.1 X.1.2.1 hd rfl (hl.at hz) (s_push ih X hl hs (v := .inr (.inl z)) (hl.2.2 _ _ hz) hx rfl)
  · cases hx
theorem s_aload_n {i : Fin 4} (hd : decode (am_M m).2.1 pc = .ok (.aload_n i, 1)) (ih : am_Sd l n) (X : am_Cx l p e R s mt args below meth c Q D cy A m d c0 s0 r ad h H locs cells slots) (hl : am_lr ad h.1.length ls (am_M m).2.2.1 lv) (hs : am_so h.1.length st) (hx : am_FA (am_x n) d m lv h (am_aload i 1 pc lv st h) = some r) : am_Wc l p e R s mt args below meth c Q H locs cells slots pc ls (st.map (am_av ad)) := by
  unfold am_aload at hx
  split at hx
  · rename_i q hq
    have h1 := hl.at hq
    by_cases e : q = 999999
    · have ea : am_av ad (.inr (.inr q)) = .null := if_pos e
      rw [ea] at h1
      exact lv_aload_nN X.1.1 X.1.2.1 hd rfl h1 (s_push ih X hl hs (v := .inr (.inr q)) (hl.2.2 _ _ hq) hx ea)
    · have ea : am_av ad (.inr (.inr q)) = .ref (ad q) := if_neg e
      rw [ea] at h1
      exact lv_aload_n X.1.1 X.1.2.1 hd rfl h1 (s_push ih X hl hs (v := .inr (.inr q)) (hl.2.2 _ _ hq) hx ea)
  · cases hx
theorem s_istore_n {i : Fin 4} (hd : decode (am_M m).2.1 pc = .ok (.istore_n i, 1)) (ih : am_Sd l n) (X : am_Cx l p e R s mt args below meth c Q D cy A m d c0 s0 r ad h H locs cells slots) (hl : am_lr ad h.1.length ls (am_M m).2.2.1 lv) (hs : am_so h.1.length st) (hx : am_FA (am_x n) d m lv h (am_istore i 1 pc lv st h) = some r) : am_Wc l p e R s mt args below meth c Q H locs cells slots pc ls (st.map (am_av ad)) := by
  unfold am_istore at hx
  split at hx
  · rename_i z rest
    cases hb : Nat.blt (i : Nat) lv.length with
    | false => rw [hb] at hx; cases hx
    | true =>
      rw [hb] at hx
      exact lv_istore_n X.1.1 X.1.2.1 hd rfl hl.2.1 (am_lr_lt hl hb) rfl (fun ls1 hl1 => ih _ _ _ _ _ _ _ hx p e R s mt args below meth c Q D cy A c0 s0 ad H locs cells slots ls1 X (am_lr_store hl (v := .inl z) (am_so_hd hs) hl1) (am_so_tl hs))
  · cases hx
theorem s_lstore_n {i : Fin 4} (hd : decode (am_M m).2.1 pc = .ok (.lstore_n i, 1)) (ih : am_Sd l n) (X : am_Cx l p e R s mt args below meth c Q D cy A m d c0 s0 r ad h H locs cells slots) (hl : am_lr ad h.1.length ls (am_M m).2.2.1 lv) (hs : am_so h.1.length st) (hx : am_FA (am_x n) d m lv h (am_lstore i 1 pc lv st h) = some r) : am_Wc l p e R s mt args below meth c Q H locs cells slots pc ls (st.map (am_av ad)) := by
  unfold am_lstore at hx
  split at hx
  · rename_i z rest
    cases hb : Nat.blt ((i : Nat) + 1) lv.length with
    | false => rw [hb] at hx; cases hx
    | true =>
      rw [hb] at hx
      exact lv_lstore_n X.1.1 X.1.2.1 hd rfl hl.2.1 (am_lr_lt hl hb) rfl (fun ls1 hl1 => ih _ _ _ _ _ _ _ hx p e R s mt args below meth c Q D cy A c0 s0 ad H locs cells slots ls1 X (am_lr_store2 hl (v := .inr (.inl z)) (am_so_hd hs) hl1) (am_so_tl hs))
  · cases hx
theorem s_astore_n {i : Fin 4} (hd : decode (am_M m).2.1 pc = .ok (.astore_n i, 1)) (ih : am_Sd l n) (X : am_Cx l p e R s mt args below meth c Q D cy A m d c0 s0 r ad h H locs cells slots) (hl : am_lr ad h.1.length ls (am_M m).2.2.1 lv) (hs : am_so h.1.length st) (hx : am_FA (am_x n) d m lv h (am_astore i 1 pc lv st h) = some r) : am_Wc l p e R s mt args below meth c Q H locs cells slots pc ls (st.map (am_av ad)) := by
  unfold am_astore at hx
  split at hx
  · rename_i q rest
    cases hb : Nat.blt (i : Nat) lv.length with
    | false => rw [hb] at hx; cases hx
    | true =>
      rw [hb] at hx
      show am_Wc l p e R s mt args below meth c Q H locs cells slots pc ls (am_av ad (.inr (.inr q)) :: rest.map (am_av ad))
      by_cases e9 : q = 999999
      · have ea : am_av ad (.inr (.inr q)) = .null := if_pos e9
        rw [ea]
        exact lv_astore_nN X.1.1 X.1.2.1 hd rfl hl.2.1 (am_lr_lt hl hb) rfl (fun ls1 hl1 => ih _ _ _ _ _ _ _ hx p e R s mt args below meth c Q D cy A c0 s0 ad H locs cells slots ls1 X (am_lr_store hl (v := .inr (.inr q)) (am_so_hd hs) (by rw [ea]; exact hl1)) (am_so_tl hs))
      · have ea : am_av ad (.inr (.inr q)) = .ref (ad q) := if_neg e9
        rw [ea]
        exact lv_astore_n X.1.1 X.1.2.1 hd rfl hl.2.1 (am_lr_lt hl hb) rfl (fun ls1 hl1 => ih _ _ _ _ _ _ _ hx p e R s mt args below meth c Q D cy A c0 s0 ad H locs cells slots ls1 X (am_lr_store hl (v := .inr (.inr q)) (am_so_hd hs) (by rw [ea]; exact hl1)) (am_so_tl hs))
  · cases hx
theorem s_iinc {i : Nat} {k : Int} (hd : decode (am_M m).2.1 pc = .ok (.iinc i k, 3)) (ih : am_Sd l n) (X : am_Cx l p e R s mt args below meth c Q D cy A m d c0 s0 r ad h H locs cells slots) (hl : am_lr ad h.1.length ls (am_M m).2.2.1 lv) (hs : am_so h.1.length st) (hx : am_FA (am_x n) d m lv h (am_iinc i k 3 pc lv st h) = some r) : am_Wc l p e R s mt args below meth c Q H locs cells slots pc ls (st.map (am_av ad)) := by
  unfold am_iinc at hx
  split at hx
  · rename_i z hz
    obtain ⟨kk, hkk⟩ := List.getElem?_of_mem (am_al_mem (ad := ad) (lv := lv) (q := (i, am_av ad (.inl z))) |>.mpr ⟨_, hz, rfl⟩)
    have hi : i < (am_M m).2.2.1 := by
      rw [← hl.1]
      rcases Nat.lt_or_ge i lv.length with q | q
      · exact q
      · rw [List.getD_eq_getElem?_getD, List.getElem?_eq_none q] at hz
        cases hz
    refine lv_iinc (x := Int32.ofInt z) (v := Int32.ofInt (am_w (z + k))) X.1.1 X.1.2.1 hd hl.2.1 hkk (by rw [am_wI, Int32.ofInt_add]) hi rfl (fun ls1 hl1 => ih _ _ _ _ _ _ _ hx p e R s mt args below meth c Q D cy A c0 s0 ad H locs cells slots ls1 X (am_lr_store hl (v := .inl (am_w (z + k))) (am_wR _) hl1) hs)
  · cases hx
theorem s_goto {off : Int} (hd : decode (am_M m).2.1 pc = .ok (.goto off, 3)) (ih : am_Sd l n) (X : am_Cx l p e R s mt args below meth c Q D cy A m d c0 s0 r ad h H locs cells slots) (hl : am_lr ad h.1.length ls (am_M m).2.2.1 lv) (hs : am_so h.1.length st) (hx : am_FA (am_x n) d m lv h (am_goto off pc lv st h) = some r) : am_Wc l p e R s mt args below meth c Q H locs cells slots pc ls (st.map (am_av ad)) := by
  unfold am_goto at hx
  cases ht : am_tk pc off with
  | false => rw [ht] at hx; cases hx
  | true =>
    rw [ht] at hx
    exact lv_goto X.1.1 X.1.2.1 hd (am_tk_tg ht) (s_on ih X hl hs hx)
theorem s_lcmp (hd : decode (am_M m).2.1 pc = .ok (.lcmp, 1)) (ih : am_Sd l n) (X : am_Cx l p e R s mt args below meth c Q D cy A m d c0 s0 r ad h H locs cells slots) (hl : am_lr ad h.1.length ls (am_M m).2.2.1 lv) (hs : am_so h.1.length st) (hx : am_FA (am_x n) d m lv h (am_lcmp pc lv st h) = some r) : am_Wc l p e R s mt args below meth c Q H locs cells slots pc ls (st.map (am_av ad)) := by
  unfold am_lcmp at hx
  split at hx
  · rename_i y x rest
    have hy : am_R64 y := am_so_hd hs
    have hx9 : am_R64 x := am_so_hd (am_so_tl hs)
    refine W.lcmp X.1.1 X.1.2.1 hd ?_
    exact s_push ih X hl (am_so_tl (am_so_tl hs)) (v := .inl (am_lc x y)) (am_lcR x y) hx (by rw [am_cmp hx9 hy]; rfl)
  · cases hx
theorem am_i2l_eq {x : Int} (hx : am_R32 x) : (Int32.ofInt x).toInt64 = Int64.ofInt x := by
  apply Int64.toInt_inj.mp
  rw [Int32.toInt_toInt64, am_toI hx, am_toL ⟨by have := hx.1; omega, by have := hx.2; omega⟩]
theorem s_i2l (hd : decode (am_M m).2.1 pc = .ok (.i2l, 1)) (ih : am_Sd l n) (X : am_Cx l p e R s mt args below meth c Q D cy A m d c0 s0 r ad h H locs cells slots) (hl : am_lr ad h.1.length ls (am_M m).2.2.1 lv) (hs : am_so h.1.length st) (hx : am_FA (am_x n) d m lv h (am_i2l pc lv st h) = some r) : am_Wc l p e R s mt args below meth c Q H locs cells slots pc ls (st.map (am_av ad)) := by
  unfold am_i2l at hx
  split at hx
  · rename_i x rest
    have hx9 : am_R32 x := am_so_hd hs
    exact lv_i2l (v := Int64.ofInt x) X.1.1 X.1.2.1 hd (am_i2l_eq hx9) (s_push ih X hl (am_so_tl hs) (v := .inr (.inl x)) ⟨by have := hx9.1; omega, by have := hx9.2; omega⟩ hx rfl)
  · cases hx
theorem s_l2i (hd : decode (am_M m).2.1 pc = .ok (.l2i, 1)) (ih : am_Sd l n) (X : am_Cx l p e R s mt args below meth c Q D cy A m d c0 s0 r ad h H locs cells slots) (hl : am_lr ad h.1.length ls (am_M m).2.2.1 lv) (hs : am_so h.1.length st) (hx : am_FA (am_x n) d m lv h (am_l2i pc lv st h) = some r) : am_Wc l p e R s mt args below meth c Q H locs cells slots pc ls (st.map (am_av ad)) := by
  unfold am_l2i at hx
  split at hx
  · rename_i x rest
    exact lv_l2i (v := Int32.ofInt (am_w x)) X.1.1 X.1.2.1 hd (by rw [am_wI, Int64.toInt32_ofInt]) (s_push ih X hl (am_so_tl hs) (v := .inl (am_w x)) (am_wR _) hx rfl)
  · cases hx
theorem am_av_c1 (q : Nat) : (am_av ad (.inr (.inr q))).category = 1 := am_cat_av ad _
theorem s_dup (hd : decode (am_M m).2.1 pc = .ok (.dup, 1)) (ih : am_Sd l n) (X : am_Cx l p e R s mt args below meth c Q D cy A m d c0 s0 r ad h H locs cells slots) (hl : am_lr ad h.1.length ls (am_M m).2.2.1 lv) (hs : am_so h.1.length st) (hx : am_FA (am_x n) d m lv h (am_dup pc lv st h) = some r) : am_Wc l p e R s mt args below meth c Q H locs cells slots pc ls (st.map (am_av ad)) := by
  unfold am_dup at hx
  split at hx
  · rename_i x rest
    exact lv_dup X.1.1 X.1.2.1 hd rfl (s_push ih X hl hs (v := .inl x) (am_so_hd hs) hx rfl)
  · rename_i x rest
    exact lv_dup X.1.1 X.1.2.1 hd (am_av_c1 x) (s_push ih X hl hs (v := .inr (.inr x)) (am_so_hd hs) hx rfl)
  · cases hx
theorem s_pop (hd : decode (am_M m).2.1 pc = .ok (.pop, 1)) (ih : am_Sd l n) (X : am_Cx l p e R s mt args below meth c Q D cy A m d c0 s0 r ad h H locs cells slots) (hl : am_lr ad h.1.length ls (am_M m).2.2.1 lv) (hs : am_so h.1.length st) (hx : am_FA (am_x n) d m lv h (am_pop pc lv st h) = some r) : am_Wc l p e R s mt args below meth c Q H locs cells slots pc ls (st.map (am_av ad)) := by
  unfold am_pop at hx
  split at hx
  · rename_i x rest
    exact lv_pop X.1.1 X.1.2.1 hd rfl (s_on ih X hl (am_so_tl hs) hx)
  · rename_i x rest
    exact lv_pop X.1.1 X.1.2.1 hd (am_av_c1 x) (s_on ih X hl (am_so_tl hs) hx)
  · cases hx
theorem s_dup2 (hd : decode (am_M m).2.1 pc = .ok (.dup2, 1)) (ih : am_Sd l n) (X : am_Cx l p e R s mt args below meth c Q D cy A m d c0 s0 r ad h H locs cells slots) (hl : am_lr ad h.1.length ls (am_M m).2.2.1 lv) (hs : am_so h.1.length st) (hx : am_FA (am_x n) d m lv h (am_dup2 pc lv st h) = some r) : am_Wc l p e R s mt args below meth c Q H locs cells slots pc ls (st.map (am_av ad)) := by
  unfold am_dup2 at hx
  split at hx
  · rename_i y x rest
    exact lv_dup2_11 X.1.1 X.1.2.1 hd rfl (am_av_c1 x) (s_on ih X hl (st' := .inl y :: .inr (.inr x) :: .inl y :: .inr (.inr x) :: rest) (am_so_cons (am_so_hd hs) (am_so_cons (am_so_hd (am_so_tl hs)) hs)) hx)
  · cases hx
theorem s_tsw {dflt lo hi : Int} {offs : Array Int} {len : Nat} (hsz : (offs.size : Int) = hi - lo + 1) (hd : decode (am_M m).2.1 pc = .ok (.tableswitch dflt lo hi offs, len)) (ih : am_Sd l n) (X : am_Cx l p e R s mt args below meth c Q D cy A m d c0 s0 r ad h H locs cells slots) (hl : am_lr ad h.1.length ls (am_M m).2.2.1 lv) (hs : am_so h.1.length st) (hx : am_FA (am_x n) d m lv h (am_tsw dflt lo hi offs pc lv st h) = some r) : am_Wc l p e R s mt args below meth c Q H locs cells slots pc ls (st.map (am_av ad)) := by
  unfold am_tsw at hx
  split at hx
  · rename_i x rest
    have hx9 : am_R32 x := am_so_hd hs
    obtain ⟨hb, hx⟩ := am_FA_ck hx
    have tg := am_tk_tg hb
    have hon := s_on ih X hl (am_so_tl hs) hx
    by_cases hc : x < lo ∨ hi < x
    · have es : am_swo dflt lo hi offs x = dflt := if_pos hc
      rw [es] at tg hon
      exact lv_tableOut X.1.1 X.1.2.1 hd (by rw [am_toI hx9]; exact hc) tg hon
    · have es : am_swo dflt lo hi offs x = offs.toList.getD (x - lo).toNat (-1000000) := if_neg hc
      rw [es] at tg hon hb
      cases ho : offs[(x - lo).toNat]? with
      | none =>
        have h9 := Array.getElem?_eq_none_iff.mp ho
        omega
      | some off =>
        rw [List.getD_eq_getElem?_getD, Array.getElem?_toList, ho] at hon tg
        exact lv_tableIn X.1.1 X.1.2.1 hd (by rw [am_toI hx9]; omega) (by rw [am_toI hx9]; omega) (off := off) (by rw [am_toI hx9]; exact ho) tg hon
  · cases hx
end AML
