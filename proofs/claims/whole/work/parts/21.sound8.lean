/-! THE ABSTRACT MACHINE'S RUNS ARE THE REAL ONE'S: lookupswitch, Math, Object's constructor, System.arraycopy -/
section AMP
variable {l : Launch} {p : Program} {e : Env} {R : Room} {s : State} {mt : MethodId} {args : Array Value} {below : List Frame} {meth : Method} {c : Code} {Q : State → Prop} {D : va_G} {cy : Nat → ClassId} {A : Nat → Prop} {m d c0 s0 : Nat} {r : am_Res} {ad : Nat → Nat} {h : am_H} {H : Heap} {locs : List Loc} {cells slots : Nat} {ls : Array Slot} {lv : am_L} {st : List am_V} {pc n : Nat}
theorem am_lso_eq (ps : List (Int × Int)) (dflt x : Int) : Op.lookupswitch.offset ps dflt x = am_lso ps dflt x := by
  induction ps with
  | nil => rfl
  | cons q r ih =>
    obtain ⟨a, o⟩ := q
    rw [Op.lookupswitch.offset_cons, ih]
    unfold am_lso
    by_cases hx : x = a
    · rw [if_pos hx.symm, if_pos hx]
    · rw [if_neg (fun e => hx e.symm), if_neg hx]
      cases r <;> rfl
theorem s_lsw {dflt : Int} {ps : Array (Int × Int)} {len : Nat} (hd : decode (am_M m).2.1 pc = .ok (.lookupswitch dflt ps, len)) (ih : am_Sd l n) (X : am_Cx l p e R s mt args below meth c Q D cy A m d c0 s0 r ad h H locs cells slots) (hl : am_lr ad h.1.length ls (am_M m).2.2.1 lv) (hs : am_so h.1.length st) (hx : am_FA (am_x n) d m lv h (am_lsw dflt ps pc lv st h) = some r) : am_Wc l p e R s mt args below meth c Q H locs cells slots pc ls (st.map (am_av ad)) := by
  unfold am_lsw at hx
  split at hx
  · rename_i x rest
    have hx9 : am_R32 x := am_so_hd hs
    cases hsr : am_srt ps.toList with
    | false => rw [hsr] at hx; cases hx
    | true =>
      rw [hsr] at hx
      obtain ⟨hb, hx⟩ := am_FA_ck hx
      exact lv_lookup X.1.1 X.1.2.1 hd hsr (off := am_lso ps.toList dflt x) (by rw [am_toI hx9, am_lso_eq]) (am_tk_tg hb) (s_on ih X hl (am_so_tl hs) hx)
  · cases hx
theorem am_now {pc' : Nat} {lv' : am_L} {st' : List am_V} {h' : am_H} (X : am_Cx l p e R s mt args below meth c Q D cy A m d c0 s0 r ad h H locs cells slots) (h4 : h'.2.2.2 = h.2.2.2) (hx : am_x n d m pc' lv' st' h' = some r) : cells ≤ R.cells ∧ slots ≤ R.slots := by
  have g := am_x_grow _ _ _ _ _ _ _ _ hx
  have g1 : h'.2.2.2.1 ≤ r.2.2.2.2.1 := g.1
  have g2 : h'.2.2.2.2.1 ≤ r.2.2.2.2.2.1 := g.2.1
  rw [h4] at g1 g2
  obtain ⟨-, -, -, -, Xn, Xm, -⟩ := X
  omega
theorem am_vimax {x y : Int} (hx : am_R32 x) (hy : am_R32 y) : (if Int32.ofInt x < Int32.ofInt y then Int32.ofInt y else Int32.ofInt x) = Int32.ofInt (am_imax x y) ∧ am_R32 (am_imax x y) := by
  unfold am_imax
  by_cases q : x < y
  · rw [if_pos ((am_lt hx hy).mpr q), if_pos q]; exact ⟨rfl, hy⟩
  · rw [if_neg (fun z => q ((am_lt hx hy).mp z)), if_neg q]; exact ⟨rfl, hx⟩
theorem am_vimin {x y : Int} (hx : am_R32 x) (hy : am_R32 y) : (if Int32.ofInt y < Int32.ofInt x then Int32.ofInt y else Int32.ofInt x) = Int32.ofInt (am_imin x y) ∧ am_R32 (am_imin x y) := by
  unfold am_imin
  by_cases q : y < x
  · rw [if_pos ((am_lt hy hx).mpr q), if_pos q]; exact ⟨rfl, hy⟩
  · rw [if_neg (fun z => q ((am_lt hy hx).mp z)), if_neg q]; exact ⟨rfl, hx⟩
theorem am_viabs {x : Int} (hx : am_R32 x) : (if 0 ≤ Int32.ofInt x then Int32.ofInt x else 0 - Int32.ofInt x) = Int32.ofInt (am_iabs x) ∧ am_R32 (am_iabs x) := by
  unfold am_iabs
  by_cases q : 0 ≤ x
  · rw [if_pos (by rw [← am_o0, am_le am_R0 hx]; exact q), if_pos q]; exact ⟨rfl, hx⟩
  · rw [if_neg (by rw [← am_o0, am_le am_R0 hx]; exact q), if_neg q]; exact ⟨by rw [am_wI, Int32.ofInt_sub]; rfl, am_wR _⟩
theorem am_ltL {x y : Int} (hx : am_R64 x) (hy : am_R64 y) : Int64.ofInt x < Int64.ofInt y ↔ x < y := by rw [Int64.lt_iff_toInt_lt, am_toL hx, am_toL hy]
theorem am_vlmax {x y : Int} (hx : am_R64 x) (hy : am_R64 y) : (if Int64.ofInt y < Int64.ofInt x then Int64.ofInt x else Int64.ofInt y) = Int64.ofInt (am_lmax x y) ∧ am_R64 (am_lmax x y) := by
  unfold am_lmax
  by_cases q : y < x
  · rw [if_pos ((am_ltL hy hx).mpr q), if_pos q]; exact ⟨rfl, hx⟩
  · rw [if_neg (fun z => q ((am_ltL hy hx).mp z)), if_neg q]; exact ⟨rfl, hy⟩
theorem am_vlmin {x y : Int} (hx : am_R64 x) (hy : am_R64 y) : (if Int64.ofInt y < Int64.ofInt x then Int64.ofInt y else Int64.ofInt x) = Int64.ofInt (am_lmin x y) ∧ am_R64 (am_lmin x y) := by
  unfold am_lmin
  by_cases q : y < x
  · rw [if_pos ((am_ltL hy hx).mpr q), if_pos q]; exact ⟨rfl, hy⟩
  · rw [if_neg (fun z => q ((am_ltL hy hx).mp z)), if_neg q]; exact ⟨rfl, hx⟩
theorem am_vlabs {x : Int} (hx : am_R64 x) : (if 0 < Int64.ofInt x then Int64.ofInt x else -Int64.ofInt x) = Int64.ofInt (am_labs x) ∧ am_R64 (am_labs x) := by
  have h0 : (0 : Int64) = Int64.ofInt 0 := rfl
  have r0 : am_R64 0 := ⟨by decide, by decide⟩
  unfold am_labs
  by_cases q : 0 < x
  · rw [if_pos (by rw [h0, am_ltL r0 hx]; exact q), if_pos q]; exact ⟨rfl, hx⟩
  · rw [if_neg (by rw [h0, am_ltL r0 hx]; exact q), if_neg q]; exact ⟨by rw [am_wL, Int64.ofInt_neg], am_wR64 _⟩
theorem s_mabs {idx a b w : Nat} {z : Int} (hd : decode (am_M m).2.1 pc = .ok (.invokestatic idx, 3)) (hp : am_pool m idx = some (20, a, b, z, w)) (ih : am_Sd l n) (X : am_Cx l p e R s mt args below meth c Q D cy A m d c0 s0 r ad h H locs cells slots) (hl : am_lr ad h.1.length ls (am_M m).2.2.1 lv) (hs : am_so h.1.length st) (hx : am_FA (am_x n) d m lv h (am_mu1 am_iabs d pc lv st h) = some r) : am_Wc l p e R s mt args below meth c Q H locs cells slots pc ls (st.map (am_av ad)) := by
  have w1 : Cond.methodLink (am_cn (am_own m)) idx yJ9_abs_0f7a4 ∈ am_ts := am_pool_ok hp
  unfold am_mu1 at hx
  split at hx
  · rename_i x rest
    have hx9 : am_R32 x := am_so_hd hs
    cases hg : (Nat.ble 1 d && am_rm rest) with
    | false => rw [hg] at hx; cases hx
    | true =>
      rw [hg] at hx
      rw [Bool.and_eq_true] at hg
      have g1 := Nat.le_of_ble_eq_true hg.1
      have g2 := am_rm_av (ad := ad) hg.2
      obtain ⟨Xr1, Xr2⟩ := X.2.2.2.1
      obtain ⟨n1, n2⟩ := am_now X rfl hx
      obtain ⟨v1, v2⟩ := am_viabs hx9
      refine va_mabs X.1.1 X.1.2.1 (X.1.2.2.1.trans hl.2.1.1.symm) X.1.2.2.2.1 (X.1.2.2.2.2.1 (.methodLink _ _ Lib.Math.abs.name) w1) (X.1.2.2.2.2.1 _ am_msta_J9_abs_0f7a4) (X.1.2.2.2.2.1 _ am_ini_math) (X.1.2.2.2.2.1 _ am_mcode_J9_abs_0f7a4) (by omega) (by omega) n1 n2 hd ?_
      rw [v1]
      exact s_push ih X hl (am_so_tl hs) (v := .inl (am_iabs x)) v2 hx rfl
  · cases hx
theorem s_mabsL {idx a b w : Nat} {z : Int} (hd : decode (am_M m).2.1 pc = .ok (.invokestatic idx, 3)) (hp : am_pool m idx = some (21, a, b, z, w)) (ih : am_Sd l n) (X : am_Cx l p e R s mt args below meth c Q D cy A m d c0 s0 r ad h H locs cells slots) (hl : am_lr ad h.1.length ls (am_M m).2.2.1 lv) (hs : am_so h.1.length st) (hx : am_FA (am_x n) d m lv h (am_ml1 am_labs d pc lv st h) = some r) : am_Wc l p e R s mt args below meth c Q H locs cells slots pc ls (st.map (am_av ad)) := by
  have w1 : Cond.methodLink (am_cn (am_own m)) idx yJ9_abs_067f4 ∈ am_ts := am_pool_ok hp
  unfold am_ml1 at hx
  split at hx
  · rename_i x rest
    have hx9 : am_R64 x := am_so_hd hs
    cases hg : (Nat.ble 1 d && am_rm rest) with
    | false => rw [hg] at hx; cases hx
    | true =>
      rw [hg] at hx
      rw [Bool.and_eq_true] at hg
      have g1 := Nat.le_of_ble_eq_true hg.1
      have g2 := am_rm_av (ad := ad) hg.2
      obtain ⟨Xr1, Xr2⟩ := X.2.2.2.1
      obtain ⟨n1, n2⟩ := am_now X rfl hx
      obtain ⟨v1, v2⟩ := am_vlabs hx9
      refine va_mabs_long X.1.1 X.1.2.1 (X.1.2.2.1.trans hl.2.1.1.symm) X.1.2.2.2.1 (X.1.2.2.2.2.1 (.methodLink _ _ Lib.MathLoose.abs_long.x) w1) (X.1.2.2.2.2.1 _ am_msta_J9_abs_067f4) (X.1.2.2.2.2.1 _ am_ini_math) (X.1.2.2.2.2.1 _ am_mcode_J9_abs_067f4) (by omega) (by omega) n1 n2 hd ?_
      rw [v1]
      exact s_push ih X hl (am_so_tl hs) (v := .inr (.inl (am_labs x))) v2 hx rfl
  · cases hx
theorem s_mmax {idx a b w : Nat} {z : Int} (hd : decode (am_M m).2.1 pc = .ok (.invokestatic idx, 3)) (hp : am_pool m idx = some (22, a, b, z, w)) (ih : am_Sd l n) (X : am_Cx l p e R s mt args below meth c Q D cy A m d c0 s0 r ad h H locs cells slots) (hl : am_lr ad h.1.length ls (am_M m).2.2.1 lv) (hs : am_so h.1.length st) (hx : am_FA (am_x n) d m lv h (am_mu2 am_imax d pc lv st h) = some r) : am_Wc l p e R s mt args below meth c Q H locs cells slots pc ls (st.map (am_av ad)) := by
  have w1 : Cond.methodLink (am_cn (am_own m)) idx yJ9_max_7cf53 ∈ am_ts := am_pool_ok hp
  unfold am_mu2 at hx
  split at hx
  · rename_i y x rest
    have hy9 : am_R32 y := am_so_hd hs
    have hx9 : am_R32 x := am_so_hd (am_so_tl hs)
    cases hg : (Nat.ble 1 d && am_rm rest) with
    | false => rw [hg] at hx; cases hx
    | true =>
      rw [hg] at hx
      rw [Bool.and_eq_true] at hg
      have g1 := Nat.le_of_ble_eq_true hg.1
      have g2 := am_rm_av (ad := ad) hg.2
      obtain ⟨Xr1, Xr2⟩ := X.2.2.2.1
      obtain ⟨n1, n2⟩ := am_now X rfl hx
      obtain ⟨v1, v2⟩ := am_vimax hx9 hy9
      refine va_mmax X.1.1 X.1.2.1 (X.1.2.2.1.trans hl.2.1.1.symm) X.1.2.2.2.1 (X.1.2.2.2.2.1 (.methodLink _ _ Lib.Math.max.name) w1) (X.1.2.2.2.2.1 _ am_msta_J9_max_7cf53) (X.1.2.2.2.2.1 _ am_ini_math) (X.1.2.2.2.2.1 _ am_mcode_J9_max_7cf53) (by omega) (by omega) n1 n2 hd ?_
      rw [v1]
      exact s_push ih X hl (am_so_tl (am_so_tl hs)) (v := .inl (am_imax x y)) v2 hx rfl
  · cases hx
theorem s_mmaxL {idx a b w : Nat} {z : Int} (hd : decode (am_M m).2.1 pc = .ok (.invokestatic idx, 3)) (hp : am_pool m idx = some (23, a, b, z, w)) (ih : am_Sd l n) (X : am_Cx l p e R s mt args below meth c Q D cy A m d c0 s0 r ad h H locs cells slots) (hl : am_lr ad h.1.length ls (am_M m).2.2.1 lv) (hs : am_so h.1.length st) (hx : am_FA (am_x n) d m lv h (am_ml2 am_lmax d pc lv st h) = some r) : am_Wc l p e R s mt args below meth c Q H locs cells slots pc ls (st.map (am_av ad)) := by
  have w1 : Cond.methodLink (am_cn (am_own m)) idx yJ9_max_f86c9 ∈ am_ts := am_pool_ok hp
  unfold am_ml2 at hx
  split at hx
  · rename_i y x rest
    have hy9 : am_R64 y := am_so_hd hs
    have hx9 : am_R64 x := am_so_hd (am_so_tl hs)
    cases hg : (Nat.ble 1 d && am_rm rest) with
    | false => rw [hg] at hx; cases hx
    | true =>
      rw [hg] at hx
      rw [Bool.and_eq_true] at hg
      have g1 := Nat.le_of_ble_eq_true hg.1
      have g2 := am_rm_av (ad := ad) hg.2
      obtain ⟨Xr1, Xr2⟩ := X.2.2.2.1
      obtain ⟨n1, n2⟩ := am_now X rfl hx
      obtain ⟨v1, v2⟩ := am_vlmax hx9 hy9
      refine va_mmax_long X.1.1 X.1.2.1 (X.1.2.2.1.trans hl.2.1.1.symm) X.1.2.2.2.1 (X.1.2.2.2.2.1 (.methodLink _ _ Lib.MathLoose.max_long.x) w1) (X.1.2.2.2.2.1 _ am_msta_J9_max_f86c9) (X.1.2.2.2.2.1 _ am_ini_math) (X.1.2.2.2.2.1 _ am_mcode_J9_max_f86c9) (by omega) (by omega) n1 n2 hd ?_
      rw [v1]
      exact s_push ih X hl (am_so_tl (am_so_tl hs)) (v := .inr (.inl (am_lmax x y))) v2 hx rfl
  · cases hx
theorem s_mmin {idx a b w : Nat} {z : Int} (hd : decode (am_M m).2.1 pc = .ok (.invokestatic idx, 3)) (hp : am_pool m idx = some (24, a, b, z, w)) (ih : am_Sd l n) (X : am_Cx l p e R s mt args below meth c Q D cy A m d c0 s0 r ad h H locs cells slots) (hl : am_lr ad h.1.length ls (am_M m).2.2.1 lv) (hs : am_so h.1.length st) (hx : am_FA (am_x n) d m lv h (am_mu2 am_imin d pc lv st h) = some r) : am_Wc l p e R s mt args below meth c Q H locs cells slots pc ls (st.map (am_av ad)) := by
  have w1 : Cond.methodLink (am_cn (am_own m)) idx yJ9_min_7cf53 ∈ am_ts := am_pool_ok hp
  unfold am_mu2 at hx
  split at hx
  · rename_i y x rest
    have hy9 : am_R32 y := am_so_hd hs
    have hx9 : am_R32 x := am_so_hd (am_so_tl hs)
    cases hg : (Nat.ble 1 d && am_rm rest) with
    | false => rw [hg] at hx; cases hx
    | true =>
      rw [hg] at hx
      rw [Bool.and_eq_true] at hg
      have g1 := Nat.le_of_ble_eq_true hg.1
      have g2 := am_rm_av (ad := ad) hg.2
      obtain ⟨Xr1, Xr2⟩ := X.2.2.2.1
      obtain ⟨n1, n2⟩ := am_now X rfl hx
      obtain ⟨v1, v2⟩ := am_vimin hx9 hy9
      refine va_mmin X.1.1 X.1.2.1 (X.1.2.2.1.trans hl.2.1.1.symm) X.1.2.2.2.1 (X.1.2.2.2.2.1 (.methodLink _ _ Lib.Math.min.name) w1) (X.1.2.2.2.2.1 _ am_msta_J9_min_7cf53) (X.1.2.2.2.2.1 _ am_ini_math) (X.1.2.2.2.2.1 _ am_mcode_J9_min_7cf53) (by omega) (by omega) n1 n2 hd ?_
      rw [v1]
      exact s_push ih X hl (am_so_tl (am_so_tl hs)) (v := .inl (am_imin x y)) v2 hx rfl
  · cases hx
theorem s_mminL {idx a b w : Nat} {z : Int} (hd : decode (am_M m).2.1 pc = .ok (.invokestatic idx, 3)) (hp : am_pool m idx = some (25, a, b, z, w)) (ih : am_Sd l n) (X : am_Cx l p e R s mt args below meth c Q D cy A m d c0 s0 r ad h H locs cells slots) (hl : am_lr ad h.1.length ls (am_M m).2.2.1 lv) (hs : am_so h.1.length st) (hx : am_FA (am_x n) d m lv h (am_ml2 am_lmin d pc lv st h) = some r) : am_Wc l p e R s mt args below meth c Q H locs cells slots pc ls (st.map (am_av ad)) := by
  have w1 : Cond.methodLink (am_cn (am_own m)) idx yJ9_min_f86c9 ∈ am_ts := am_pool_ok hp
  unfold am_ml2 at hx
  split at hx
  · rename_i y x rest
    have hy9 : am_R64 y := am_so_hd hs
    have hx9 : am_R64 x := am_so_hd (am_so_tl hs)
    cases hg : (Nat.ble 1 d && am_rm rest) with
    | false => rw [hg] at hx; cases hx
    | true =>
      rw [hg] at hx
      rw [Bool.and_eq_true] at hg
      have g1 := Nat.le_of_ble_eq_true hg.1
      have g2 := am_rm_av (ad := ad) hg.2
      obtain ⟨Xr1, Xr2⟩ := X.2.2.2.1
      obtain ⟨n1, n2⟩ := am_now X rfl hx
      obtain ⟨v1, v2⟩ := am_vlmin hx9 hy9
      refine va_mmin_long X.1.1 X.1.2.1 (X.1.2.2.1.trans hl.2.1.1.symm) X.1.2.2.2.1 (X.1.2.2.2.2.1 (.methodLink _ _ Lib.MathLoose.min_long.x) w1) (X.1.2.2.2.2.1 _ am_msta_J9_min_f86c9) (X.1.2.2.2.2.1 _ am_ini_math) (X.1.2.2.2.2.1 _ am_mcode_J9_min_f86c9) (by omega) (by omega) n1 n2 hd ?_
      rw [v1]
      exact s_push ih X hl (am_so_tl (am_so_tl hs)) (v := .inr (.inl (am_lmin x y))) v2 hx rfl
  · cases hx
theorem s_obj {idx a b w : Nat} {z : Int} (hd : decode (am_M m).2.1 pc = .ok (.invokespecial idx, 3)) (hp : am_pool m idx = some (5, a, b, z, w)) (ih : am_Sd l n) (X : am_Cx l p e R s mt args below meth c Q D cy A m d c0 s0 r ad h H locs cells slots) (hl : am_lr ad h.1.length ls (am_M m).2.2.1 lv) (hs : am_so h.1.length st) (hx : am_FA (am_x n) d m lv h (am_obj d pc lv st h) = some r) : am_Wc l p e R s mt args below meth c Q H locs cells slots pc ls (st.map (am_av ad)) := by
  have w1 : Cond.methodLink (am_cn (am_own m)) idx objectInit ∈ am_ts := am_pool_ok hp
  unfold am_obj at hx
  split at hx
  · rename_i q rest
    cases hg : (Nat.ble 1 d && am_rm rest) with
    | false => rw [hg] at hx; cases hx
    | true =>
      rw [hg] at hx
      obtain ⟨hb, hx⟩ := am_FA_ck hx
      have hq : q ≠ 999999 := by
        intro e9
        subst e9
        cases hb
      rw [Bool.and_eq_true] at hg
      have g1 := Nat.le_of_ble_eq_true hg.1
      have g2 := am_rm_av (ad := ad) hg.2
      obtain ⟨Xr1, Xr2⟩ := X.2.2.2.1
      show am_Wc l p e R s mt args below meth c Q H locs cells slots pc ls (am_av ad (.inr (.inr q)) :: rest.map (am_av ad))
      rw [am_ref_av2 hq]
      exact W.objInit X.1.1 X.1.2.1 X.1.2.2.2.1 (X.1.2.2.2.2.1 _ w1) (X.1.2.2.2.2.1 _ am_inst_obj) (X.1.2.2.2.2.1 _ am_code_obj) rfl (hl.2.1.1.trans X.1.2.2.1.symm) rfl hd (by omega) (by show 2 * 0 + ((rest.map (am_av ad)).map fun v => v.category).sum + 12 ≤ R.locals; omega) (s_on ih X hl (am_so_tl hs) hx)
  · cases hx
end AMP
