/-! WHAT THE ABSTRACT MACHINE'S STATE SAYS OF THE REAL ONE'S -/
theorem am_toI {z : Int} (h : am_R32 z) : (Int32.ofInt z).toInt = z := Int32.toInt_ofInt_of_le (by have := h.1; omega) (by have := h.2; omega)
theorem am_toL {z : Int} (h : am_R64 z) : (Int64.ofInt z).toInt = z := Int64.toInt_ofInt_of_le (by have := h.1; omega) (by have := h.2; omega)
theorem am_R32_of (x : Int32) : am_R32 x.toInt := ⟨by have := x.le_toInt; omega, by have := x.toInt_lt; omega⟩
theorem am_R64_of (x : Int64) : am_R64 x.toInt := ⟨by have := x.le_toInt; omega, by have := x.toInt_lt; omega⟩
theorem am_wI (z : Int) : Int32.ofInt (am_w z) = Int32.ofInt z := Int32.toInt_inj.mp (by simp [am_w])
theorem am_wL (z : Int) : Int64.ofInt (am_w64 z) = Int64.ofInt z := Int64.toInt_inj.mp (by simp [am_w64])
theorem am_wR (z : Int) : am_R32 (am_w z) := by
  have h : am_w z = (Int32.ofInt z).toInt := by simp [am_w]
  rw [h]
  exact am_R32_of _
theorem am_wR64 (z : Int) : am_R64 (am_w64 z) := by
  have h : am_w64 z = (Int64.ofInt z).toInt := by simp [am_w64]
  rw [h]
  exact am_R64_of _
theorem am_lt {x y : Int} (hx : am_R32 x) (hy : am_R32 y) : Int32.ofInt x < Int32.ofInt y ↔ x < y := by rw [Int32.lt_iff_toInt_lt, am_toI hx, am_toI hy]
theorem am_le {x y : Int} (hx : am_R32 x) (hy : am_R32 y) : Int32.ofInt x ≤ Int32.ofInt y ↔ x ≤ y := by rw [Int32.le_iff_toInt_le, am_toI hx, am_toI hy]
theorem am_eq {x y : Int} (hx : am_R32 x) (hy : am_R32 y) : Int32.ofInt x = Int32.ofInt y ↔ x = y := by rw [← Int32.toInt_inj, am_toI hx, am_toI hy]
theorem am_R0 : am_R32 0 := ⟨by decide, by decide⟩
theorem am_o0 : Int32.ofInt 0 = 0 := rfl
theorem am_ne0 {y : Int} (hy : am_R32 y) (h : y ≠ 0) : ¬ Int32.ofInt y = 0 := by rw [← am_o0, am_eq hy am_R0]; exact h
theorem am_ne0L {y : Int} (hy : am_R64 y) (h : y ≠ 0) : ¬ Int64.ofInt y = 0 := by
  intro q
  have := congrArg Int64.toInt q
  rw [am_toL hy] at this
  exact h this
theorem am_tdiv {x y : Int} (hx : am_R32 x) (hy : am_R32 y) : Int32.ofInt x / Int32.ofInt y = Int32.ofInt (am_w (Int.tdiv x y)) := by
  rw [am_wI]
  apply Int32.toInt_inj.mp
  rw [Int32.toInt_div, am_toI hx, am_toI hy, Int32.toInt_ofInt]
theorem am_tmod {x y : Int} (hx : am_R32 x) (hy : am_R32 y) : Int32.ofInt x % Int32.ofInt y = Int32.ofInt (Int.tmod x y) := by
  rw [← Int32.ofInt_toInt (Int32.ofInt x % Int32.ofInt y), Int32.toInt_mod, am_toI hx, am_toI hy]
theorem am_tmodR {x y : Int} (hx : am_R32 x) (hy : am_R32 y) : am_R32 (Int.tmod x y) := by
  have h := Int32.toInt_mod (Int32.ofInt x) (Int32.ofInt y)
  rw [am_toI hx, am_toI hy] at h
  rw [← h]
  exact am_R32_of _
theorem am_tdivL {x y : Int} (hx : am_R64 x) (hy : am_R64 y) : Int64.ofInt x / Int64.ofInt y = Int64.ofInt (am_w64 (Int.tdiv x y)) := by
  rw [am_wL]
  apply Int64.toInt_inj.mp
  rw [Int64.toInt_div, am_toL hx, am_toL hy, Int64.toInt_ofInt]
theorem am_tmodL {x y : Int} (hx : am_R64 x) (hy : am_R64 y) : Int64.ofInt x % Int64.ofInt y = Int64.ofInt (Int.tmod x y) := by
  rw [← Int64.ofInt_toInt (Int64.ofInt x % Int64.ofInt y), Int64.toInt_mod, am_toL hx, am_toL hy]
theorem am_tmodRL {x y : Int} (hx : am_R64 x) (hy : am_R64 y) : am_R64 (Int.tmod x y) := by
  have h := Int64.toInt_mod (Int64.ofInt x) (Int64.ofInt y)
  rw [am_toL hx, am_toL hy] at h
  rw [← h]
  exact am_R64_of _
theorem am_cmp {x y : Int} (hx : am_R64 x) (hy : am_R64 y) : lg_cmp (Int64.ofInt x) (Int64.ofInt y) = Int32.ofInt (am_lc x y) := by
  unfold lg_cmp am_lc
  simp only [gt_iff_lt, Int64.lt_iff_toInt_lt, ← Int64.toInt_inj, am_toL hx, am_toL hy]
  repeat' split
  all_goals rfl
theorem am_lcR (x y : Int) : am_R32 (am_lc x y) := by
  unfold am_lc am_R32
  repeat' split
  all_goals omega
theorem am_nn {i : Int} (hi : am_R32 i) : (Int32.ofInt i).toNatClampNeg = i.toNat := Int32.toNatClampNeg_ofInt_of_le (by have := hi.1; omega) (by have := hi.2; omega)
theorem am_vin {i : Int} {n : Nat} (hi : am_R32 i) (h : am_in i n = true) : vp_in (Int32.ofInt i) n := by
  have h : 0 ≤ i ∧ i < (n : Int) := by simpa [am_in] using h
  unfold vp_in
  rw [am_nn hi, ← am_o0, am_lt hi am_R0]
  omega
/-- a value -/
def am_av (ad : Nat → Nat) (v : am_V) : Value := match v with
  | .inl z => .int (Int32.ofInt z)
  | .inr (.inl z) => .long (Int64.ofInt z)
  | .inr (.inr r) => if r = 999999 then .null else .ref (ad r)
def am_okv (n : Nat) (v : am_V) : Prop := match v with
  | .inl z => am_R32 z
  | .inr (.inl z) => am_R64 z
  | .inr (.inr r) => r < n ∨ 999999 ≤ r
theorem am_okv_mono {n k : Nat} (hk : n ≤ k) {v : am_V} (h : am_okv n v) : am_okv k v := by
  match v, h with
  | .inl _, h => exact h
  | .inr (.inl _), h => exact h
  | .inr (.inr r), h => exact h.imp (fun q => Nat.lt_of_lt_of_le q hk) id
theorem am_av_ad {n : Nat} {ad ad' : Nat → Nat} (hA : ∀ p, p < n ∨ 999999 ≤ p → ad' p = ad p) {v : am_V} (h : am_okv n v) : am_av ad' v = am_av ad v := by
  match v, h with
  | .inl _, _ => rfl
  | .inr (.inl _), _ => rfl
  | .inr (.inr p), h =>
    show (if p = 999999 then Value.null else .ref (ad' p)) = if p = 999999 then Value.null else .ref (ad p)
    rw [hA p h]
theorem am_cat_av (ad : Nat → Nat) (v : am_V) : (am_av ad v).category = am_cat v := by
  match v with
  | .inl _ => rfl
  | .inr (.inl _) => rfl
  | .inr (.inr p) =>
    show (if p = 999999 then Value.null else .ref (ad p)).category = 1
    split <;> rfl
theorem am_rm_av {ad : Nat → Nat} {st : List am_V} (h : am_rm st = true) : ((st.map (am_av ad)).map fun v => v.category).sum ≤ 8 := by
  have h : (st.map am_cat).sum ≤ 8 := Nat.le_of_ble_eq_true h
  have e : (st.map (am_av ad)).map (fun v => v.category) = st.map am_cat := by
    rw [List.map_map]
    exact List.map_congr_left fun v _ => am_cat_av ad v
  rw [e]
  exact h
/-- the cells -/
def am_ce (cy : Nat → ClassId) (ad : Nat → Nat) (h : am_H) (p : Nat) (kl : Nat × Nat) : va_E :=
  bif Nat.blt kl.1 20 then .inr (kl.1, (List.range kl.2).map (fun k => am_av ad (am_fv (am_fty kl.1 k) h p k))) else bif Nat.beq kl.1 23 then .inl (cy 23, kl.2, .inr (.inl (fun j => Int64.ofInt (h.2.2.1 p j)))) else .inl (cy kl.1, kl.2, .inl (fun j => Int32.ofInt (h.2.2.1 p j)))
def am_ws (cy : Nat → ClassId) (ad : Nat → Nat) (h : am_H) : va_W := h.1.mapIdx (fun p kl => (ad p, am_ce cy ad h p kl))
theorem am_ws_at (cy : Nat → ClassId) (ad : Nat → Nat) (h : am_H) (p : Nat) : (am_ws cy ad h)[p]? = (h.1[p]?).map (fun kl => (ad p, am_ce cy ad h p kl)) := by
  unfold am_ws
  rw [List.getElem?_mapIdx]
def am_nf (c : Nat) : Nat := (am_FT.getD c []).length
def am_G (h : am_H) : Prop := h.1.length ≤ 999999 ∧ (∀ (p : Nat) (kl : Nat × Nat), h.1[p]? = some kl → (kl.1 < 20 → kl.1 < 11 ∧ kl.2 = am_nf kl.1 ∧ ∀ k, k < kl.2 → am_okv h.1.length (am_fv (am_fty kl.1 k) h p k)) ∧ (20 ≤ kl.1 → kl.1 ≤ 23 ∧ (kl.1 = 23 → ∀ j, j < kl.2 → am_R64 (h.2.2.1 p j)) ∧ (kl.1 ≠ 23 → ∀ j, j < kl.2 → am_R32 (h.2.2.1 p j)))) ∧ ∀ (p j : Nat), 1000000 ≤ p → am_R32 (h.2.2.1 p j)
def am_tys (cy : Nat → ClassId) : List (ClassId × FieldType) := [(cy 20, .int), (cy 21, .byte), (cy 22, .boolean), (cy 23, .long)]
def am_SL : List Nat := [110, 110]
def am_SB : List (List Int32) := am_STR.map (fun l => l.map Int32.ofInt)
/-- the two String constants, and what String's own methods ask of the tables -/
def am_Y (ad : Nat → Nat) (A : Nat → Prop) (s : State) (H : Heap) : Prop :=
  vk_R "SecondTelling$Tokens" 19 "man thing sees way tell near far talk seed law change fits print hats bent old apart many told day not and or " (ad 1000003) s ∧ vk_R "SecondTellingModel" 194 "man thing sees way tell near far talk seed law change fits print or and not hats bent old apart many told day " (ad 1000004) s ∧ vk_S 2 am_SL am_SB (fun i => ad (1000003 + i)) (fun i => ad (1000005 + i)) A s H ∧ va_Z "java/lang/String" "COMPACT_STRINGS" "Z" (.int 1) A s H ∧ va_Zq "jdk/internal/util/Preconditions" "SIOOBE_FORMATTER" "Ljava/util/function/BiFunction;" A s H
/-- what nobody writes: the script, two static rows -/
def am_X (ad : Nat → Nat) (A : Nat → Prop) (s : State) (H : Heap) (h : am_H) : Prop :=
  va_Z "SecondTelling" "SETTING_AT_FIRST" "[I" (.ref (ad 1000001)) A s H ∧ va_Z "SecondTelling" "SETTING_MOST" "[I" (.ref (ad 1000002)) A s H ∧ (∀ k, k < 3 → va_T .int (ad (1000000 + k)) (am_kl h (1000000 + k)).2 (fun j => .int (Int32.ofInt (h.2.2.1 (1000000 + k) j))) A s H) ∧ va_Nw (.fieldLinkNest "SecondTelling$Story" 48 "SecondTelling" "SETTING_AT_FIRST" "[I" "SecondTelling") s ∧ va_Nw (.fieldLinkNest "SecondTelling$Reader" 159 "SecondTelling" "SETTING_MOST" "[I" "SecondTelling") s ∧ am_Y ad A s H
def am_Rp (D : va_G) (cy : Nat → ClassId) (ad : Nat → Nat) (A : Nat → Prop) (s : State) (h : am_H) (H : Heap) (locs : List Loc) : Prop :=
  va_K D vwCl (am_tys cy) s ∧ va_P D vwCl (am_ws cy ad h) H ∧ va_D A (am_ws cy ad h) ∧ va_S A s.heap H locs ∧ (∀ q, s.heap.size ≤ q → A q) ∧ am_G h ∧ am_X ad A s s.heap h
/-- the locals -/
def am_al (ad : Nat → Nat) (lv : am_L) : List (Nat × Value) := (List.range lv.length).filterMap (fun i => (lv.getD i none).map (fun v => (i, am_av ad v)))
theorem am_al_mem {ad : Nat → Nat} {lv : am_L} {q : Nat × Value} : q ∈ am_al ad lv ↔ ∃ v, lv.getD q.1 none = some v ∧ q.2 = am_av ad v := by
  unfold am_al
  rw [List.mem_filterMap]
  constructor
  · rintro ⟨i, hi, he⟩
    obtain ⟨v, hv, hq⟩ := Option.map_eq_some_iff.mp he
    subst hq
    exact ⟨v, hv, rfl⟩
  · rintro ⟨v, hv, hq⟩
    refine ⟨q.1, ?_, by rw [hv]; simp [← hq]⟩
    rw [List.mem_range]
    rcases Nat.lt_or_ge q.1 lv.length with h | h
    · exact h
    · rw [List.getD_eq_getElem?_getD, List.getElem?_eq_none h] at hv
      cases hv
def am_lr (ad : Nat → Nat) (n : Nat) (ls : Array Slot) (nL : Nat) (lv : am_L) : Prop := lv.length = nL ∧ lv_has ls nL (am_al ad lv) ∧ ∀ (i : Nat) (v : am_V), lv.getD i none = some v → am_okv n v
theorem am_lr.at {ad : Nat → Nat} {n : Nat} {ls : Array Slot} {nL : Nat} {lv : am_L} (h : am_lr ad n ls nL lv) {i : Nat} {v : am_V} (hv : lv.getD i none = some v) : ls[i]? = some (.val (am_av ad v)) :=
  h.2.1.2.2 (i, am_av ad v) (am_al_mem.mpr ⟨v, hv, rfl⟩)
def am_so (n : Nat) (st : List am_V) : Prop := ∀ v ∈ st, am_okv n v
