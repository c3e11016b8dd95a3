/-! TEXT: reading a law, step by step -/
def pz (k : Int) : Int × Int := (k, 0)
section SYP
variable {b : Nat → Int} {n : Nat}
theorem syF_eq : ∀ (f f' a : Nat) (due : Bool) (s : SS), a ≤ n → n - a + 1 ≤ f → n - a + 1 ≤ f' → syF b n f a due s = syF b n f' a due s := by
  intro f
  induction f with
  | zero => intro f' a due s _ h; omega
  | succ f ih =>
    intro f' a due s ha h h'
    obtain ⟨g, rfl⟩ : ∃ g, f' = g + 1 := ⟨f' - 1, by omega⟩
    have tb := tok_bd (b := b) ha
    unfold syF
    generalize tok b n a = t at *
    by_cases hd : due = false ∧ t.1 = 27 ∧ s.2.1 = 0
    · rw [if_pos hd, if_pos hd]
    · rw [if_neg hd, if_neg hd]
      by_cases q : due = true
      · subst q
        rw [if_pos rfl]
        cases hq : tvS t.1 t.2.1 s with
        | inl q => rfl
        | inr s' =>
          have h9 := tb.2.2.2 (fun e => by rw [e] at hq; exact tv_39 hq)
          exact ih g t.2.2.2 _ s' tb.2.2.1 (by omega) (by omega)
      · have q : due = false := by cases due <;> simp_all
        subst q
        rw [if_neg (by decide)]
        cases hq : tbS t.1 s with
        | inl q => rfl
        | inr s' =>
          have h9 := tb.2.2.2 (fun e => by rw [e] at hq; exact tb_39 hq)
          exact ih g t.2.2.2 _ s' tb.2.2.1 (by omega) (by omega)
/-- the rest of a law -/
def sy (b : Nat → Int) (n a : Nat) (due : Bool) (s : SS) : PE (List (Int × Int) × Int × Nat) := syF b n (n - a + 1) a due s
theorem sy_tv {a : Nat} {s : SS} (ha : a ≤ n) : sy b n a true s = match tvS (tok b n a).1 (tok b n a).2.1 s with
    | .inl q => .inl (q, (tok b n a).2.2.1)
    | .inr s' => sy b n (tok b n a).2.2.2 (dueB (tok b n a).1) s' := by
  have tb := tok_bd (b := b) ha
  unfold sy
  have e : syF b n (n - a + 1) a true s = match tvS (tok b n a).1 (tok b n a).2.1 s with
    | .inl q => .inl (q, (tok b n a).2.2.1)
    | .inr s' => syF b n (n - a) (tok b n a).2.2.2 (dueB (tok b n a).1) s' := by
    show (if true = false ∧ (tok b n a).1 = 27 ∧ s.2.1 = 0 then _ else _) = _
    rw [if_neg (fun h => by cases h.1), if_pos rfl]
    cases tvS (tok b n a).1 (tok b n a).2.1 s <;> rfl
  rw [e]
  cases hq : tvS (tok b n a).1 (tok b n a).2.1 s with
  | inl q => rfl
  | inr s' =>
    have h9 := tb.2.2.2 (fun e => by rw [e] at hq; exact tv_39 hq)
    exact syF_eq _ _ _ _ _ tb.2.2.1 (by omega) (by omega)
theorem sy_tb {a : Nat} {s : SS} (ha : a ≤ n) (hd : ¬ ((tok b n a).1 = 27 ∧ s.2.1 = 0)) : sy b n a false s = match tbS (tok b n a).1 s with
    | .inl q => .inl (q, (tok b n a).2.2.1)
    | .inr s' => sy b n (tok b n a).2.2.2 (dueB (tok b n a).1) s' := by
  have tb := tok_bd (b := b) ha
  unfold sy
  have e : syF b n (n - a + 1) a false s = match tbS (tok b n a).1 s with
    | .inl q => .inl (q, (tok b n a).2.2.1)
    | .inr s' => syF b n (n - a) (tok b n a).2.2.2 (dueB (tok b n a).1) s' := by
    show (if false = false ∧ (tok b n a).1 = 27 ∧ s.2.1 = 0 then _ else _) = _
    rw [if_neg (fun h => hd h.2), if_neg (by decide)]
    cases tbS (tok b n a).1 s <;> rfl
  rw [e]
  cases hq : tbS (tok b n a).1 s with
  | inl q => rfl
  | inr s' =>
    have h9 := tb.2.2.2 (fun e => by rw [e] at hq; exact tb_39 hq)
    exact syF_eq _ _ _ _ _ tb.2.2.1 (by omega) (by omega)
theorem stl_app {l : Int} {st : List Int} : ∀ (τ : List Int) (o : List (Int × Int)), (∀ k ∈ τ, l ≤ rnk k) → stl l (τ ++ st) o = stl l st (o ++ τ.map pz) := by
  intro τ
  induction τ with
  | nil => intro o _; simp
  | cons k r ih =>
    intro o h
    show (if rnk k < l then (k :: (r ++ st), o) else stl l (r ++ st) (o ++ [(k, 0)])) = _
    have := h k List.mem_cons_self
    rw [if_neg (by omega), ih _ (fun x hx => h x (List.mem_cons_of_mem _ hx))]
    simp [pz]
theorem stl_stop {l : Int} {st : List Int} {o : List (Int × Int)} (h : rnk (topS st) < l) : stl l st o = (st, o) := by
  cases st with
  | nil => rfl
  | cons k r =>
    have h : rnk k < l := h
    show (if rnk k < l then (k :: r, o) else _) = _
    rw [if_pos h]
theorem stl_ts {l : Int} {st τ : List Int} {o : List (Int × Int)} (hτ : ∀ k ∈ τ, l ≤ rnk k) (h : rnk (topS st) < l) : stl l (τ ++ st) o = (st, o ++ τ.map pz) := by
  rw [stl_app τ o hτ, stl_stop h]
theorem dueB_r {k : Int} (h : 0 < rnk k) : dueB k = true := decide_eq_true (Or.inl h)
/-- a sign that joins, of a rank that isn't the comparisons' -/
theorem sy_bin {a : Nat} {τ st : List Int} {op : Nat} {kn : Int} {o : List (Int × Int)} (ha : a ≤ n) (h0 : 0 < rnk (tok b n a).1) (h4 : rnk (tok b n a).1 ≠ 4) (h20 : (tok b n a).1 ≠ 20) (hτ : ∀ k ∈ τ, rnk (tok b n a).1 ≤ rnk k) (ht : rnk (topS st) < rnk (tok b n a).1) : sy b n a false (τ ++ st, op, kn, o) = if 64 ≤ kn then .inl (2, (tok b n a).2.2.1) else sy b n (tok b n a).2.2.2 true ((tok b n a).1 :: st, op, kn + 1, o ++ τ.map pz) := by
  have r27 : rnk 27 = 0 := by decide
  have r26 : rnk 26 = 0 := by decide
  rw [sy_tb ha (fun e => by rw [e.1, r27] at h0; omega)]
  have et : tbS (tok b n a).1 (τ ++ st, op, kn, o) = wk (tok b n a).1 (st, op, kn, o ++ τ.map pz) := by
    unfold tbS
    rw [if_neg (fun e => by rw [e.1, r26] at h0; omega), if_neg (by omega), if_neg h4]
    show wk _ ((stl _ (τ ++ st) o).1, op, kn, (stl _ (τ ++ st) o).2) = _
    rw [stl_ts hτ ht]
  rw [et]
  unfold wk
  by_cases c : 64 ≤ kn
  · rw [if_pos c, if_pos c]
  · rw [if_neg c, if_neg c, dueB_r h0]
theorem sy_cmp {a : Nat} {τ st : List Int} {op : Nat} {kn : Int} {o : List (Int × Int)} (ha : a ≤ n) (h4 : rnk (tok b n a).1 = 4) (hτ : ∀ k ∈ τ, 5 ≤ rnk k) (ht : rnk (topS st) < 4) : sy b n a false (τ ++ st, op, kn, o) = if 64 ≤ kn then .inl (2, (tok b n a).2.2.1) else sy b n (tok b n a).2.2.2 true ((tok b n a).1 :: st, op, kn + 1, o ++ τ.map pz) := by
  have r27 : rnk 27 = 0 := by decide
  have r26 : rnk 26 = 0 := by decide
  have r20 : rnk 20 = 3 := by decide
  rw [sy_tb ha (fun e => by rw [e.1, r27] at h4; omega)]
  have et : tbS (tok b n a).1 (τ ++ st, op, kn, o) = wk (tok b n a).1 (st, op, kn, o ++ τ.map pz) := by
    unfold tbS
    rw [if_neg (fun e => by rw [e.1, r26] at h4; omega), if_neg (fun e => by
      rcases e with e | e
      · omega
      · rw [e, r20] at h4; omega), if_pos h4]
    show (if rnk (topS (stl 5 (τ ++ st) o).1) = 4 then _ else wk _ ((stl 5 (τ ++ st) o).1, op, kn, (stl 5 (τ ++ st) o).2)) = _
    rw [stl_ts hτ (by omega)]
    show (if rnk (topS st) = 4 then _ else wk _ (st, op, kn, o ++ τ.map pz)) = _
    rw [if_neg (by omega)]
  rw [et]
  unfold wk
  by_cases c : 64 ≤ kn
  · rw [if_pos c, if_pos c]
  · rw [if_neg c, if_neg c, dueB_r (by omega)]
/-- where an expression of a rank ends -/
def EN (l k : Int) (st : List Int) (o : List (Int × Int)) : Prop := rnk k < l ∨ k = 20 ∨ (rnk k = 4 ∧ rnk (topS (stl 5 st o).1) = 4)
theorem sy_bad {a : Nat} {s : SS} (ha : a ≤ n) (h : EN 1 (tok b n a).1 s.1 s.2.2.2) (h27 : ¬ ((tok b n a).1 = 27 ∧ s.2.1 = 0)) (h26 : ¬ ((tok b n a).1 = 26 ∧ 0 < s.2.1)) : sy b n a false s = .inl (1, (tok b n a).2.2.1) := by
  rw [sy_tb ha h27]
  have hb := rnk_bd (tok b n a).1
  have et : tbS (tok b n a).1 s = .inl 1 := by
    unfold tbS
    rw [if_neg h26]
    rcases h with h | h | ⟨h1, h2⟩
    · rw [if_pos (Or.inl (by omega))]
    · rw [if_pos (Or.inr h)]
    · by_cases c : rnk (tok b n a).1 = 0 ∨ (tok b n a).1 = 20
      · rw [if_pos c]
      · rw [if_neg c, if_pos h1, if_pos h2]
  rw [et]
theorem sy_close {a : Nat} {τ st : List Int} {op : Nat} {kn : Int} {o : List (Int × Int)} (ha : a ≤ n) (h26 : (tok b n a).1 = 26) (hτ : ∀ k ∈ τ, 1 ≤ rnk k) : sy b n a false (τ ++ 25 :: st, op + 1, kn, o) = sy b n (tok b n a).2.2.2 false (st, op, kn, o ++ τ.map pz) := by
  rw [sy_tb ha (fun e => by have := e.1; omega)]
  have et : tbS (tok b n a).1 (τ ++ 25 :: st, op + 1, kn, o) = .inr (st, op, kn, o ++ τ.map pz) := by
    unfold tbS
    rw [if_pos ⟨h26, by show 0 < op + 1; omega⟩]
    show Sum.inr ((stl 1 (τ ++ 25 :: st) o).1.tail, op + 1 - 1, kn, (stl 1 (τ ++ 25 :: st) o).2) = _
    rw [stl_ts hτ (by show rnk 25 < 1; decide)]
    all_goals rfl
  rw [et, h26]
  have : dueB 26 = false := by decide
  rw [this]
theorem sv_app {B op : Nat} {τ st : List Int} {kn : Int} {o : List (Int × Int)} (hτ : ∀ k ∈ τ, 1 ≤ rnk k) (h : SV B (τ ++ st, op, kn, o)) : SV B (st, op, kn, o ++ τ.map pz) := by
  have hn : nop (τ ++ st) = τ.length + nop st ∧ npn (τ ++ st) = npn st := by
    clear h
    induction τ with
    | nil => exact ⟨by simp, rfl⟩
    | cons k r ih =>
      obtain ⟨i1, i2⟩ := ih (fun x hx => hτ x (List.mem_cons_of_mem _ hx))
      have hk := hτ k List.mem_cons_self
      have k25 : k ≠ 25 := fun e => by rw [e] at hk; exact absurd hk (by decide)
      refine ⟨?_, ?_⟩
      · show nop (r ++ st) + (if k = 25 then 0 else 1) = r.length + 1 + nop st
        rw [if_neg k25, i1]; omega
      · show npn (r ++ st) + (if k = 25 then 1 else 0) = npn st
        rw [if_neg k25, i2]; rfl
  obtain ⟨h1, h2, h3, h4⟩ := h
  have h1 : kn = ((B + o.length + nop (τ ++ st) : Nat) : Int) := h1
  have h2 : op = npn (τ ++ st) := h2
  refine ⟨?_, ?_, h3, h4⟩
  · show kn = ((B + (o ++ τ.map pz).length + nop st : Nat) : Int)
    rw [List.length_append, List.length_map, h1, hn.1]
    omega
  · show op = npn st
    rw [h2, hn.2]
end SYP
