/-! TEXT: how a law is read, signs waiting -/
def rnk (k : Int) : Int := if k = 22 then 1 else if k = 21 then 2 else if k = 20 then 3 else if 32 ≤ k ∧ k ≤ 37 then 4 else if k = 28 ∨ k = 29 then 5 else if k = 30 ∨ k = 31 then 6 else 0
theorem rnk_bd (k : Int) : 0 ≤ rnk k ∧ rnk k ≤ 6 := by
  unfold rnk
  repeat' split
  all_goals omega
def topS (st : List Int) : Int := match st with
  | [] => 25
  | k :: _ => k
/-- signs of a rank and above wait no longer -/
def stl (l : Int) : List Int → List (Int × Int) → List Int × List (Int × Int)
  | [], o => ([], o)
  | k :: r, o => if rnk k < l then (k :: r, o) else stl l r (o ++ [(k, 0)])
abbrev SS : Type := List Int × Nat × Int × List (Int × Int)
def wk (k : Int) (s : SS) : Sum Int SS := if 64 ≤ s.2.2.1 then .inl 2 else .inr (k :: s.1, s.2.1, s.2.2.1 + 1, s.2.2.2)
def pv (k v : Int) (s : SS) : Sum Int SS := if 64 ≤ s.2.2.1 then .inl 2 else .inr (s.1, s.2.1, s.2.2.1 + 1, s.2.2.2 ++ [(k, v)])
def tvS (k v : Int) (s : SS) : Sum Int SS :=
  if k = 24 then (if 9999 < v then .inl 2 else pv 24 v s)
  else if 13 ≤ k ∧ k ≤ 19 then pv 13 (k - 13) s
  else if k = 20 ∧ rnk (topS s.1) ≤ 3 then wk 20 s
  else if k = 25 then (if 8 ≤ s.2.1 then .inl 2 else .inr (25 :: s.1, s.2.1 + 1, s.2.2.1, s.2.2.2))
  else .inl 1
def tbS (k : Int) (s : SS) : Sum Int SS :=
  if k = 26 ∧ 0 < s.2.1 then .inr ((stl 1 s.1 s.2.2.2).1.tail, s.2.1 - 1, s.2.2.1, (stl 1 s.1 s.2.2.2).2)
  else if rnk k = 0 ∨ k = 20 then .inl 1
  else if rnk k = 4 then (if rnk (topS (stl 5 s.1 s.2.2.2).1) = 4 then .inl 1 else wk k ((stl 5 s.1 s.2.2.2).1, s.2.1, s.2.2.1, (stl 5 s.1 s.2.2.2).2))
  else wk k ((stl (rnk k) s.1 s.2.2.2).1, s.2.1, s.2.2.1, (stl (rnk k) s.1 s.2.2.2).2)
def dueB (k : Int) : Bool := decide (0 < rnk k ∨ k = 25)
def syF (b : Nat → Int) (n : Nat) : Nat → Nat → Bool → SS → PE (List (Int × Int) × Int × Nat)
  | 0, _, _, _ => .inl (1, 0)
  | f + 1, a, due, s =>
    if due = false ∧ (tok b n a).1 = 27 ∧ s.2.1 = 0 then .inr ((stl 1 s.1 s.2.2.2).2, s.2.2.1, (tok b n a).2.2.2)
    else match (if due = true then tvS (tok b n a).1 (tok b n a).2.1 s else tbS (tok b n a).1 s) with
      | .inl q => .inl (q, (tok b n a).2.2.1)
      | .inr s' => syF b n f (tok b n a).2.2.2 (dueB (tok b n a).1) s'
def nop : List Int → Nat
  | [] => 0
  | k :: r => nop r + (if k = 25 then 0 else 1)
def npn : List Int → Nat
  | [] => 0
  | k :: r => npn r + (if k = 25 then 1 else 0)
theorem nop_len : ∀ st : List Int, nop st + npn st = st.length
  | [] => rfl
  | k :: r => by
    have := nop_len r
    show nop r + (if k = 25 then 0 else 1) + (npn r + (if k = 25 then 1 else 0)) = r.length + 1
    by_cases c : k = 25
    · rw [if_pos c, if_pos c]; omega
    · rw [if_neg c, if_neg c]; omega
theorem rnk_25 : rnk 25 = 0 := by decide
theorem stl_inv {l : Int} (hl : 1 ≤ l) : ∀ (st : List Int) (o : List (Int × Int)), nop (stl l st o).1 + (stl l st o).2.length = nop st + o.length ∧ npn (stl l st o).1 = npn st := by
  intro st
  induction st with
  | nil => intro o; exact ⟨rfl, rfl⟩
  | cons k r ih =>
    intro o
    show nop (if rnk k < l then (k :: r, o) else stl l r (o ++ [(k, 0)])).1 + (if rnk k < l then (k :: r, o) else stl l r (o ++ [(k, 0)])).2.length = _ ∧ npn (if rnk k < l then (k :: r, o) else stl l r (o ++ [(k, 0)])).1 = _
    by_cases c : rnk k < l
    · rw [if_pos c]; exact ⟨rfl, rfl⟩
    · rw [if_neg c]
      have hk : k ≠ 25 := by
        intro e
        rw [e, rnk_25] at c
        omega
      have h := ih (o ++ [(k, 0)])
      rw [List.length_append] at h
      refine ⟨?_, ?_⟩
      · rw [h.1]
        show nop r + (o.length + 1) = nop r + (if k = 25 then 0 else 1) + o.length
        rw [if_neg hk]; omega
      · rw [h.2]
        show npn r = npn r + (if k = 25 then 1 else 0)
        rw [if_neg hk]; rfl
/-- the count of knots, of open brackets -/
def SV (B : Nat) (s : SS) : Prop := s.2.2.1 = ((B + s.2.2.2.length + nop s.1 : Nat) : Int) ∧ s.2.1 = npn s.1 ∧ s.2.2.1 ≤ 64 ∧ s.2.1 ≤ 8
theorem sv_len {B : Nat} {s : SS} (h : SV B s) : s.1.length ≤ 72 ∧ B + s.2.2.2.length ≤ 64 := by
  obtain ⟨h1, h2, h3, h4⟩ := h
  have := nop_len s.1
  omega
theorem sv_wk {B : Nat} {k : Int} {s s' : SS} (h : SV B s) (hk : k ≠ 25) (hw : wk k s = .inr s') : SV B s' := by
  unfold wk at hw
  by_cases c : 64 ≤ s.2.2.1
  · rw [if_pos c] at hw; cases hw
  · rw [if_neg c] at hw
    cases hw
    obtain ⟨h1, h2, h3, h4⟩ := h
    refine ⟨?_, ?_, ?_, h4⟩
    · show s.2.2.1 + 1 = ((B + s.2.2.2.length + (nop s.1 + (if k = 25 then 0 else 1)) : Nat) : Int)
      rw [if_neg hk]; omega
    · show s.2.1 = npn s.1 + (if k = 25 then 1 else 0)
      rw [if_neg hk]; exact h2
    · show s.2.2.1 + 1 ≤ 64
      omega
theorem sv_pv {B : Nat} {k v : Int} {s s' : SS} (h : SV B s) (hw : pv k v s = .inr s') : SV B s' := by
  unfold pv at hw
  by_cases c : 64 ≤ s.2.2.1
  · rw [if_pos c] at hw; cases hw
  · rw [if_neg c] at hw
    cases hw
    obtain ⟨h1, h2, h3, h4⟩ := h
    refine ⟨?_, h2, ?_, h4⟩
    · show s.2.2.1 + 1 = ((B + (s.2.2.2 ++ [(k, v)]).length + nop s.1 : Nat) : Int)
      rw [List.length_append]
      show s.2.2.1 + 1 = ((B + (s.2.2.2.length + 1) + nop s.1 : Nat) : Int)
      omega
    · show s.2.2.1 + 1 ≤ 64
      omega
theorem sv_stl {B : Nat} {l : Int} {s : SS} (hl : 1 ≤ l) (h : SV B s) : SV B ((stl l s.1 s.2.2.2).1, s.2.1, s.2.2.1, (stl l s.1 s.2.2.2).2) := by
  obtain ⟨h1, h2, h3, h4⟩ := h
  obtain ⟨g1, g2⟩ := stl_inv hl s.1 s.2.2.2
  exact ⟨by show s.2.2.1 = ((B + (stl l s.1 s.2.2.2).2.length + nop (stl l s.1 s.2.2.2).1 : Nat) : Int); omega, by show s.2.1 = npn (stl l s.1 s.2.2.2).1; omega, h3, h4⟩
theorem rnk_top1 {l : Int} : ∀ (st : List Int) (o : List (Int × Int)), rnk (topS (stl l st o).1) < l ∨ (stl l st o).1 = [] := by
  intro st
  induction st with
  | nil => intro o; exact Or.inr rfl
  | cons k r ih =>
    intro o
    show rnk (topS (if rnk k < l then (k :: r, o) else stl l r (o ++ [(k, 0)])).1) < l ∨ (if rnk k < l then (k :: r, o) else stl l r (o ++ [(k, 0)])).1 = []
    by_cases c : rnk k < l
    · rw [if_pos c]; exact Or.inl c
    · rw [if_neg c]; exact ih _
/-- the stack holds signs and brackets alone -/
def SG (st : List Int) : Prop := ∀ k ∈ st, 0 < rnk k ∨ k = 25
theorem sg_stl {l : Int} : ∀ (st : List Int) (o : List (Int × Int)), SG st → SG (stl l st o).1 := by
  intro st
  induction st with
  | nil => intro o h; exact h
  | cons k r ih =>
    intro o h
    show SG (if rnk k < l then (k :: r, o) else stl l r (o ++ [(k, 0)])).1
    by_cases c : rnk k < l
    · rw [if_pos c]; exact h
    · rw [if_neg c]; exact ih _ (fun x hx => h x (List.mem_cons_of_mem _ hx))
theorem sv_tv {B : Nat} {k v : Int} {s s' : SS} (h : SV B s) (hw : tvS k v s = .inr s') : SV B s' := by
  unfold tvS at hw
  by_cases c1 : k = 24
  · rw [if_pos c1] at hw
    by_cases c2 : 9999 < v
    · rw [if_pos c2] at hw; cases hw
    · rw [if_neg c2] at hw; exact sv_pv h hw
  rw [if_neg c1] at hw
  by_cases c2 : 13 ≤ k ∧ k ≤ 19
  · rw [if_pos c2] at hw; exact sv_pv h hw
  rw [if_neg c2] at hw
  by_cases c3 : k = 20 ∧ rnk (topS s.1) ≤ 3
  · rw [if_pos c3] at hw; exact sv_wk h (by decide) hw
  rw [if_neg c3] at hw
  by_cases c4 : k = 25
  · rw [if_pos c4] at hw
    by_cases c5 : 8 ≤ s.2.1
    · rw [if_pos c5] at hw; cases hw
    · rw [if_neg c5] at hw
      cases hw
      obtain ⟨h1, h2, h3, h4⟩ := h
      refine ⟨?_, ?_, h3, ?_⟩
      · show s.2.2.1 = ((B + s.2.2.2.length + (nop s.1 + (if (25 : Int) = 25 then 0 else 1)) : Nat) : Int)
        rw [if_pos rfl]; omega
      · show s.2.1 + 1 = npn s.1 + (if (25 : Int) = 25 then 1 else 0)
        rw [if_pos rfl]; omega
      · show s.2.1 + 1 ≤ 8
        omega
  · rw [if_neg c4] at hw; cases hw
theorem sg_tv {k v : Int} {s s' : SS} (h : SG s.1) (hw : tvS k v s = .inr s') : SG s'.1 := by
  unfold tvS pv wk at hw
  by_cases c1 : k = 24
  · rw [if_pos c1] at hw
    by_cases c2 : 9999 < v
    · rw [if_pos c2] at hw; cases hw
    · rw [if_neg c2] at hw
      by_cases c : 64 ≤ s.2.2.1
      · rw [if_pos c] at hw; cases hw
      · rw [if_neg c] at hw; cases hw; exact h
  rw [if_neg c1] at hw
  by_cases c2 : 13 ≤ k ∧ k ≤ 19
  · rw [if_pos c2] at hw
    by_cases c : 64 ≤ s.2.2.1
    · rw [if_pos c] at hw; cases hw
    · rw [if_neg c] at hw; cases hw; exact h
  rw [if_neg c2] at hw
  by_cases c3 : k = 20 ∧ rnk (topS s.1) ≤ 3
  · rw [if_pos c3] at hw
    by_cases c : 64 ≤ s.2.2.1
    · rw [if_pos c] at hw; cases hw
    · rw [if_neg c] at hw; cases hw
      intro x hx
      rcases List.mem_cons.mp hx with rfl | hx
      · exact Or.inl (by decide)
      · exact h x hx
  rw [if_neg c3] at hw
  by_cases c4 : k = 25
  · rw [if_pos c4] at hw
    by_cases c5 : 8 ≤ s.2.1
    · rw [if_pos c5] at hw; cases hw
    · rw [if_neg c5] at hw
      cases hw
      intro x hx
      rcases List.mem_cons.mp hx with rfl | hx
      · exact Or.inr rfl
      · exact h x hx
  · rw [if_neg c4] at hw; cases hw
theorem stl1_top {st : List Int} (h : SG st) {o : List (Int × Int)} (hn : 0 < npn st) : ∃ r, (stl 1 st o).1 = 25 :: r := by
  have h1 := sg_stl (l := 1) st o h
  have h2 := (stl_inv (l := 1) (by decide) st o).2
  have h3 := rnk_top1 (l := 1) st o
  cases hs : (stl 1 st o).1 with
  | nil => rw [hs] at h2; have h2 : 0 = npn st := h2; omega
  | cons k r =>
    rw [hs] at h1 h3
    have h3 : rnk k < 1 := by
      rcases h3 with q | q
      · exact q
      · cases q
    rcases h1 k List.mem_cons_self with q | q
    · omega
    · exact ⟨r, by rw [q]⟩
theorem sv_tb {B : Nat} {k : Int} {s s' : SS} (h : SV B s) (hg : SG s.1) (hw : tbS k s = .inr s') : SV B s' ∧ SG s'.1 := by
  unfold tbS at hw
  by_cases c1 : k = 26 ∧ 0 < s.2.1
  · rw [if_pos c1] at hw
    cases hw
    have h' := sv_stl (l := 1) (by decide) h
    obtain ⟨r, hr⟩ := stl1_top hg (o := s.2.2.2) (by have := h.2.1; omega)
    have hg' := sg_stl (l := 1) s.1 s.2.2.2 hg
    rw [hr] at h' hg' ⊢
    obtain ⟨h1, h2, h3, h4⟩ := h'
    refine ⟨⟨?_, ?_, h3, ?_⟩, fun x hx => hg' x (List.mem_cons_of_mem _ hx)⟩
    · have h1 : s.2.2.1 = ((B + (stl 1 s.1 s.2.2.2).2.length + (nop r + (if (25 : Int) = 25 then 0 else 1)) : Nat) : Int) := h1
      rw [if_pos rfl] at h1
      exact h1
    · have h2 : s.2.1 = npn r + (if (25 : Int) = 25 then 1 else 0) := h2
      rw [if_pos rfl] at h2
      show s.2.1 - 1 = npn r
      omega
    · have h4 : s.2.1 ≤ 8 := h4
      show s.2.1 - 1 ≤ 8
      omega
  rw [if_neg c1] at hw
  by_cases c2 : rnk k = 0 ∨ k = 20
  · rw [if_pos c2] at hw; cases hw
  rw [if_neg c2] at hw
  have hb := rnk_bd k
  have hk : k ≠ 25 := fun e => c2 (Or.inl (by rw [e]; rfl))
  have sgw : ∀ (st : List Int) (a : Nat) (x : Int) (o : List (Int × Int)) (s' : SS), SG st → wk k (st, a, x, o) = .inr s' → SG s'.1 := by
    intro st a x o s' hst hw
    unfold wk at hw
    by_cases c : 64 ≤ x
    · rw [if_pos c] at hw; cases hw
    · rw [if_neg c] at hw
      cases hw
      intro y hy
      rcases List.mem_cons.mp hy with rfl | hy
      · exact Or.inl (by omega)
      · exact hst y hy
  by_cases c3 : rnk k = 4
  · rw [if_pos c3] at hw
    by_cases c4 : rnk (topS (stl 5 s.1 s.2.2.2).1) = 4
    · rw [if_pos c4] at hw; cases hw
    · rw [if_neg c4] at hw
      exact ⟨sv_wk (sv_stl (l := 5) (by decide) h) hk hw, sgw _ _ _ _ _ (sg_stl _ _ hg) hw⟩
  · rw [if_neg c3] at hw
    exact ⟨sv_wk (sv_stl (l := rnk k) (by omega) h) hk hw, sgw _ _ _ _ _ (sg_stl _ _ hg) hw⟩
