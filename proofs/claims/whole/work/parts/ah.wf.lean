/-! TEXT: what a law comes to is a row of knots with one value -/
def okO (x : Int × Int) : Prop := (x.1 = 24 ∧ 0 ≤ x.2 ∧ x.2 ≤ 9999) ∨ (x.1 = 13 ∧ 0 ≤ x.2 ∧ x.2 < 7) ∨ 0 < rnk x.1
def stp (k : Int) (h : Nat) : Option Nat := if k = 24 ∨ k = 13 then some (h + 1) else if k = 20 then (if 1 ≤ h then some h else none) else if 2 ≤ h then some (h - 1) else none
def hgt : List (Int × Int) → Nat → Option Nat
  | [], h => some h
  | x :: r, h => (stp x.1 h).bind (hgt r)
theorem hgt_snoc {x : Int × Int} : ∀ (o : List (Int × Int)) (h : Nat), hgt (o ++ [x]) h = (hgt o h).bind (stp x.1)
  | [], h => by
    show (stp x.1 h).bind (hgt []) = _
    cases hs : stp x.1 h with
    | none => show none = stp x.1 h; rw [hs]
    | some y => show some y = stp x.1 h; rw [hs]
  | y :: r, h => by
    show (stp y.1 h).bind (hgt (r ++ [x])) = ((stp y.1 h).bind (hgt r)).bind (stp x.1)
    cases stp y.1 h with
    | none => rfl
    | some z => exact hgt_snoc r z
def nbin : List Int → Nat
  | [] => 0
  | k :: r => nbin r + (if k = 25 ∨ k = 20 then 0 else 1)
def SYI (due : Bool) (st : List Int) (o : List (Int × Int)) : Prop := hgt o 0 = some (nbin st + (if due = true then 0 else 1)) ∧ ∀ x ∈ o, okO x
theorem syi_stl {l : Int} (hl : 1 ≤ l) : ∀ (st : List Int) (o : List (Int × Int)), SG st → SYI false st o → SYI false (stl l st o).1 (stl l st o).2 := by
  intro st
  induction st with
  | nil => intro o _ h; exact h
  | cons k r ih =>
    intro o hg h
    show SYI false (if rnk k < l then (k :: r, o) else stl l r (o ++ [(k, 0)])).1 (if rnk k < l then (k :: r, o) else stl l r (o ++ [(k, 0)])).2
    by_cases c : rnk k < l
    · rw [if_pos c]; exact h
    · rw [if_neg c]
      refine ih _ (fun x hx => hg x (List.mem_cons_of_mem _ hx)) ⟨?_, ?_⟩
      · rw [hgt_snoc, h.1]
        show stp k (nbin r + (if k = 25 ∨ k = 20 then 0 else 1) + 1) = some (nbin r + 1)
        have r0 : rnk 24 = 0 ∧ rnk 13 = 0 ∧ rnk 25 = 0 := by decide
        have k24 : k ≠ 24 := fun e => c (by rw [e]; omega)
        have k13 : k ≠ 13 := fun e => c (by rw [e]; omega)
        have k25 : k ≠ 25 := fun e => c (by rw [e]; omega)
        unfold stp
        rw [if_neg (by omega)]
        by_cases q : k = 20
        · rw [if_pos q, if_pos (Or.inr q), if_pos (by omega)]
        · rw [if_neg q, if_neg (c := k = 25 ∨ k = 20) (by omega), if_pos (by omega)]
          all_goals rfl
      · intro x hx
        rcases List.mem_append.mp hx with q | q
        · exact h.2 x q
        · rw [List.mem_singleton.mp q]
          exact Or.inr (Or.inr (by show 0 < rnk k; omega))
theorem syi_tv {k v : Int} {s s' : SS} (hv : k = 24 → 0 ≤ v) (h : SYI true s.1 s.2.2.2) (hw : tvS k v s = .inr s') : SYI (dueB k) s'.1 s'.2.2.2 := by
  have pvh : ∀ (x y : Int) (s' : SS), (x = 24 ∨ x = 13) → okO (x, y) → pv x y s = .inr s' → SYI false s'.1 s'.2.2.2 := by
    intro x y s' hx hok hw
    unfold pv at hw
    by_cases c : 64 ≤ s.2.2.1
    · rw [if_pos c] at hw; cases hw
    · rw [if_neg c] at hw
      cases hw
      refine ⟨?_, fun z hz => ?_⟩
      · show hgt (s.2.2.2 ++ [(x, y)]) 0 = some (nbin s.1 + (if false = true then 0 else 1))
        rw [hgt_snoc, h.1]
        show stp x (nbin s.1 + (if true = true then 0 else 1)) = _
        unfold stp
        rw [if_pos hx, if_pos rfl, if_neg (by decide)]
      · rcases List.mem_append.mp hz with q | q
        · exact h.2 z q
        · rw [List.mem_singleton.mp q]; exact hok
  unfold tvS at hw
  by_cases c1 : k = 24
  · rw [if_pos c1] at hw
    have hd : dueB k = false := by rw [c1]; decide
    rw [hd]
    by_cases c2 : 9999 < v
    · rw [if_pos c2] at hw; cases hw
    · rw [if_neg c2] at hw; exact pvh _ _ _ (Or.inl rfl) (Or.inl ⟨rfl, hv c1, by show v ≤ 9999; omega⟩) hw
  rw [if_neg c1] at hw
  by_cases c2 : 13 ≤ k ∧ k ≤ 19
  · rw [if_pos c2] at hw
    have hd : dueB k = false := by
      unfold dueB rnk
      simp (disch := omega) only [if_neg]
      exact decide_eq_false (by omega)
    rw [hd]
    exact pvh _ _ _ (Or.inr rfl) (Or.inr (Or.inl ⟨rfl, by show 0 ≤ k - 13; omega, by show k - 13 < 7; omega⟩)) hw
  rw [if_neg c2] at hw
  by_cases c3 : k = 20 ∧ rnk (topS s.1) ≤ 3
  · rw [if_pos c3] at hw
    have hd : dueB k = true := by rw [c3.1]; decide
    rw [hd]
    unfold wk at hw
    by_cases c : 64 ≤ s.2.2.1
    · rw [if_pos c] at hw; cases hw
    · rw [if_neg c] at hw
      cases hw
      refine ⟨?_, h.2⟩
      show hgt s.2.2.2 0 = some (nbin s.1 + (if (20 : Int) = 25 ∨ (20 : Int) = 20 then 0 else 1) + (if true = true then 0 else 1))
      rw [h.1, if_pos (Or.inr rfl)]
      all_goals rfl
  rw [if_neg c3] at hw
  by_cases c4 : k = 25
  · rw [if_pos c4] at hw
    have hd : dueB k = true := by rw [c4]; decide
    rw [hd]
    by_cases c5 : 8 ≤ s.2.1
    · rw [if_pos c5] at hw; cases hw
    · rw [if_neg c5] at hw
      cases hw
      refine ⟨?_, h.2⟩
      show hgt s.2.2.2 0 = some (nbin s.1 + (if (25 : Int) = 25 ∨ (25 : Int) = 20 then 0 else 1) + (if true = true then 0 else 1))
      rw [h.1, if_pos (Or.inl rfl)]
      all_goals rfl
  · rw [if_neg c4] at hw; cases hw
theorem syi_tb {B : Nat} {k : Int} {s s' : SS} (hV : SV B s) (hg : SG s.1) (h : SYI false s.1 s.2.2.2) (hw : tbS k s = .inr s') : SYI (dueB k) s'.1 s'.2.2.2 := by
  have wkh : ∀ (l : Int) (s' : SS), 1 ≤ l → 0 < rnk k → k ≠ 20 → wk k ((stl l s.1 s.2.2.2).1, s.2.1, s.2.2.1, (stl l s.1 s.2.2.2).2) = .inr s' → SYI true s'.1 s'.2.2.2 := by
    intro l s' hl hk h20 hw
    have h2 := syi_stl hl _ _ hg h
    unfold wk at hw
    by_cases c : 64 ≤ s.2.2.1
    · rw [if_pos c] at hw; cases hw
    · rw [if_neg c] at hw
      cases hw
      refine ⟨?_, h2.2⟩
      show hgt (stl l s.1 s.2.2.2).2 0 = some (nbin (stl l s.1 s.2.2.2).1 + (if k = 25 ∨ k = 20 then 0 else 1) + 0)
      have k25 : k ≠ 25 := fun e => by rw [e] at hk; exact absurd hk (by decide)
      rw [h2.1, if_neg (c := k = 25 ∨ k = 20) (by omega)]
      all_goals rfl
  unfold tbS at hw
  by_cases c1 : k = 26 ∧ 0 < s.2.1
  · rw [if_pos c1] at hw
    have hd : dueB k = false := by rw [c1.1]; decide
    rw [hd]
    cases hw
    have h2 := syi_stl (l := 1) (by decide) _ _ hg h
    obtain ⟨r, hr⟩ := stl1_top hg (o := s.2.2.2) (by have := hV.2.1; omega)
    rw [hr] at h2 ⊢
    refine ⟨?_, h2.2⟩
    have h3 : hgt (stl 1 s.1 s.2.2.2).2 0 = some (nbin r + (if (25 : Int) = 25 ∨ (25 : Int) = 20 then 0 else 1) + (if false = true then 0 else 1)) := h2.1
    rw [if_pos (Or.inl rfl)] at h3
    exact h3
  rw [if_neg c1] at hw
  by_cases c2 : rnk k = 0 ∨ k = 20
  · rw [if_pos c2] at hw; cases hw
  rw [if_neg c2] at hw
  have hb := rnk_bd k
  have hd : dueB k = true := decide_eq_true (Or.inl (by omega))
  rw [hd]
  by_cases c3 : rnk k = 4
  · rw [if_pos c3] at hw
    by_cases c4 : rnk (topS (stl 5 s.1 s.2.2.2).1) = 4
    · rw [if_pos c4] at hw; cases hw
    · rw [if_neg c4] at hw
      exact wkh 5 _ (by decide) (by omega) (by omega) hw
  · rw [if_neg c3] at hw
    exact wkh (rnk k) _ (by omega) (by omega) (by omega) hw
theorem stl1_nil {st : List Int} (h : SG st) {o : List (Int × Int)} (hn : npn st = 0) : (stl 1 st o).1 = [] := by
  have h1 := sg_stl (l := 1) st o h
  have h2 := (stl_inv (l := 1) (by decide) st o).2
  have h3 := rnk_top1 (l := 1) st o
  cases hs : (stl 1 st o).1 with
  | nil => rfl
  | cons k r =>
    rw [hs] at h1 h2 h3
    have h3 : rnk k < 1 := by
      rcases h3 with q | q
      · exact q
      · cases q
    rcases h1 k List.mem_cons_self with q | q
    · omega
    · have h2 : npn r + (if k = 25 then 1 else 0) = npn st := h2
      rw [if_pos q] at h2
      omega
theorem nm_nn {b : Nat → Int} {n a : Nat} (h : (tok b n a).1 = 24) : 0 ≤ (tok b n a).2.1 := by
  unfold tok at h ⊢
  generalize rn blk b n a = p at *
  by_cases c0 : n ≤ p
  · rw [if_pos c0] at h; exact absurd h (by show ¬ (39 : Int) = 24; decide)
  rw [if_neg c0] at h ⊢
  by_cases c1 : ltr (b p) = true
  · rw [if_pos c1] at h
    by_cases c2 : 6 < rn ltr b n p - p
    · rw [if_pos c2] at h; exact absurd h (by show ¬ (38 : Int) = 24; decide)
    · rw [if_neg c2] at h
      have h : wkd (wc b p (rn ltr b n p)) = 24 := h
      have := wkd_bd (wc b p (rn ltr b n p))
      omega
  rw [if_neg c1] at h ⊢
  by_cases c2 : dgt (b p) = true
  · rw [if_pos c2]
    have g3 := rn_ge (P := dgt) (b := b) (n := n) (i := p)
    exact (nm_bd (C := 100000) (m := rn dgt b n p - p) (by omega) (by omega) (fun j h0 h1 => rn_in (P := dgt) (b := b) (n := n) (i := p) h0 (by omega)) _ (Nat.le_refl _)).1
  · rw [if_neg c2] at h
    have h : (sg2 b n p).1 = 24 := h
    have := sg2_bd (b := b) (n := n) p
    omega
theorem sy_ok {b : Nat → Int} {n B : Nat} : ∀ (f a : Nat) (due : Bool) (s : SS) (z : List (Int × Int) × Int × Nat), a ≤ n → SV B s → SG s.1 → SYI due s.1 s.2.2.2 → syF b n f a due s = .inr z → z.2.1 = ((B + z.1.length : Nat) : Int) ∧ z.2.1 ≤ 64 ∧ hgt z.1 0 = some 1 ∧ (∀ x ∈ z.1, okO x) ∧ a < z.2.2 ∧ z.2.2 ≤ n := by
  intro f
  induction f with
  | zero => intro a due s z _ _ _ _ h; cases h
  | succ f ih =>
    intro a due s z ha hV hG hI h
    have tb := tok_bd (b := b) ha
    have hv24 := nm_nn (b := b) (n := n) (a := a)
    unfold syF at h
    generalize tok b n a = t at *
    by_cases hdn : due = false ∧ t.1 = 27 ∧ s.2.1 = 0
    · rw [if_pos hdn] at h
      cases h
      obtain ⟨rfl, e27, e0⟩ := hdn
      have hn := stl1_nil hG (o := s.2.2.2) (by have := hV.2.1; omega)
      have h1 := (stl_inv (l := 1) (by decide) s.1 s.2.2.2).1
      have h2 := syi_stl (l := 1) (by decide) _ _ hG hI
      rw [hn] at h1 h2
      have h1 : 0 + (stl 1 s.1 s.2.2.2).2.length = nop s.1 + s.2.2.2.length := h1
      have hk := hV.1
      have h9 := tb.2.2.2 (by omega)
      refine ⟨?_, hV.2.2.1, h2.1, h2.2, by show a < t.2.2.2; omega, tb.2.2.1⟩
      show s.2.2.1 = ((B + (stl 1 s.1 s.2.2.2).2.length : Nat) : Int)
      omega
    · rw [if_neg hdn] at h
      by_cases hd : due = true
      · subst hd
        rw [if_pos rfl] at h
        cases hq : tvS t.1 t.2.1 s with
        | inl q => rw [hq] at h; cases h
        | inr s' =>
          rw [hq] at h
          have h9 := tb.2.2.2 (fun e => by rw [e] at hq; exact tv_39 hq)
          obtain ⟨z1, z2, z3, z4, z5, z6⟩ := ih t.2.2.2 (dueB t.1) s' z tb.2.2.1 (sv_tv hV hq) (sg_tv hG hq) (syi_tv hv24 hI hq) h
          exact ⟨z1, z2, z3, z4, by omega, z6⟩
      · have hd : due = false := by cases due <;> simp_all
        subst hd
        rw [if_neg (by decide)] at h
        cases hq : tbS t.1 s with
        | inl q => rw [hq] at h; cases h
        | inr s' =>
          rw [hq] at h
          have h9 := tb.2.2.2 (fun e => by rw [e] at hq; exact tb_39 hq)
          have sv2 := sv_tb hV hG hq
          obtain ⟨z1, z2, z3, z4, z5, z6⟩ := ih t.2.2.2 (dueB t.1) s' z tb.2.2.1 sv2.1 sv2.2 (syi_tb hV hG hI hq) h
          exact ⟨z1, z2, z3, z4, by omega, z6⟩
