/-! A run that is known with fewer locals is known with more -/
def am_lq (a b : am_L) : Prop := a.length = b.length ∧ ∀ i v, a.getD i none = some v → b.getD i none = some v
theorem am_lq_rf (a : am_L) : am_lq a a := ⟨rfl, fun _ _ h => h⟩
theorem am_set_put {lv : am_L} {i j : Nat} {v w : am_V} (h : (i = j ∧ w = v ∧ i < lv.length) ∨ (i ≠ j ∧ lv.getD j none = some w ∧ ¬ (j + 1 = i ∧ am_cat w = 2))) : (am_set lv i v).getD j none = some w := by
  have last : ∀ (L : am_L), L.length = lv.length → (i ≠ j → L.getD j none = some w ∨ ¬ (lv.getD j none = some w)) → (L.set i (some v)).getD j none = some w := by
    intro L hL hj
    rw [am_getD_set]
    rcases h with ⟨h1, h2, h3⟩ | ⟨h1, h2, h3⟩
    · rw [if_pos ⟨h1, by rw [hL]; exact h3⟩, h2]
    · rw [if_neg (fun e => h1 e.1)]
      rcases hj h1 with q | q
      · exact q
      · exact absurd h2 q
  cases i with
  | zero => exact last lv rfl (fun _ => by
      by_cases q : lv.getD j none = some w
      · exact Or.inl q
      · exact Or.inr q)
  | succ i =>
    show ((match lv.getD i none with
      | some (.inr (.inl _)) => lv.set i none
      | _ => lv).set (i + 1) (some v)).getD j none = some w
    generalize hL : (match lv.getD i none with
      | some (.inr (.inl _)) => lv.set i none
      | _ => lv) = L
    refine last L (am_pre hL).1 (fun hne => ?_)
    by_cases q : lv.getD j none = some w
    · refine Or.inl ?_
      rcases h with ⟨h1, -, -⟩ | ⟨-, -, h3⟩
      · exact absurd h1 hne
      · subst hL
        split
        · rename_i z hz
          rw [am_getD_set]
          by_cases e : i = j ∧ i < lv.length
          · obtain ⟨e1, -⟩ := e
            subst e1
            rw [q] at hz
            cases hz
            exact absurd ⟨rfl, rfl⟩ h3
          · rw [if_neg e]
            exact q
        · exact q
    · exact Or.inr q
theorem am_lq_set {a b : am_L} (h : am_lq a b) {i : Nat} {v : am_V} : am_lq (am_set a i v) (am_set b i v) := by
  refine ⟨by rw [am_set_len, am_set_len]; exact h.1, fun j w hw => ?_⟩
  rcases am_set_get hw with ⟨e1, e2⟩ | ⟨e1, e2, e3⟩
  · refine am_set_put (Or.inl ⟨e1, e2, ?_⟩)
    rw [← h.1, ← am_set_len a i v]
    rcases Nat.lt_or_ge i (am_set a i v).length with q | q
    · exact q
    · rw [← e1, List.getD_eq_getElem?_getD, List.getElem?_eq_none q] at hw
      cases hw
  · exact am_set_put (Or.inr ⟨e1, h.2 _ _ e2, e3⟩)
theorem am_lq_set2 {a b : am_L} (h : am_lq a b) {i : Nat} {v : am_V} : am_lq (am_set2 a i v) (am_set2 b i v) := by
  have h1 := am_lq_set h (i := i) (v := v)
  unfold am_set2
  refine ⟨by rw [List.length_set, List.length_set]; exact h1.1, fun j w hw => ?_⟩
  rw [am_getD_set] at hw ⊢
  by_cases e : i + 1 = j ∧ i + 1 < (am_set a i v).length
  · rw [if_pos e] at hw
    cases hw
  · rw [if_neg e] at hw
    rw [if_neg (by rw [← h1.1]; exact e)]
    exact h1.2 _ _ hw
def am_nr (x y : am_Nx) : Prop := x.1 = y.1 ∧ am_lq x.2.1 y.2.1 ∧ x.2.2 = y.2.2
def am_orr (o o' : Option am_Nx) : Prop := match o, o' with
  | none, _ => True
  | some x, some y => am_nr x y
  | some _, none => False
def am_ar (a a' : am_Act) : Prop := match a, a' with
  | .inl none, _ => True
  | .inl (some r), .inl r' => r' = some r
  | .inr (.inl x), .inr (.inl y) => am_nr x y
  | .inr (.inr (.inl q)), .inr (.inr (.inl q')) => q.1 = q'.1 ∧ am_orr q.2.1 q'.2.1 ∧ am_orr q.2.2 q'.2.2
  | .inr (.inr (.inr q)), .inr (.inr (.inr q')) => q = q'
  | _, _ => False
theorem ar_no {a : am_Act} : am_ar am_no a := trivial
theorem ar_go {lv lv' : am_L} (hle : am_lq lv lv') {pc : Nat} {st : List am_V} {h : am_H} : am_ar (am_go pc lv st h) (am_go pc lv' st h) := ⟨rfl, hle, rfl⟩
theorem ar_ck {lv lv' : am_L} (hle : am_lq lv lv') {b : Bool} {pc : Nat} {st : List am_V} {h : am_H} : am_ar (am_ck b pc lv st h) (am_ck b pc lv' st h) := ⟨rfl, ⟨rfl, hle, rfl⟩, trivial⟩
theorem ar_br {lv lv' : am_L} (hle : am_lq lv lv') {b : Bool} {p1 p2 : Nat} {st : List am_V} {h : am_H} : am_ar (am_br b p1 p2 lv st h) (am_br b p1 p2 lv' st h) := ⟨rfl, ⟨rfl, hle, rfl⟩, ⟨rfl, hle, rfl⟩⟩
theorem ar_if {b : Bool} {x y x' y' : am_Act} (hx : am_ar x x') (hy : am_ar y y') : am_ar (bif b then x else y) (bif b then x' else y') := by cases b <;> assumption
theorem ar_rf (a : am_Act) : am_ar a a := by
  match a with
  | .inl none => exact trivial
  | .inl (some r) => exact rfl
  | .inr (.inl x) => exact ⟨rfl, am_lq_rf _, rfl⟩
  | .inr (.inr (.inl (b, o1, o2))) =>
    refine ⟨rfl, ?_, ?_⟩
    · cases o1 with
      | none => trivial
      | some x => exact ⟨rfl, am_lq_rf _, rfl⟩
    · cases o2 with
      | none => trivial
      | some x => exact ⟨rfl, am_lq_rf _, rfl⟩
  | .inr (.inr (.inr q)) => exact rfl
section ARS
variable {d m pc : Nat} {lv lv' : am_L} {st : List am_V} {h : am_H}
theorem ar_un (hle : am_lq lv lv') (f : Int → Int) : am_ar (am_un f pc lv st h) (am_un f pc lv' st h) := by
  unfold am_un
  split <;> first | exact ar_no | exact ar_go hle | exact ar_ck hle
theorem ar_bin (hle : am_lq lv lv') (f : Int → Int → Int) : am_ar (am_bin f pc lv st h) (am_bin f pc lv' st h) := by
  unfold am_bin
  split <;> first | exact ar_no | exact ar_go hle | exact ar_ck hle
theorem ar_div (hle : am_lq lv lv') (f : Int → Int → Int) : am_ar (am_div f pc lv st h) (am_div f pc lv' st h) := by
  unfold am_div
  split <;> first | exact ar_no | exact ar_go hle | exact ar_ck hle
theorem ar_lun (hle : am_lq lv lv') (f : Int → Int) : am_ar (am_lun f pc lv st h) (am_lun f pc lv' st h) := by
  unfold am_lun
  split <;> first | exact ar_no | exact ar_go hle | exact ar_ck hle
theorem ar_lbin (hle : am_lq lv lv') (f : Int → Int → Int) : am_ar (am_lbin f pc lv st h) (am_lbin f pc lv' st h) := by
  unfold am_lbin
  split <;> first | exact ar_no | exact ar_go hle | exact ar_ck hle
theorem ar_ldiv (hle : am_lq lv lv') (f : Int → Int → Int) : am_ar (am_ldiv f pc lv st h) (am_ldiv f pc lv' st h) := by
  unfold am_ldiv
  split <;> first | exact ar_no | exact ar_go hle | exact ar_ck hle
theorem ar_lcmp (hle : am_lq lv lv') : am_ar (am_lcmp pc lv st h) (am_lcmp pc lv' st h) := by
  unfold am_lcmp
  split <;> first | exact ar_no | exact ar_go hle | exact ar_ck hle
theorem ar_i2l (hle : am_lq lv lv') : am_ar (am_i2l pc lv st h) (am_i2l pc lv' st h) := by
  unfold am_i2l
  split <;> first | exact ar_no | exact ar_go hle | exact ar_ck hle
theorem ar_l2i (hle : am_lq lv lv') : am_ar (am_l2i pc lv st h) (am_l2i pc lv' st h) := by
  unfold am_l2i
  split <;> first | exact ar_no | exact ar_go hle | exact ar_ck hle
theorem ar_dup (hle : am_lq lv lv') : am_ar (am_dup pc lv st h) (am_dup pc lv' st h) := by
  unfold am_dup
  split <;> first | exact ar_no | exact ar_go hle | exact ar_ck hle
theorem ar_pop (hle : am_lq lv lv') : am_ar (am_pop pc lv st h) (am_pop pc lv' st h) := by
  unfold am_pop
  split <;> first | exact ar_no | exact ar_go hle | exact ar_ck hle
theorem ar_dup2 (hle : am_lq lv lv') : am_ar (am_dup2 pc lv st h) (am_dup2 pc lv' st h) := by
  unfold am_dup2
  split <;> first | exact ar_no | exact ar_go hle | exact ar_ck hle
theorem ar_iald (hle : am_lq lv lv') : am_ar (am_iald pc lv st h) (am_iald pc lv' st h) := by
  unfold am_iald
  split <;> first | exact ar_no | exact ar_go hle | exact ar_ck hle
theorem ar_bald (hle : am_lq lv lv') : am_ar (am_bald pc lv st h) (am_bald pc lv' st h) := by
  unfold am_bald
  split <;> first | exact ar_no | exact ar_go hle | exact ar_ck hle
theorem ar_lald (hle : am_lq lv lv') : am_ar (am_lald pc lv st h) (am_lald pc lv' st h) := by
  unfold am_lald
  split <;> first | exact ar_no | exact ar_go hle | exact ar_ck hle
theorem ar_iast (hle : am_lq lv lv') : am_ar (am_iast pc lv st h) (am_iast pc lv' st h) := by
  unfold am_iast
  split <;> first | exact ar_no | exact ar_go hle | exact ar_ck hle
theorem ar_bast (hle : am_lq lv lv') : am_ar (am_bast pc lv st h) (am_bast pc lv' st h) := by
  unfold am_bast
  split <;> first | exact ar_no | exact ar_go hle | exact ar_ck hle
theorem ar_last (hle : am_lq lv lv') : am_ar (am_last pc lv st h) (am_last pc lv' st h) := by
  unfold am_last
  split <;> first | exact ar_no | exact ar_go hle | exact ar_ck hle
theorem ar_alen (hle : am_lq lv lv') : am_ar (am_alen pc lv st h) (am_alen pc lv' st h) := by
  unfold am_alen
  split <;> first | exact ar_no | exact ar_go hle | exact ar_ck hle
theorem ar_ifc (hle : am_lq lv lv') (c : ClassFile.Cond) (off : Int) : am_ar (am_if c off pc lv st h) (am_if c off pc lv' st h) := by
  unfold am_if
  split <;> first | exact ar_no | exact ar_ck hle | exact ar_if (ar_br hle) ar_no | exact ar_if (ar_go hle) ar_no | exact ar_if (ar_ck hle) ar_no | exact ar_if (ar_ck hle) (ar_if (ar_ck hle) ar_no)
theorem ar_icmp (hle : am_lq lv lv') (c : ClassFile.Cond) (off : Int) : am_ar (am_icmp c off pc lv st h) (am_icmp c off pc lv' st h) := by
  unfold am_icmp
  split <;> first | exact ar_no | exact ar_ck hle | exact ar_if (ar_br hle) ar_no | exact ar_if (ar_go hle) ar_no | exact ar_if (ar_ck hle) ar_no | exact ar_if (ar_ck hle) (ar_if (ar_ck hle) ar_no)
theorem ar_get (hle : am_lq lv lv') (ci k t : Nat) : am_ar (am_get ci k t pc lv st h) (am_get ci k t pc lv' st h) := by
  unfold am_get
  split <;> first | exact ar_no | exact ar_ck hle | exact ar_if (ar_br hle) ar_no | exact ar_if (ar_go hle) ar_no | exact ar_if (ar_ck hle) ar_no | exact ar_if (ar_ck hle) (ar_if (ar_ck hle) ar_no)
theorem ar_put (hle : am_lq lv lv') (ci k t : Nat) : am_ar (am_put ci k t pc lv st h) (am_put ci k t pc lv' st h) := by
  unfold am_put
  split <;> first | exact ar_no | exact ar_ck hle | exact ar_if (ar_br hle) ar_no | exact ar_if (ar_go hle) ar_no | exact ar_if (ar_ck hle) ar_no | exact ar_if (ar_ck hle) (ar_if (ar_ck hle) ar_no)
theorem ar_tsw (hle : am_lq lv lv') (a b c : Int) (o : Array Int) : am_ar (am_tsw a b c o pc lv st h) (am_tsw a b c o pc lv' st h) := by
  unfold am_tsw
  split <;> first | exact ar_no | exact ar_ck hle | exact ar_if (ar_br hle) ar_no | exact ar_if (ar_go hle) ar_no | exact ar_if (ar_ck hle) ar_no | exact ar_if (ar_ck hle) (ar_if (ar_ck hle) ar_no)
theorem ar_lsw (hle : am_lq lv lv') (a : Int) (o : Array (Int × Int)) : am_ar (am_lsw a o pc lv st h) (am_lsw a o pc lv' st h) := by
  unfold am_lsw
  split <;> first | exact ar_no | exact ar_ck hle | exact ar_if (ar_br hle) ar_no | exact ar_if (ar_go hle) ar_no | exact ar_if (ar_ck hle) ar_no | exact ar_if (ar_ck hle) (ar_if (ar_ck hle) ar_no)
theorem ar_mu1 (hle : am_lq lv lv') (f : Int → Int) (d : Nat) : am_ar (am_mu1 f d pc lv st h) (am_mu1 f d pc lv' st h) := by
  unfold am_mu1
  split <;> first | exact ar_no | exact ar_ck hle | exact ar_if (ar_br hle) ar_no | exact ar_if (ar_go hle) ar_no | exact ar_if (ar_ck hle) ar_no | exact ar_if (ar_ck hle) (ar_if (ar_ck hle) ar_no)
theorem ar_mu2 (hle : am_lq lv lv') (f : Int → Int → Int) (d : Nat) : am_ar (am_mu2 f d pc lv st h) (am_mu2 f d pc lv' st h) := by
  unfold am_mu2
  split <;> first | exact ar_no | exact ar_ck hle | exact ar_if (ar_br hle) ar_no | exact ar_if (ar_go hle) ar_no | exact ar_if (ar_ck hle) ar_no | exact ar_if (ar_ck hle) (ar_if (ar_ck hle) ar_no)
theorem ar_ml1 (hle : am_lq lv lv') (f : Int → Int) (d : Nat) : am_ar (am_ml1 f d pc lv st h) (am_ml1 f d pc lv' st h) := by
  unfold am_ml1
  split <;> first | exact ar_no | exact ar_ck hle | exact ar_if (ar_br hle) ar_no | exact ar_if (ar_go hle) ar_no | exact ar_if (ar_ck hle) ar_no | exact ar_if (ar_ck hle) (ar_if (ar_ck hle) ar_no)
theorem ar_ml2 (hle : am_lq lv lv') (f : Int → Int → Int) (d : Nat) : am_ar (am_ml2 f d pc lv st h) (am_ml2 f d pc lv' st h) := by
  unfold am_ml2
  split <;> first | exact ar_no | exact ar_ck hle | exact ar_if (ar_br hle) ar_no | exact ar_if (ar_go hle) ar_no | exact ar_if (ar_ck hle) ar_no | exact ar_if (ar_ck hle) (ar_if (ar_ck hle) ar_no)
theorem ar_obj (hle : am_lq lv lv') (d : Nat) : am_ar (am_obj d pc lv st h) (am_obj d pc lv' st h) := by
  unfold am_obj
  split <;> first | exact ar_no | exact ar_ck hle | exact ar_if (ar_br hle) ar_no | exact ar_if (ar_go hle) ar_no | exact ar_if (ar_ck hle) ar_no | exact ar_if (ar_ck hle) (ar_if (ar_ck hle) ar_no)
theorem ar_acp (hle : am_lq lv lv') (d : Nat) : am_ar (am_acp d pc lv st h) (am_acp d pc lv' st h) := by
  unfold am_acp
  split <;> first | exact ar_no | exact ar_ck hle | exact ar_if (ar_br hle) ar_no | exact ar_if (ar_go hle) ar_no | exact ar_if (ar_ck hle) ar_no | exact ar_if (ar_ck hle) (ar_if (ar_ck hle) ar_no)
theorem ar_goto (hle : am_lq lv lv') (off : Int) : am_ar (am_goto off pc lv st h) (am_goto off pc lv' st h) := ar_if (ar_go hle) ar_no
theorem ar_newa (hle : am_lq lv lv') (a : ArrayType) : am_ar (am_newa a pc lv st h) (am_newa a pc lv' st h) := by
  unfold am_newa
  split
  · cases a <;> first | exact ar_no | exact ar_ck hle
  · exact ar_no
theorem ar_new (hle : am_lq lv lv') (ci n : Nat) : am_ar (am_new ci n pc lv st h) (am_new ci n pc lv' st h) := ar_ck hle
theorem ar_iload (hle : am_lq lv lv') (i n : Nat) : am_ar (am_iload i n pc lv st h) (am_iload i n pc lv' st h) := by
  unfold am_iload
  split
  · rename_i z hz
    rw [hle.2 _ _ hz]
    exact ar_go hle
  · exact ar_no
theorem ar_lload (hle : am_lq lv lv') (i n : Nat) : am_ar (am_lload i n pc lv st h) (am_lload i n pc lv' st h) := by
  unfold am_lload
  split
  · rename_i z hz
    rw [hle.2 _ _ hz]
    exact ar_go hle
  · exact ar_no
theorem ar_aload (hle : am_lq lv lv') (i n : Nat) : am_ar (am_aload i n pc lv st h) (am_aload i n pc lv' st h) := by
  unfold am_aload
  split
  · rename_i z hz
    rw [hle.2 _ _ hz]
    exact ar_go hle
  · exact ar_no
theorem ar_iinc (hle : am_lq lv lv') (i : Nat) (c : Int) (n : Nat) : am_ar (am_iinc i c n pc lv st h) (am_iinc i c n pc lv' st h) := by
  unfold am_iinc
  split
  · rename_i z hz
    rw [hle.2 _ _ hz]
    exact ar_go (am_lq_set hle)
  · exact ar_no
theorem ar_istore (hle : am_lq lv lv') (i n : Nat) : am_ar (am_istore i n pc lv st h) (am_istore i n pc lv' st h) := by
  unfold am_istore
  split
  · rw [hle.1]
    exact ar_if (ar_go (am_lq_set hle)) ar_no
  · exact ar_no
theorem ar_lstore (hle : am_lq lv lv') (i n : Nat) : am_ar (am_lstore i n pc lv st h) (am_lstore i n pc lv' st h) := by
  unfold am_lstore
  split
  · rw [hle.1]
    exact ar_if (ar_go (am_lq_set2 hle)) ar_no
  · exact ar_no
theorem ar_astore (hle : am_lq lv lv') (i n : Nat) : am_ar (am_astore i n pc lv st h) (am_astore i n pc lv' st h) := by
  unfold am_astore
  split
  · rw [hle.1]
    exact ar_if (ar_go (am_lq_set hle)) ar_no
  · exact ar_no
theorem ar_inv (hle : am_lq lv lv') (e : Option (Nat × Nat × Nat × Int × Nat)) (lo hi d : Nat) : am_ar (am_inv e lo hi d pc lv st h) (am_inv e lo hi d pc lv' st h) := by
  unfold am_inv
  split
  · exact ar_if (ar_if (ar_obj hle d) (ar_if (ar_acp hle d) (ar_rf _))) ar_no
  · exact ar_no
theorem ar_hi (hle : am_lq lv lv') {i : Int} (hi : am_hi lv = some i) : am_hi lv' = some i := by
  have hb : ∀ k p, am_lb lv k p = true → am_lb lv' k p = true := by
    intro k p hk
    unfold am_lb at hk ⊢
    split at hk
    · rename_i q hq
      rw [hle.2 _ _ hq]
      exact hk
    · cases hk
  unfold am_hi at hi ⊢
  split at hi
  · rename_i j hj
    rw [hle.2 _ _ hj]
    cases hc : (am_lb lv 0 1000000 && (am_lb lv 1 0 && (am_lb lv 2 99 && (am_lb lv 3 141 && decide (0 ≤ j))))) with
    | false => rw [hc] at hi; cases hi
    | true =>
      rw [hc] at hi
      simp only [Bool.and_eq_true] at hc
      obtain ⟨c0, c1, c2, c3, c4⟩ := hc
      show (bif am_lb lv' 0 1000000 && (am_lb lv' 1 0 && (am_lb lv' 2 99 && (am_lb lv' 3 141 && decide (0 ≤ j)))) then some j else none) = some i
      rw [hb _ _ c0, hb _ _ c1, hb _ _ c2, hb _ _ c3, c4]
      exact hi
  · cases hi
theorem ar_hl (hle : am_lq lv lv') : am_ar (am_hl lv st h) (am_hl lv' st h) := by
  unfold am_hl
  split
  · cases hi : am_hi lv with
    | none => exact ar_no
    | some i =>
      rw [ar_hi hle hi]
      exact ar_rf _
  · exact ar_no
theorem ar_hT (hle : am_lq lv lv') : am_ar (am_hT lv st h) (am_hT lv' st h) := by
  unfold am_hT
  split
  · cases hi : am_hi lv with
    | none => exact ar_no
    | some i =>
      rw [ar_hi hle hi]
      exact ar_rf _
  · exact ar_no
theorem ar_slen (hle : am_lq lv lv') (d : Nat) : am_ar (am_slen d pc lv st h) (am_slen d pc lv' st h) := by
  unfold am_slen
  split <;> first | exact ar_no | exact ar_if (ar_ck hle) ar_no
theorem ar_scat (hle : am_lq lv lv') (d : Nat) : am_ar (am_scat d pc lv st h) (am_scat d pc lv' st h) := by
  unfold am_scat
  split <;> first | exact ar_no | exact ar_if (ar_ck hle) ar_no
theorem ar_act1 (hle : am_lq lv lv') (i : Instr) (n : Nat) : am_ar (am_act1 d m pc lv st h i n) (am_act1 d m pc lv' st h i n) := by
  cases i
  all_goals first
    | exact ar_no
    | exact ar_go hle
    | exact ar_iload hle _ _
    | exact ar_lload hle _ _
    | exact ar_aload hle _ _
    | exact ar_istore hle _ _
    | exact ar_lstore hle _ _
    | exact ar_astore hle _ _
    | exact ar_bin hle _
    | exact ar_div hle _
    | exact ar_un hle _
    | exact ar_lbin hle _
    | exact ar_ldiv hle _
    | exact ar_lun hle _
    | exact ar_lcmp hle
    | exact ar_i2l hle
    | exact ar_l2i hle
    | exact ar_dup hle
    | exact ar_pop hle
    | exact ar_dup2 hle
    | exact ar_ifc hle _ _
    | exact ar_icmp hle _ _
    | exact ar_goto hle _
    | exact ar_tsw hle _ _ _ _
    | exact ar_lsw hle _ _
    | exact ar_newa hle _
    | exact ar_alen hle
    | exact ar_iald hle
    | exact ar_bald hle
    | exact ar_lald hle
    | exact ar_iast hle
    | exact ar_bast hle
    | exact ar_last hle
    | exact ar_inv hle _ _ _ _
    | exact ar_if (ar_slen hle _) (ar_if (ar_scat hle _) (ar_inv hle _ _ _ _))
    | exact ar_if (ar_if (ar_hl hle) (ar_iinc hle _ _ _)) ar_no
    | exact ar_rf _
    | skip
  all_goals try (unfold am_act1; dsimp only)
  all_goals try split
  all_goals first
    | exact ar_no
    | exact ar_go hle
    | exact ar_get hle _ _ _
    | exact ar_put hle _ _ _
    | exact ar_new hle _ _
    | exact ar_inv hle _ _ _ _
    | exact ar_mu1 hle _ _
    | exact ar_mu2 hle _ _
    | exact ar_ml1 hle _ _
    | exact ar_ml2 hle _ _
    | exact ar_if (ar_hT hle) ar_no
    | skip
end ARS
theorem am_x_le_lv (n : Nat) : ∀ (d m pc : Nat) (lv lv' : am_L) (st : List am_V) (h : am_H) (r : am_Res), am_lq lv lv' → am_x n d m pc lv st h = some r → am_x n d m pc lv' st h = some r := by
  induction n with
  | zero => intro d m pc lv lv' st h r _ hr; cases hr
  | succ n ih =>
    intro d m pc lv lv' st h r hle hr
    have hr : am_FA (am_x n) d m lv h (am_act d m pc lv st h) = some r := hr
    show am_FA (am_x n) d m lv' h (am_act d m pc lv' st h) = some r
    unfold am_act at hr ⊢
    cases hc : am_code m pc with
    | none => rw [hc] at hr; cases hr
    | some q =>
      obtain ⟨i, k⟩ := q
      rw [hc] at hr
      dsimp only at hr ⊢
      have ha := ar_act1 (d := d) (m := m) (pc := pc) (st := st) (h := h) hle i k
      generalize am_act1 d m pc lv st h i k = a at ha hr
      generalize am_act1 d m pc lv' st h i k = a' at ha ⊢
      match a, a', ha, hr with
      | .inl none, _, _, hr => cases hr
      | .inl (some x), .inl y, ha, hr =>
        have ha : y = some x := ha
        subst ha
        exact hr
      | .inr (.inl x), .inr (.inl y), ha, hr =>
        obtain ⟨p1, l1, s1, h1⟩ := x
        obtain ⟨p2, l2, s2, h2⟩ := y
        obtain ⟨e1, e2, e3⟩ := ha
        cases e1
        cases e3
        exact ih _ _ _ _ _ _ _ _ e2 hr
      | .inr (.inr (.inl (b, o1, o2))), .inr (.inr (.inl (b', o1', o2'))), ha, hr =>
        obtain ⟨e0, e1, e2⟩ := ha
        have e0 : b = b' := e0
        subst e0
        have key : ∀ (o o' : Option am_Nx), am_orr o o' → am_k (am_x n) d m o = some r → am_k (am_x n) d m o' = some r := by
          intro o o' ho hk
          match o, o', ho, hk with
          | none, _, _, hk => cases hk
          | some (p1, l1, s1, h1), some (p2, l2, s2, h2), ho, hk =>
            obtain ⟨f1, f2, f3⟩ := ho
            cases f1
            cases f3
            exact ih _ _ _ _ _ _ _ _ f2 hk
        cases b with
        | true => exact key _ _ e1 hr
        | false => exact key _ _ e2 hr
      | .inr (.inr (.inr (b, m', as, q, s'))), .inr (.inr (.inr y)), ha, hr =>
        have ha : (b, m', as, q, s') = y := ha
        subst ha
        cases b with
        | false => cases hr
        | true =>
          cases d with
          | zero => cases hr
          | succ d' =>
            obtain ⟨r1, g1, g2⟩ := Option.bind_eq_some_iff.mp hr
            exact Option.bind_eq_some_iff.mpr ⟨r1, g1, ih _ _ _ _ _ _ _ _ hle g2⟩
/-- fewer locals known suffice -/
theorem am_E_le {d m pc : Nat} {lv lv' : am_L} {st : List am_V} {h : am_H} {r : am_Res} (hle : am_lq lv lv') (hr : am_E d m pc lv st h = some r) : am_E d m pc lv' st h = some r := by
  obtain ⟨n, hn⟩ := am_E_iff.mp hr
  exact am_E_iff.mpr ⟨n, am_x_le_lv n _ _ _ _ _ _ _ _ hle hn⟩
def am_leb (a b : am_L) : Prop := match a, b with
  | [], [] => True
  | none :: a, _ :: b => am_leb a b
  | some v :: a, some w :: b => v = w ∧ am_leb a b
  | _, _ => False
theorem am_lq_of : ∀ (a b : am_L), am_leb a b → am_lq a b
  | [], [], _ => am_lq_rf _
  | none :: a, x :: b, h => by
    have ih := am_lq_of a b h
    refine ⟨congrArg (· + 1) ih.1, fun i v hv => ?_⟩
    cases i with
    | zero => cases hv
    | succ i => exact ih.2 i v hv
  | some v :: a, some w :: b, h => by
    obtain ⟨e, h⟩ := h
    subst e
    have ih := am_lq_of a b h
    refine ⟨congrArg (· + 1) ih.1, fun i v hv => ?_⟩
    cases i with
    | zero => exact hv
    | succ i => exact ih.2 i v hv
