/-! THE ABSTRACT MACHINE'S RUNS ARE THE REAL ONE'S: what is carried through a run -/
def am_C (p : Program) (s : State) (mt : MethodId) (args : Array Value) (meth : Method) (c : Code) (m : Nat) : Prop :=
  p.tables.exec = Jvm.exec ∧ c.code = (am_M m).2.1 ∧ c.maxLocals = (am_M m).2.2.1 ∧ s.vm.findClass (am_cn (am_own m)) = some mt.cls ∧ (∀ w ∈ am_ts, w.before args s = true) ∧ meth.name = (am_M m).1.name ∧ meth.sig.returnType = (am_M m).2.2.2.1 ∧ meth.locks = false
/-- the method's code is the bytecode's own -/
def am_dec (m : Nat) : Prop := ∀ ch ∈ (am_M m).2.2.2.2.2, ∀ q ∈ ch, decode (am_M m).2.1 q.1 = .ok q.2
/-- an answer of the kind that the method gives, at the place of a return -/
def am_rk (m : Nat) (v : Option am_V) (pc : Nat) : Prop := match v with
  | none => decode (am_M m).2.1 pc = .ok (.return_, 1) ∧ (am_M m).2.2.2.1 = none
  | some (.inl z) => decode (am_M m).2.1 pc = .ok (.ireturn, 1) ∧ ∃ ty, (am_M m).2.2.2.1 = some ty ∧ narrow ty (.int (Int32.ofInt z)) = .int (Int32.ofInt z)
  | some (.inr (.inl _)) => decode (am_M m).2.1 pc = .ok (.lreturn, 1) ∧ (am_M m).2.2.2.1 = some .long
  | _ => False
/-- what the law's halt says: at its place, with its locals -/
def am_hs (r : am_Res) (pc : Nat) (st : List am_V) (i : Int) : Prop :=
  (pc = 1533 ∧ st = [] ∧ r.1 = some (.inr (.inr (2 * i.toNat)))) ∨ (pc = 374 ∧ st = [.inr (.inr 141), .inl (r.2.2.2.1 1000000 (i.toNat + 2)), .inl (r.2.2.2.1 1000000 (i.toNat + 1)), .inr (.inr 0)] ∧ r.1 = some (.inr (.inr (2 * i.toNat + 1))))
def am_Hlt (l : Launch) (p : Program) (e : Env) (R : Room) (s : State) (mt : MethodId) (args : Array Value) (below : List Frame) (meth : Method) (c : Code) (Q : State → Prop) (D : va_G) (cy : Nat → ClassId) (A : Nat → Prop) (m c0 s0 : Nat) (r : am_Res) (n0 : Nat) (ad : Nat → Nat) : Prop :=
  ∀ (pc : Nat) (ad' : Nat → Nat) (H : Heap) (locs : List Loc) (ls : Array Slot) (cells slots : Nat) (lv : am_L) (st : List am_V) (i : Int), (∀ q, q < n0 ∨ 999999 ≤ q → ad' q = ad q) → am_Rp D cy ad' A s r.2 H locs → cells + c0 = r.2.2.2.2.1 → slots + s0 = r.2.2.2.2.2.1 → am_lr ad' r.2.1.length ls (am_M m).2.2.1 lv → am_so r.2.1.length st → am_hi lv = some i → am_hs r pc st i → W p l e R s mt args below meth c H locs cells slots Q (F0 mt pc ls (st.map (am_av ad')))
def am_Fin (l : Launch) (p : Program) (e : Env) (R : Room) (s : State) (mt : MethodId) (args : Array Value) (below : List Frame) (meth : Method) (c : Code) (Q : State → Prop) (D : va_G) (cy : Nat → ClassId) (A : Nat → Prop) (m c0 s0 : Nat) (r : am_Res) (n0 : Nat) (ad : Nat → Nat) : Prop :=
  (∀ (pc : Nat) (ad' : Nat → Nat) (H : Heap) (locs : List Loc) (ls : Array Slot) (cells slots : Nat), (∀ q, q < n0 ∨ 999999 ≤ q → ad' q = ad q) → am_Rp D cy ad' A s r.2 H locs → cells + c0 = r.2.2.2.2.1 → slots + s0 = r.2.2.2.2.2.1 → am_so r.2.1.length r.1.toList → am_rk m r.1 pc → W p l e R s mt args below meth c H locs cells slots Q (F0 mt pc ls (r.1.toList.map (am_av ad')))) ∧ (m = 276 → am_Hlt l p e R s mt args below meth c Q D cy A m c0 s0 r n0 ad)
def am_Cx (l : Launch) (p : Program) (e : Env) (R : Room) (s : State) (mt : MethodId) (args : Array Value) (below : List Frame) (meth : Method) (c : Code) (Q : State → Prop) (D : va_G) (cy : Nat → ClassId) (A : Nat → Prop) (m d c0 s0 : Nat) (r : am_Res) (ad : Nat → Nat) (h : am_H) (H : Heap) (locs : List Loc) (cells slots : Nat) : Prop :=
  am_C p s mt args meth c m ∧ am_dec m ∧ am_Rp D cy ad A s h H locs ∧ (d ≤ R.frames ∧ 40 * d ≤ R.locals) ∧ (cells + c0 = h.2.2.2.1 ∧ slots + s0 = h.2.2.2.2.1) ∧ (r.2.2.2.2.1 ≤ R.cells + c0 ∧ r.2.2.2.2.2.1 ≤ R.slots + s0) ∧ am_Fin l p e R s mt args below meth c Q D cy A m c0 s0 r h.1.length ad
/-- every run of at most n steps is the real machine's -/
def am_Sd (l : Launch) (n : Nat) : Prop :=
  ∀ (d m pc : Nat) (lv : am_L) (st : List am_V) (h : am_H) (r : am_Res), am_x n d m pc lv st h = some r →
  ∀ (p : Program) (e : Env) (R : Room) (s : State) (mt : MethodId) (args : Array Value) (below : List Frame) (meth : Method) (c : Code) (Q : State → Prop) (D : va_G) (cy : Nat → ClassId) (A : Nat → Prop) (c0 s0 : Nat) (ad : Nat → Nat) (H : Heap) (locs : List Loc) (cells slots : Nat) (ls : Array Slot),
  am_Cx l p e R s mt args below meth c Q D cy A m d c0 s0 r ad h H locs cells slots → am_lr ad h.1.length ls (am_M m).2.2.1 lv → am_so h.1.length st →
  W p l e R s mt args below meth c H locs cells slots Q (F0 mt pc ls (st.map (am_av ad)))
theorem am_find_dec {e : am_MT} {pc : Nat} {i : Instr} {n : Nat} (hd : ∀ ch ∈ e.2.2.2.2.2, ∀ q ∈ ch, decode e.2.1 q.1 = .ok q.2) (h : am_find (e.2.2.2.2.2.getD (pc / 32) []) pc = some (i, n)) : decode e.2.1 pc = .ok (i, n) := by
  have hm := am_find_mem h
  rcases am_getD_mem (l := e.2.2.2.2.2) (i := pc / 32) (d := []) with h1 | h1
  · have h2 := hd _ h1 _ hm
    dsimp only at h2
    exact h2
  · rw [h1] at hm
    exact absurd hm List.not_mem_nil
theorem am_code_dec {m pc : Nat} {i : Instr} {n : Nat} (hd : am_dec m) (h : am_code m pc = some (i, n)) : decode (am_M m).2.1 pc = .ok (i, n) := by
  unfold am_code at h
  unfold am_dec at hd
  generalize am_M m = e at hd h ⊢
  exact am_find_dec hd h
section AMW
variable {l : Launch} {p : Program} {e : Env} {R : Room} {s : State} {mt : MethodId} {args : Array Value} {below : List Frame} {meth : Method} {c : Code} {Q : State → Prop} {D : va_G} {cy : Nat → ClassId} {A : Nat → Prop} {m d c0 s0 : Nat} {r : am_Res} {ad : Nat → Nat} {h : am_H} {H : Heap} {locs : List Loc} {cells slots : Nat} {ls : Array Slot} {lv : am_L} {st : List am_V} {pc n : Nat}
theorem am_so_tl {n : Nat} {v : am_V} {st : List am_V} (h : am_so n (v :: st)) : am_so n st := fun w hw => h w (List.mem_cons_of_mem _ hw)
theorem am_so_hd {n : Nat} {v : am_V} {st : List am_V} (h : am_so n (v :: st)) : am_okv n v := h v List.mem_cons_self
theorem am_so_cons {n : Nat} {v : am_V} {st : List am_V} (hv : am_okv n v) (h : am_so n st) : am_so n (v :: st) := fun w hw => by
  rcases List.mem_cons.mp hw with e | e
  · rw [e]; exact hv
  · exact h w e
/-- the stack's top, an int -/
theorem s_push {v : am_V} {pc' : Nat} (ih : am_Sd l n) (X : am_Cx l p e R s mt args below meth c Q D cy A m d c0 s0 r ad h H locs cells slots) (hl : am_lr ad h.1.length ls (am_M m).2.2.1 lv) (hs : am_so h.1.length st) (hv : am_okv h.1.length v) (hx : am_x n d m pc' lv (v :: st) h = some r) {w : Value} (hw : am_av ad v = w) : W p l e R s mt args below meth c H locs cells slots Q (F0 mt pc' ls (w :: st.map (am_av ad))) := by
  subst hw
  exact ih _ _ _ _ _ _ _ hx _ _ _ _ _ _ _ _ _ _ _ _ _ _ _ _ _ _ _ _ _ X hl (am_so_cons hv hs)
/-- a run's step out of its action -/
def am_FA (g : am_Fn) (d m : Nat) (lv : am_L) (h : am_H) (a : am_Act) : Option am_Res := match a with
  | .inl r => r
  | .inr (.inl (pc', lv', st', h')) => g d m pc' lv' st' h'
  | .inr (.inr (.inl (b, o1, o2))) => cond b (am_k g d m o1) (am_k g d m o2)
  | .inr (.inr (.inr (b, m', a, pc', st'))) => cond b (match d with
    | 0 => none
    | d' + 1 => (g d' m' 0 (am_ent m' a) [] h).bind (fun r => g d m pc' lv (r.1.toList ++ st') r.2)) none
theorem am_FA_ck {g : am_Fn} {b : Bool} {lv' : am_L} {st' : List am_V} {h' : am_H} {q : Nat} (hx : am_FA g d m lv h (am_ck b q lv' st' h') = some r) : b = true ∧ g d m q lv' st' h' = some r := by
  cases b with
  | true => exact ⟨rfl, hx⟩
  | false => cases hx
theorem am_FA_br {g : am_Fn} {b : Bool} {lv' : am_L} {st' : List am_V} {h' : am_H} {q1 q2 : Nat} (hx : am_FA g d m lv h (am_br b q1 q2 lv' st' h') = some r) : (b = true → g d m q1 lv' st' h' = some r) ∧ (b = false → g d m q2 lv' st' h' = some r) := by
  cases b with
  | true => exact ⟨fun _ => hx, fun e => (by cases e)⟩
  | false => exact ⟨fun e => (by cases e), fun _ => hx⟩
abbrev am_Wc (l : Launch) (p : Program) (e : Env) (R : Room) (s : State) (mt : MethodId) (args : Array Value) (below : List Frame) (meth : Method) (c : Code) (Q : State → Prop) (H : Heap) (locs : List Loc) (cells slots : Nat) (pc : Nat) (ls : Array Slot) (st : List Value) : Prop := W p l e R s mt args below meth c H locs cells slots Q (F0 mt pc ls st)
theorem s_bin (f : Int → Int → Int) (g : Int32 → Int32 → Int32) (hf : ∀ x y, am_R32 x → am_R32 y → g (Int32.ofInt x) (Int32.ofInt y) = Int32.ofInt (f x y)) (hr : ∀ x y, am_R32 x → am_R32 y → am_R32 (f x y)) (row : ∀ (x y : Int32) (rest : List Value), am_Wc l p e R s mt args below meth c Q H locs cells slots (pc + 1) ls (.int (g x y) :: rest) → am_Wc l p e R s mt args below meth c Q H locs cells slots pc ls (.int y :: .int x :: rest)) (ih : am_Sd l n) (X : am_Cx l p e R s mt args below meth c Q D cy A m d c0 s0 r ad h H locs cells slots) (hl : am_lr ad h.1.length ls (am_M m).2.2.1 lv) (hs : am_so h.1.length st) (hx : am_FA (am_x n) d m lv h (am_bin f pc lv st h) = some r) : am_Wc l p e R s mt args below meth c Q H locs cells slots pc ls (st.map (am_av ad)) := by
  unfold am_bin at hx
  split at hx
  · rename_i y x rest
    have hy := am_so_hd hs
    have hx' := am_so_hd (am_so_tl hs)
    refine row _ _ _ ?_
    exact s_push ih X hl (am_so_tl (am_so_tl hs)) (v := .inl (f x y)) (hr x y hx' hy) hx (by rw [hf x y hx' hy]; rfl)
  · cases hx
theorem s_div (f : Int → Int → Int) (g : Int32 → Int32 → Int32) (hf : ∀ x y, am_R32 x → am_R32 y → g (Int32.ofInt x) (Int32.ofInt y) = Int32.ofInt (f x y)) (hr : ∀ x y, am_R32 x → am_R32 y → am_R32 (f x y)) (row : ∀ (x y : Int32) (rest : List Value), ¬ y = 0 → am_Wc l p e R s mt args below meth c Q H locs cells slots (pc + 1) ls (.int (g x y) :: rest) → am_Wc l p e R s mt args below meth c Q H locs cells slots pc ls (.int y :: .int x :: rest)) (ih : am_Sd l n) (X : am_Cx l p e R s mt args below meth c Q D cy A m d c0 s0 r ad h H locs cells slots) (hl : am_lr ad h.1.length ls (am_M m).2.2.1 lv) (hs : am_so h.1.length st) (hx : am_FA (am_x n) d m lv h (am_div f pc lv st h) = some r) : am_Wc l p e R s mt args below meth c Q H locs cells slots pc ls (st.map (am_av ad)) := by
  unfold am_div at hx
  split at hx
  · rename_i y x rest
    have hy := am_so_hd hs
    have hx' := am_so_hd (am_so_tl hs)
    obtain ⟨hb, hx⟩ := am_FA_ck hx
    refine row _ _ _ (am_ne0 hy (by simpa using hb)) ?_
    exact s_push ih X hl (am_so_tl (am_so_tl hs)) (v := .inl (f x y)) (hr x y hx' hy) hx (by rw [hf x y hx' hy]; rfl)
  · cases hx
theorem s_un (f : Int → Int) (g : Int32 → Int32) (hf : ∀ x, am_R32 x → g (Int32.ofInt x) = Int32.ofInt (f x)) (hr : ∀ x, am_R32 x → am_R32 (f x)) (row : ∀ (x : Int32) (rest : List Value), am_Wc l p e R s mt args below meth c Q H locs cells slots (pc + 1) ls (.int (g x) :: rest) → am_Wc l p e R s mt args below meth c Q H locs cells slots pc ls (.int x :: rest)) (ih : am_Sd l n) (X : am_Cx l p e R s mt args below meth c Q D cy A m d c0 s0 r ad h H locs cells slots) (hl : am_lr ad h.1.length ls (am_M m).2.2.1 lv) (hs : am_so h.1.length st) (hx : am_FA (am_x n) d m lv h (am_un f pc lv st h) = some r) : am_Wc l p e R s mt args below meth c Q H locs cells slots pc ls (st.map (am_av ad)) := by
  unfold am_un at hx
  split at hx
  · rename_i x rest
    have hx' := am_so_hd hs
    refine row _ _ ?_
    exact s_push ih X hl (am_so_tl hs) (v := .inl (f x)) (hr x hx') hx (by rw [hf x hx']; rfl)
  · cases hx
theorem s_lbin (f : Int → Int → Int) (g : Int64 → Int64 → Int64) (hf : ∀ x y, am_R64 x → am_R64 y → g (Int64.ofInt x) (Int64.ofInt y) = Int64.ofInt (f x y)) (hr : ∀ x y, am_R64 x → am_R64 y → am_R64 (f x y)) (row : ∀ (x y : Int64) (rest : List Value), am_Wc l p e R s mt args below meth c Q H locs cells slots (pc + 1) ls (.long (g x y) :: rest) → am_Wc l p e R s mt args below meth c Q H locs cells slots pc ls (.long y :: .long x :: rest)) (ih : am_Sd l n) (X : am_Cx l p e R s mt args below meth c Q D cy A m d c0 s0 r ad h H locs cells slots) (hl : am_lr ad h.1.length ls (am_M m).2.2.1 lv) (hs : am_so h.1.length st) (hx : am_FA (am_x n) d m lv h (am_lbin f pc lv st h) = some r) : am_Wc l p e R s mt args below meth c Q H locs cells slots pc ls (st.map (am_av ad)) := by
  unfold am_lbin at hx
  split at hx
  · rename_i y x rest
    have hy := am_so_hd hs
    have hx' := am_so_hd (am_so_tl hs)
    refine row _ _ _ ?_
    exact s_push ih X hl (am_so_tl (am_so_tl hs)) (v := .inr (.inl (f x y))) (hr x y hx' hy) hx (by rw [hf x y hx' hy]; rfl)
  · cases hx
theorem s_ldiv (f : Int → Int → Int) (g : Int64 → Int64 → Int64) (hf : ∀ x y, am_R64 x → am_R64 y → g (Int64.ofInt x) (Int64.ofInt y) = Int64.ofInt (f x y)) (hr : ∀ x y, am_R64 x → am_R64 y → am_R64 (f x y)) (row : ∀ (x y : Int64) (rest : List Value), ¬ y = 0 → am_Wc l p e R s mt args below meth c Q H locs cells slots (pc + 1) ls (.long (g x y) :: rest) → am_Wc l p e R s mt args below meth c Q H locs cells slots pc ls (.long y :: .long x :: rest)) (ih : am_Sd l n) (X : am_Cx l p e R s mt args below meth c Q D cy A m d c0 s0 r ad h H locs cells slots) (hl : am_lr ad h.1.length ls (am_M m).2.2.1 lv) (hs : am_so h.1.length st) (hx : am_FA (am_x n) d m lv h (am_ldiv f pc lv st h) = some r) : am_Wc l p e R s mt args below meth c Q H locs cells slots pc ls (st.map (am_av ad)) := by
  unfold am_ldiv at hx
  split at hx
  · rename_i y x rest
    have hy := am_so_hd hs
    have hx' := am_so_hd (am_so_tl hs)
    obtain ⟨hb, hx⟩ := am_FA_ck hx
    refine row _ _ _ (am_ne0L hy (by simpa using hb)) ?_
    exact s_push ih X hl (am_so_tl (am_so_tl hs)) (v := .inr (.inl (f x y))) (hr x y hx' hy) hx (by rw [hf x y hx' hy]; rfl)
  · cases hx
theorem s_lun (f : Int → Int) (g : Int64 → Int64) (hf : ∀ x, am_R64 x → g (Int64.ofInt x) = Int64.ofInt (f x)) (hr : ∀ x, am_R64 x → am_R64 (f x)) (row : ∀ (x : Int64) (rest : List Value), am_Wc l p e R s mt args below meth c Q H locs cells slots (pc + 1) ls (.long (g x) :: rest) → am_Wc l p e R s mt args below meth c Q H locs cells slots pc ls (.long x :: rest)) (ih : am_Sd l n) (X : am_Cx l p e R s mt args below meth c Q D cy A m d c0 s0 r ad h H locs cells slots) (hl : am_lr ad h.1.length ls (am_M m).2.2.1 lv) (hs : am_so h.1.length st) (hx : am_FA (am_x n) d m lv h (am_lun f pc lv st h) = some r) : am_Wc l p e R s mt args below meth c Q H locs cells slots pc ls (st.map (am_av ad)) := by
  unfold am_lun at hx
  split at hx
  · rename_i x rest
    have hx' := am_so_hd hs
    refine row _ _ ?_
    exact s_push ih X hl (am_so_tl hs) (v := .inr (.inl (f x))) (hr x hx') hx (by rw [hf x hx']; rfl)
  · cases hx
/-- the same locals, another stack -/
theorem s_on {pc' : Nat} {st' : List am_V} (ih : am_Sd l n) (X : am_Cx l p e R s mt args below meth c Q D cy A m d c0 s0 r ad h H locs cells slots) (hl : am_lr ad h.1.length ls (am_M m).2.2.1 lv) (hs : am_so h.1.length st') (hx : am_x n d m pc' lv st' h = some r) : am_Wc l p e R s mt args below meth c Q H locs cells slots pc' ls (st'.map (am_av ad)) :=
  ih _ _ _ _ _ _ _ hx _ _ _ _ _ _ _ _ _ _ _ _ _ _ _ _ _ _ _ _ _ X hl hs
theorem am_tk_tg {pc : Nat} {off : Int} (h : am_tk pc off = true) : (pc : Int) + off = (am_tg pc off : Int) := by
  have h : 0 ≤ (pc : Int) + off := by simpa [am_tk] using h
  unfold am_tg
  omega
theorem s_if (cnd : ClassFile.Cond) {off : Int} (hb : c.code = (am_M m).2.1) (hex : p.tables.exec = Jvm.exec) (hd : decode (am_M m).2.1 pc = .ok (.ifCond cnd off, 3)) (ih : am_Sd l n) (X : am_Cx l p e R s mt args below meth c Q D cy A m d c0 s0 r ad h H locs cells slots) (hl : am_lr ad h.1.length ls (am_M m).2.2.1 lv) (hs : am_so h.1.length st) (hx : am_FA (am_x n) d m lv h (am_if cnd off pc lv st h) = some r) : am_Wc l p e R s mt args below meth c Q H locs cells slots pc ls (st.map (am_av ad)) := by
  unfold am_if at hx
  split at hx
  · rename_i x rest
    have hx' : am_R32 x := am_so_hd hs
    cases ht : am_tk pc off with
    | false => rw [ht] at hx; cases hx
    | true =>
      rw [ht] at hx
      obtain ⟨k1, k2⟩ := am_FA_br hx
      have j1 := fun q => s_on ih X hl (am_so_tl hs) (k1 q)
      have j2 := fun q => s_on ih X hl (am_so_tl hs) (k2 q)
      have tg := am_tk_tg ht
      cases cnd with
      | eq => exact lv_if_eq hex hb hd tg (fun q => j1 (by rw [← am_o0, am_eq hx' am_R0] at q; simp [am_cb, q])) (fun q => j2 (by rw [← am_o0, am_eq hx' am_R0] at q; simp [am_cb, q]))
      | ne => exact lv_if_ne hex hb hd tg (fun q => j1 (by rw [← am_o0, am_eq hx' am_R0] at q; simp [am_cb, q])) (fun q => j2 (by rw [← am_o0, am_eq hx' am_R0] at q; simp [am_cb, q]))
      | lt => exact lv_if_lt hex hb hd tg (fun q => j1 (by rw [← am_o0, am_lt hx' am_R0] at q; simp [am_cb, q])) (fun q => j2 (by rw [← am_o0, am_lt hx' am_R0] at q; simp [am_cb, q]))
      | ge => exact lv_if_ge hex hb hd tg (fun q => j1 (by rw [← am_o0, am_le am_R0 hx'] at q; simp [am_cb, q])) (fun q => j2 (by rw [← am_o0, am_le am_R0 hx'] at q; simp [am_cb, q]))
      | gt => exact lv_if_gt hex hb hd tg (fun q => j1 (by rw [← am_o0, am_lt am_R0 hx'] at q; simp [am_cb, q])) (fun q => j2 (by rw [← am_o0, am_lt am_R0 hx'] at q; simp [am_cb, q]))
      | le => exact lv_if_le hex hb hd tg (fun q => j1 (by rw [← am_o0, am_le hx' am_R0] at q; simp [am_cb, q])) (fun q => j2 (by rw [← am_o0, am_le hx' am_R0] at q; simp [am_cb, q]))
  · cases hx
theorem s_icmp (cnd : ClassFile.Cond) {off : Int} (hb : c.code = (am_M m).2.1) (hex : p.tables.exec = Jvm.exec) (hd : decode (am_M m).2.1 pc = .ok (.if_icmp cnd off, 3)) (ih : am_Sd l n) (X : am_Cx l p e R s mt args below meth c Q D cy A m d c0 s0 r ad h H locs cells slots) (hl : am_lr ad h.1.length ls (am_M m).2.2.1 lv) (hs : am_so h.1.length st) (hx : am_FA (am_x n) d m lv h (am_icmp cnd off pc lv st h) = some r) : am_Wc l p e R s mt args below meth c Q H locs cells slots pc ls (st.map (am_av ad)) := by
  unfold am_icmp at hx
  split at hx
  · rename_i y x rest
    have hy : am_R32 y := am_so_hd hs
    have hx' : am_R32 x := am_so_hd (am_so_tl hs)
    cases ht : am_tk pc off with
    | false => rw [ht] at hx; cases hx
    | true =>
      rw [ht] at hx
      obtain ⟨k1, k2⟩ := am_FA_br hx
      have j1 := fun q => s_on ih X hl (am_so_tl (am_so_tl hs)) (k1 q)
      have j2 := fun q => s_on ih X hl (am_so_tl (am_so_tl hs)) (k2 q)
      have tg := am_tk_tg ht
      cases cnd with
      | eq => exact lv_icmp_eq hex hb hd tg (fun q => j1 (by rw [am_eq hx' hy] at q; simp [am_cb, q])) (fun q => j2 (by rw [am_eq hx' hy] at q; simp [am_cb, q]))
      | ne => exact lv_icmp_ne hex hb hd tg (fun q => j1 (by rw [am_eq hx' hy] at q; simp [am_cb, q])) (fun q => j2 (by rw [am_eq hx' hy] at q; simp [am_cb, q]))
      | lt => exact lv_icmp_lt hex hb hd tg (fun q => j1 (by rw [am_lt hx' hy] at q; simp [am_cb, q])) (fun q => j2 (by rw [am_lt hx' hy] at q; simp [am_cb, q]))
      | ge => exact lv_icmp_ge hex hb hd tg (fun q => j1 (by rw [am_le hy hx'] at q; simp [am_cb, q])) (fun q => j2 (by rw [am_le hy hx'] at q; simp [am_cb, q]))
      | gt => exact lv_icmp_gt hex hb hd tg (fun q => j1 (by rw [am_lt hy hx'] at q; simp [am_cb, q])) (fun q => j2 (by rw [am_lt hy hx'] at q; simp [am_cb, q]))
      | le => exact lv_icmp_le hex hb hd tg (fun q => j1 (by rw [am_le hx' hy] at q; simp [am_cb, q])) (fun q => j2 (by rw [am_le hx' hy] at q; simp [am_cb, q]))
  · cases hx
end AMW
