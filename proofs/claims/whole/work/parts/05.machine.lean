/-! THE ABSTRACT MACHINE. Values are whole numbers (int, long) or places; the heap is: the shapes of the places (kind, length), the references in fields, the numbers in fields and arrays, and what was made so far (cells, slots) beside the script's length. Kinds: 0 .. 10 objects of our classes, 20 int[], 21 byte[], 22 boolean[], 23 long[], 24 an int[] that nobody writes (places from 1000000 on). The place 999999 is null. -/
abbrev am_V : Type := Int ⊕ (Int ⊕ Nat)
abbrev am_L : Type := List (Option am_V)
abbrev am_H : Type := List (Nat × Nat) × (Nat → Nat → Nat) × (Nat → Nat → Int) × (Nat × Nat × Nat)
abbrev am_Res : Type := Option am_V × am_H
abbrev am_Nx : Type := Nat × am_L × List am_V × am_H
abbrev am_Act : Type := Option am_Res ⊕ (am_Nx ⊕ ((Bool × Option am_Nx × Option am_Nx) ⊕ (Bool × Nat × List am_V × Nat × List am_V)))
abbrev am_Fn : Type := Nat → Nat → Nat → am_L → List am_V → am_H → Option am_Res
def am_w (z : Int) : Int := Int.bmod z (2 ^ 32)
def am_w64 (z : Int) : Int := Int.bmod z (2 ^ 64)
def am_and (x y : Int) : Int := (Int32.ofInt x &&& Int32.ofInt y).toInt
def am_or (x y : Int) : Int := (Int32.ofInt x ||| Int32.ofInt y).toInt
def am_xor (x y : Int) : Int := (Int32.ofInt x ^^^ Int32.ofInt y).toInt
def am_shl (x y : Int) : Int := (Int32.ofInt x <<< (Int32.ofInt y &&& 31)).toInt
def am_shr (x y : Int) : Int := (Int32.ofInt x >>> (Int32.ofInt y &&& 31)).toInt
def am_ushr (x y : Int) : Int := (((Int32.ofInt x).toUInt32 >>> ((Int32.ofInt y).toUInt32 &&& Int32.toUInt32 31)).toInt32).toInt
def am_land (x y : Int) : Int := (Int64.ofInt x &&& Int64.ofInt y).toInt
def am_b (x : Int) : Int := ((Int32.ofInt x).toInt8.toInt32).toInt
def am_ch (x : Int) : Int := (((Int32.ofInt x).toUInt32 % 65536).toInt32).toInt
def am_lc (x y : Int) : Int := if x > y then 1 else if x = y then 0 else -1
def am_up {α : Type} (f : Nat → Nat → α) (p k : Nat) (v : α) : Nat → Nat → α := fun q j => if q = p ∧ j = k then v else f q j
def am_clr {α : Type} (f : Nat → Nat → α) (p : Nat) (v : α) : Nat → Nat → α := fun q j => if q = p then v else f q j
def am_cp (f : Nat → Nat → Int) (a b sp dp n : Nat) : Nat → Nat → Int := fun q j => if q = b ∧ dp ≤ j ∧ j < dp + n then f a (sp + (j - dp)) else f q j
def am_ks (sh : List (Nat × Nat)) (L : Nat) (p : Nat) : Nat × Nat := bif Nat.blt p 1000000 then sh.getD p (99, 0) else bif Nat.beq p 1000000 then (24, L) else bif Nat.blt p 1000003 then (24, 4) else (99, 0)
def am_kl (h : am_H) (p : Nat) : Nat × Nat := am_ks h.1 h.2.2.2.2.2 p
def am_in (i : Int) (n : Nat) : Bool := decide (0 ≤ i ∧ i < (n : Int))
def am_i20 (q : Nat × Nat) (i : Int) : Bool := (Nat.beq q.1 20 || Nat.beq q.1 24) && am_in i q.2
def am_w20 (q : Nat × Nat) (i : Int) : Bool := Nat.beq q.1 20 && am_in i q.2
def am_b21 (q : Nat × Nat) (i : Int) : Bool := (Nat.beq q.1 21 || Nat.beq q.1 22) && am_in i q.2
def am_l23 (q : Nat × Nat) (i : Int) : Bool := Nat.beq q.1 23 && am_in i q.2
def am_isk (q : Nat × Nat) (ci : Nat) : Bool := Nat.beq q.1 ci
def am_cpk (qa qb : Nat × Nat) (sp dp n : Int) : Bool := Nat.beq qb.1 20 && (Nat.beq qa.1 20 || Nat.beq qa.1 24) && decide (0 ≤ n ∧ 0 ≤ dp ∧ 0 ≤ sp) && Nat.ble (sp.toNat + n.toNat) qa.2 && Nat.ble (dp.toNat + n.toNat) qb.2
def am_lnk (q : Nat × Nat) : Bool := Nat.ble 20 q.1 && Nat.ble q.1 24 && Nat.blt q.2 2147483648
def am_bv (q : Nat × Nat) (z : Int) : Int := bif Nat.beq q.1 21 then am_b z else am_and z 1
def am_go (pc : Nat) (lv : am_L) (st : List am_V) (h : am_H) : am_Act := .inr (.inl (pc, lv, st, h))
def am_no : am_Act := .inl none
def am_ck (b : Bool) (pc : Nat) (lv : am_L) (st : List am_V) (h : am_H) : am_Act := .inr (.inr (.inl (b, some (pc, lv, st, h), none)))
def am_br (b : Bool) (p1 p2 : Nat) (lv : am_L) (st : List am_V) (h : am_H) : am_Act := .inr (.inr (.inl (b, some (p1, lv, st, h), some (p2, lv, st, h))))
def am_set (lv : am_L) (i : Nat) (v : am_V) : am_L := (match i with
  | 0 => lv
  | j + 1 => match lv.getD j none with
    | some (.inr (.inl _)) => lv.set j none
    | _ => lv).set i (some v)
def am_set2 (lv : am_L) (i : Nat) (v : am_V) : am_L := (am_set lv i v).set (i + 1) none
def am_iload (i n pc : Nat) (lv : am_L) (st : List am_V) (h : am_H) : am_Act := match lv.getD i none with
  | some (.inl z) => am_go (pc + n) lv (.inl z :: st) h
  | _ => am_no
def am_lload (i n pc : Nat) (lv : am_L) (st : List am_V) (h : am_H) : am_Act := match lv.getD i none with
  | some (.inr (.inl z)) => am_go (pc + n) lv (.inr (.inl z) :: st) h
  | _ => am_no
def am_aload (i n pc : Nat) (lv : am_L) (st : List am_V) (h : am_H) : am_Act := match lv.getD i none with
  | some (.inr (.inr r)) => am_go (pc + n) lv (.inr (.inr r) :: st) h
  | _ => am_no
def am_istore (i n pc : Nat) (lv : am_L) (st : List am_V) (h : am_H) : am_Act := match st with
  | .inl z :: r => bif Nat.blt i lv.length then am_go (pc + n) (am_set lv i (.inl z)) r h else am_no
  | _ => am_no
def am_lstore (i n pc : Nat) (lv : am_L) (st : List am_V) (h : am_H) : am_Act := match st with
  | .inr (.inl z) :: r => bif Nat.blt (i + 1) lv.length then am_go (pc + n) (am_set2 lv i (.inr (.inl z))) r h else am_no
  | _ => am_no
def am_astore (i n pc : Nat) (lv : am_L) (st : List am_V) (h : am_H) : am_Act := match st with
  | .inr (.inr q) :: r => bif Nat.blt i lv.length then am_go (pc + n) (am_set lv i (.inr (.inr q))) r h else am_no
  | _ => am_no
def am_iinc (i : Nat) (c : Int) (n pc : Nat) (lv : am_L) (st : List am_V) (h : am_H) : am_Act := match lv.getD i none with
  | some (.inl z) => am_go (pc + n) (am_set lv i (.inl (am_w (z + c)))) st h
  | _ => am_no
def am_un (f : Int → Int) (pc : Nat) (lv : am_L) (st : List am_V) (h : am_H) : am_Act := match st with
  | .inl x :: r => am_go (pc + 1) lv (.inl (f x) :: r) h
  | _ => am_no
def am_bin (f : Int → Int → Int) (pc : Nat) (lv : am_L) (st : List am_V) (h : am_H) : am_Act := match st with
  | .inl y :: .inl x :: r => am_go (pc + 1) lv (.inl (f x y) :: r) h
  | _ => am_no
def am_div (f : Int → Int → Int) (pc : Nat) (lv : am_L) (st : List am_V) (h : am_H) : am_Act := match st with
  | .inl y :: .inl x :: r => am_ck (decide (y ≠ 0)) (pc + 1) lv (.inl (f x y) :: r) h
  | _ => am_no
def am_lun (f : Int → Int) (pc : Nat) (lv : am_L) (st : List am_V) (h : am_H) : am_Act := match st with
  | .inr (.inl x) :: r => am_go (pc + 1) lv (.inr (.inl (f x)) :: r) h
  | _ => am_no
def am_lbin (f : Int → Int → Int) (pc : Nat) (lv : am_L) (st : List am_V) (h : am_H) : am_Act := match st with
  | .inr (.inl y) :: .inr (.inl x) :: r => am_go (pc + 1) lv (.inr (.inl (f x y)) :: r) h
  | _ => am_no
def am_ldiv (f : Int → Int → Int) (pc : Nat) (lv : am_L) (st : List am_V) (h : am_H) : am_Act := match st with
  | .inr (.inl y) :: .inr (.inl x) :: r => am_ck (decide (y ≠ 0)) (pc + 1) lv (.inr (.inl (f x y)) :: r) h
  | _ => am_no
def am_lcmp (pc : Nat) (lv : am_L) (st : List am_V) (h : am_H) : am_Act := match st with
  | .inr (.inl y) :: .inr (.inl x) :: r => am_go (pc + 1) lv (.inl (am_lc x y) :: r) h
  | _ => am_no
def am_i2l (pc : Nat) (lv : am_L) (st : List am_V) (h : am_H) : am_Act := match st with
  | .inl x :: r => am_go (pc + 1) lv (.inr (.inl x) :: r) h
  | _ => am_no
def am_l2i (pc : Nat) (lv : am_L) (st : List am_V) (h : am_H) : am_Act := match st with
  | .inr (.inl x) :: r => am_go (pc + 1) lv (.inl (am_w x) :: r) h
  | _ => am_no
def am_cb (c : ClassFile.Cond) (x y : Int) : Bool := match c with
  | .eq => decide (x = y)
  | .ne => decide (¬ x = y)
  | .lt => decide (x < y)
  | .ge => decide (y ≤ x)
  | .gt => decide (y < x)
  | .le => decide (x ≤ y)
def am_tg (pc : Nat) (off : Int) : Nat := ((pc : Int) + off).toNat
def am_tk (pc : Nat) (off : Int) : Bool := decide (0 ≤ (pc : Int) + off)
def am_if (c : ClassFile.Cond) (off : Int) (pc : Nat) (lv : am_L) (st : List am_V) (h : am_H) : am_Act := match st with
  | .inl x :: r => bif am_tk pc off then am_br (am_cb c x 0) (am_tg pc off) (pc + 3) lv r h else am_no
  | _ => am_no
def am_icmp (c : ClassFile.Cond) (off : Int) (pc : Nat) (lv : am_L) (st : List am_V) (h : am_H) : am_Act := match st with
  | .inl y :: .inl x :: r => bif am_tk pc off then am_br (am_cb c x y) (am_tg pc off) (pc + 3) lv r h else am_no
  | _ => am_no
def am_goto (off : Int) (pc : Nat) (lv : am_L) (st : List am_V) (h : am_H) : am_Act := bif am_tk pc off then am_go (am_tg pc off) lv st h else am_no
def am_swo (dflt lo hi : Int) (offs : Array Int) (x : Int) : Int := if x < lo ∨ hi < x then dflt else offs.toList.getD (x - lo).toNat (-1000000)
def am_tsw (dflt lo hi : Int) (offs : Array Int) (pc : Nat) (lv : am_L) (st : List am_V) (h : am_H) : am_Act := match st with
  | .inl x :: r => am_ck (am_tk pc (am_swo dflt lo hi offs x)) (am_tg pc (am_swo dflt lo hi offs x)) lv r h
  | _ => am_no
def am_lso (ps : List (Int × Int)) (dflt : Int) (x : Int) : Int := match ps with
  | [] => dflt
  | (a, o) :: r => if x = a then o else am_lso r dflt x
def am_srt (ps : List (Int × Int)) : Bool := (ps.zip (ps.drop 1)).all (fun (a, next) => a.1 < next.1)
def am_lsw (dflt : Int) (ps : Array (Int × Int)) (pc : Nat) (lv : am_L) (st : List am_V) (h : am_H) : am_Act := match st with
  | .inl x :: r => bif am_srt ps.toList then am_ck (am_tk pc (am_lso ps.toList dflt x)) (am_tg pc (am_lso ps.toList dflt x)) lv r h else am_no
  | _ => am_no
def am_dup (pc : Nat) (lv : am_L) (st : List am_V) (h : am_H) : am_Act := match st with
  | .inl x :: r => am_go (pc + 1) lv (.inl x :: .inl x :: r) h
  | .inr (.inr x) :: r => am_go (pc + 1) lv (.inr (.inr x) :: .inr (.inr x) :: r) h
  | _ => am_no
def am_pop (pc : Nat) (lv : am_L) (st : List am_V) (h : am_H) : am_Act := match st with
  | .inl _ :: r => am_go (pc + 1) lv r h
  | .inr (.inr _) :: r => am_go (pc + 1) lv r h
  | _ => am_no
def am_dup2 (pc : Nat) (lv : am_L) (st : List am_V) (h : am_H) : am_Act := match st with
  | .inl y :: .inr (.inr x) :: r => am_go (pc + 1) lv (.inl y :: .inr (.inr x) :: .inl y :: .inr (.inr x) :: r) h
  | _ => am_no
def am_fv (t : Nat) (h : am_H) (p k : Nat) : am_V := match t with
  | 1 => .inr (.inl (h.2.2.1 p k))
  | 2 => .inr (.inr (h.2.1 p k))
  | _ => .inl (h.2.2.1 p k)
def am_wr (h : am_H) (p k : Nat) (z : Int) : am_H := (h.1, h.2.1, am_up h.2.2.1 p k z, h.2.2.2)
def am_wf (h : am_H) (p k : Nat) (r : Nat) : am_H := (h.1, am_up h.2.1 p k r, h.2.2.1, h.2.2.2)
def am_get (ci k t : Nat) (pc : Nat) (lv : am_L) (st : List am_V) (h : am_H) : am_Act := match st with
  | .inr (.inr p) :: r => am_ck (am_isk (am_kl h p) ci) (pc + 3) lv (am_fv t h p k :: r) h
  | _ => am_no
def am_put (ci k t : Nat) (pc : Nat) (lv : am_L) (st : List am_V) (h : am_H) : am_Act := match st with
  | .inl z :: .inr (.inr p) :: r => bif Nat.beq t 0 then am_ck (am_isk (am_kl h p) ci) (pc + 3) lv r (am_wr h p k z) else bif Nat.beq t 3 then am_ck (am_isk (am_kl h p) ci && decide (z = 0 ∨ z = 1)) (pc + 3) lv r (am_wr h p k z) else am_no
  | .inr (.inl z) :: .inr (.inr p) :: r => bif Nat.beq t 1 then am_ck (am_isk (am_kl h p) ci) (pc + 3) lv r (am_wr h p k z) else am_no
  | .inr (.inr q) :: .inr (.inr p) :: r => bif Nat.beq t 2 then am_ck (am_isk (am_kl h p) ci) (pc + 3) lv r (am_wf h p k q) else am_no
  | _ => am_no
def am_iald (pc : Nat) (lv : am_L) (st : List am_V) (h : am_H) : am_Act := match st with
  | .inl i :: .inr (.inr p) :: r => am_ck (am_i20 (am_kl h p) i) (pc + 1) lv (.inl (h.2.2.1 p i.toNat) :: r) h
  | _ => am_no
def am_bald (pc : Nat) (lv : am_L) (st : List am_V) (h : am_H) : am_Act := match st with
  | .inl i :: .inr (.inr p) :: r => am_ck (am_b21 (am_kl h p) i) (pc + 1) lv (.inl (h.2.2.1 p i.toNat) :: r) h
  | _ => am_no
def am_lald (pc : Nat) (lv : am_L) (st : List am_V) (h : am_H) : am_Act := match st with
  | .inl i :: .inr (.inr p) :: r => am_ck (am_l23 (am_kl h p) i) (pc + 1) lv (.inr (.inl (h.2.2.1 p i.toNat)) :: r) h
  | _ => am_no
def am_iast (pc : Nat) (lv : am_L) (st : List am_V) (h : am_H) : am_Act := match st with
  | .inl z :: .inl i :: .inr (.inr p) :: r => am_ck (am_w20 (am_kl h p) i) (pc + 1) lv r (am_wr h p i.toNat z)
  | _ => am_no
def am_bast (pc : Nat) (lv : am_L) (st : List am_V) (h : am_H) : am_Act := match st with
  | .inl z :: .inl i :: .inr (.inr p) :: r => am_ck (am_b21 (am_kl h p) i) (pc + 1) lv r (am_wr h p i.toNat (am_bv (am_kl h p) z))
  | _ => am_no
def am_last (pc : Nat) (lv : am_L) (st : List am_V) (h : am_H) : am_Act := match st with
  | .inr (.inl z) :: .inl i :: .inr (.inr p) :: r => am_ck (am_l23 (am_kl h p) i) (pc + 1) lv r (am_wr h p i.toNat z)
  | _ => am_no
def am_alen (pc : Nat) (lv : am_L) (st : List am_V) (h : am_H) : am_Act := match st with
  | .inr (.inr p) :: r => am_ck (am_lnk (am_kl h p)) (pc + 1) lv (.inl ((am_kl h p).2 : Int) :: r) h
  | _ => am_no
/-- a new cell of a kind, all its places zero or null -/
def am_mk (h : am_H) (kind n : Nat) : am_H := (h.1 ++ [(kind, n)], am_clr h.2.1 h.1.length 999999, am_clr h.2.2.1 h.1.length 0, (h.2.2.2.1 + 1, h.2.2.2.2.1 + n, h.2.2.2.2.2))
def am_newa (a : ArrayType) (pc : Nat) (lv : am_L) (st : List am_V) (h : am_H) : am_Act := match st with
  | .inl n :: r => match a with
    | .int => am_ck (decide (0 ≤ n ∧ n ≤ 60000000) && Nat.blt h.1.length 999999) (pc + 2) lv (.inr (.inr h.1.length) :: r) (am_mk h 20 n.toNat)
    | .byte => am_ck (decide (0 ≤ n ∧ n ≤ 60000000) && Nat.blt h.1.length 999999) (pc + 2) lv (.inr (.inr h.1.length) :: r) (am_mk h 21 n.toNat)
    | .boolean => am_ck (decide (0 ≤ n ∧ n ≤ 60000000) && Nat.blt h.1.length 999999) (pc + 2) lv (.inr (.inr h.1.length) :: r) (am_mk h 22 n.toNat)
    | .long => am_ck (decide (0 ≤ n ∧ n ≤ 60000000) && Nat.blt h.1.length 999999) (pc + 2) lv (.inr (.inr h.1.length) :: r) (am_mk h 23 n.toNat)
    | _ => am_no
  | _ => am_no
def am_new (ci n : Nat) (pc : Nat) (lv : am_L) (st : List am_V) (h : am_H) : am_Act := am_ck (Nat.blt h.1.length 999999) (pc + 3) lv (.inr (.inr h.1.length) :: st) (am_mk h ci n)
def am_cat (v : am_V) : Nat := match v with
  | .inr (.inl _) => 2
  | _ => 1
def am_rm (st : List am_V) : Bool := Nat.ble (st.map am_cat).sum 8
def am_nn0 (p : Nat) : Bool := !(Nat.beq p 999999)
def am_cy (h : am_H) (tag : Nat) (own : Nat) (args : List am_V) : Bool := match args with
  | .inr (.inr p) :: _ => bif Nat.beq tag 2 then am_isk (am_kl h p) own else bif Nat.beq tag 4 then am_nn0 p else false
  | _ => false
/-- a method's locals at its entry -/
def am_lay (args : List am_V) : am_L := match args with
  | [] => []
  | .inr (.inl z) :: r => some (.inr (.inl z)) :: none :: am_lay r
  | v :: r => some v :: am_lay r
def am_call (tag m' n : Nat) (own : Nat) (pc : Nat) (st : List am_V) (h : am_H) : am_Act :=
  bif Nat.beq tag 3 then bif Nat.ble n st.length && am_rm (st.drop n) && Nat.ble (am_lay (st.take n).reverse).length (am_M m').2.2.1 then .inr (.inr (.inr (true, m', (st.take n).reverse, pc + 3, st.drop n))) else am_no
  else bif Nat.ble (n + 1) st.length && am_rm (st.drop (n + 1)) && Nat.ble (am_lay (st.take (n + 1)).reverse).length (am_M m').2.2.1 then .inr (.inr (.inr (am_cy h tag own (st.take (n + 1)).reverse, m', (st.take (n + 1)).reverse, pc + 3, st.drop (n + 1)))) else am_no
def am_obj (d pc : Nat) (lv : am_L) (st : List am_V) (h : am_H) : am_Act := match st with
  | .inr (.inr p) :: r => bif Nat.ble 1 d && am_rm r then am_ck (am_nn0 p) (pc + 3) lv r h else am_no
  | _ => am_no
def am_acp (d pc : Nat) (lv : am_L) (st : List am_V) (h : am_H) : am_Act := match st with
  | .inl n :: .inl dp :: .inr (.inr b) :: .inl sp :: .inr (.inr a) :: r => bif Nat.ble 1 d && am_rm r then am_ck (am_cpk (am_kl h a) (am_kl h b) sp dp n) (pc + 3) lv r (h.1, h.2.1, am_cp h.2.2.1 a b sp.toNat dp.toNat n.toNat, h.2.2.2) else am_no
  | _ => am_no
def am_iabs (x : Int) : Int := if 0 ≤ x then x else am_w (0 - x)
def am_labs (x : Int) : Int := if 0 < x then x else am_w64 (-x)
def am_imax (x y : Int) : Int := if x < y then y else x
def am_imin (x y : Int) : Int := if y < x then y else x
def am_lmax (x y : Int) : Int := if y < x then x else y
def am_lmin (x y : Int) : Int := if y < x then y else x
def am_mu1 (f : Int → Int) (d pc : Nat) (lv : am_L) (st : List am_V) (h : am_H) : am_Act := match st with
  | .inl x :: r => bif Nat.ble 1 d && am_rm r then am_go (pc + 3) lv (.inl (f x) :: r) h else am_no
  | _ => am_no
def am_mu2 (f : Int → Int → Int) (d pc : Nat) (lv : am_L) (st : List am_V) (h : am_H) : am_Act := match st with
  | .inl y :: .inl x :: r => bif Nat.ble 1 d && am_rm r then am_go (pc + 3) lv (.inl (f x y) :: r) h else am_no
  | _ => am_no
def am_ml1 (f : Int → Int) (d pc : Nat) (lv : am_L) (st : List am_V) (h : am_H) : am_Act := match st with
  | .inr (.inl x) :: r => bif Nat.ble 1 d && am_rm r then am_go (pc + 3) lv (.inr (.inl (f x)) :: r) h else am_no
  | _ => am_no
def am_ml2 (f : Int → Int → Int) (d pc : Nat) (lv : am_L) (st : List am_V) (h : am_H) : am_Act := match st with
  | .inr (.inl y) :: .inr (.inl x) :: r => bif Nat.ble 1 d && am_rm r then am_go (pc + 3) lv (.inr (.inl (f x y)) :: r) h else am_no
  | _ => am_no
/-- the two texts that String constants hold: the class's words, the reference's -/
def am_STR : List (List Int) := [[109, 97, 110, 32, 116, 104, 105, 110, 103, 32, 115, 101, 101, 115, 32, 119, 97, 121, 32, 116, 101, 108, 108, 32, 110, 101, 97, 114, 32, 102, 97, 114, 32, 116, 97, 108, 107, 32, 115, 101, 101, 100, 32, 108, 97, 119, 32, 99, 104, 97, 110, 103, 101, 32, 102, 105, 116, 115, 32, 112, 114, 105, 110, 116, 32, 104, 97, 116, 115, 32, 98, 101, 110, 116, 32, 111, 108, 100, 32, 97, 112, 97, 114, 116, 32, 109, 97, 110, 121, 32, 116, 111, 108, 100, 32, 100, 97, 121, 32, 110, 111, 116, 32, 97, 110, 100, 32, 111, 114, 32], [109, 97, 110, 32, 116, 104, 105, 110, 103, 32, 115, 101, 101, 115, 32, 119, 97, 121, 32, 116, 101, 108, 108, 32, 110, 101, 97, 114, 32, 102, 97, 114, 32, 116, 97, 108, 107, 32, 115, 101, 101, 100, 32, 108, 97, 119, 32, 99, 104, 97, 110, 103, 101, 32, 102, 105, 116, 115, 32, 112, 114, 105, 110, 116, 32, 111, 114, 32, 97, 110, 100, 32, 110, 111, 116, 32, 104, 97, 116, 115, 32, 98, 101, 110, 116, 32, 111, 108, 100, 32, 97, 112, 97, 114, 116, 32, 109, 97, 110, 121, 32, 116, 111, 108, 100, 32, 100, 97, 121, 32]]
def am_sch (p : Nat) (i : Int) : Int := (am_STR.getD (p - 1000003) []).getD i.toNat 0
def am_isS (p : Nat) : Bool := Nat.beq p 1000003 || Nat.beq p 1000004
/-- String.length -/
def am_slen (d pc : Nat) (lv : am_L) (st : List am_V) (h : am_H) : am_Act := match st with
  | .inr (.inr p) :: r => bif Nat.ble 5 d && am_rm r then am_ck (am_isS p) (pc + 3) lv (.inl 110 :: r) h else am_no
  | _ => am_no
/-- String.charAt -/
def am_scat (d pc : Nat) (lv : am_L) (st : List am_V) (h : am_H) : am_Act := match st with
  | .inl i :: .inr (.inr p) :: r => bif Nat.ble 5 d && am_rm r then am_ck (am_isS p && am_in i 110) (pc + 3) lv (.inl (am_sch p i) :: r) h else am_no
  | _ => am_no
def am_lb (lv : am_L) (k p : Nat) : Bool := match lv.getD k none with
  | some (.inr (.inr q)) => Nat.beq q p
  | _ => false
/-- the law's locals: the script, the class's object, the reference's, the row for an answer; and the place in the script -/
def am_hi (lv : am_L) : Option Int := match lv.getD 4 none with
  | some (.inl i) => bif am_lb lv 0 1000000 && (am_lb lv 1 0 && (am_lb lv 2 99 && (am_lb lv 3 141 && decide (0 ≤ i)))) then some i else none
  | _ => none
/-- the law's two halts: behind a call, ahead of a call of its method thing -/
def am_hl (lv : am_L) (st : List am_V) (h : am_H) : am_Act := match st with
  | [] => match am_hi lv with
    | some i => .inl (some (some (.inr (.inr (2 * i.toNat))), h))
    | none => am_no
  | _ => am_no
def am_hT (lv : am_L) (st : List am_V) (h : am_H) : am_Act := match st with
  | [.inr (.inr o), .inl p1, .inl p0, .inr (.inr x)] => match am_hi lv with
    | some i => .inl (bif Nat.beq o 141 && (Nat.beq x 0 && decide (p0 = h.2.2.1 1000000 (i.toNat + 1) ∧ p1 = h.2.2.1 1000000 (i.toNat + 2))) then some (some (.inr (.inr (2 * i.toNat + 1))), h) else none)
    | none => am_no
  | _ => am_no
def am_find {α : Type} (l : List (Nat × α)) (k : Nat) : Option α := match l with
  | [] => none
  | e :: r => bif Nat.beq e.1 k then some e.2 else am_find r k
def am_code (m pc : Nat) : Option (Instr × Nat) := am_find ((am_M m).2.2.2.2.2.getD (pc / 32) []) pc
def am_own (m : Nat) : Nat := (am_M m).2.2.2.2.1
def am_pool (m idx : Nat) : Option (Nat × Nat × Nat × Int × Nat) := am_find ((am_PP.getD (am_own m) []).getD (idx / 16) []) idx
def am_ps (m idx k : Nat) : Bool := match am_pool m idx with
  | some e => Nat.beq e.1 2 && Nat.beq e.2.1 k
  | none => false
def am_ret (m : Nat) (st : List am_V) (h : am_H) : am_Act := match st with
  | [.inl z] => match (am_M m).2.2.2.1 with
    | some .int => .inl (some (some (.inl z), h))
    | some .boolean => .inl (bif decide (z = 0 ∨ z = 1) then some (some (.inl z), h) else none)
    | some .byte => .inl (bif decide (-128 ≤ z ∧ z ≤ 127) then some (some (.inl z), h) else none)
    | some .char => .inl (bif decide (0 ≤ z ∧ z ≤ 65535) then some (some (.inl z), h) else none)
    | _ => am_no
  | _ => am_no
def am_lret (m : Nat) (st : List am_V) (h : am_H) : am_Act := match st with
  | [.inr (.inl z)] => match (am_M m).2.2.2.1 with
    | some .long => .inl (some (some (.inr (.inl z)), h))
    | _ => am_no
  | _ => am_no
def am_vret (m : Nat) (st : List am_V) (h : am_H) : am_Act := match st with
  | [] => match (am_M m).2.2.2.1 with
    | none => .inl (some (none, h))
    | _ => am_no
  | _ => am_no
def am_inv (e : Option (Nat × Nat × Nat × Int × Nat)) (lo hi : Nat) (d pc : Nat) (lv : am_L) (st : List am_V) (h : am_H) : am_Act := match e with
  | some (tag, a, b, _, _) => bif Nat.ble lo tag && Nat.ble tag hi then bif Nat.beq tag 5 then am_obj d pc lv st h else bif Nat.beq tag 6 then am_acp d pc lv st h else am_call tag a b (am_own a) pc st h else am_no
  | none => am_no
def am_act1 (d m pc : Nat) (lv : am_L) (st : List am_V) (h : am_H) (i : Instr) (n : Nat) : am_Act := match i with
  | .iconst z => am_go (pc + 1) lv (.inl z :: st) h
  | .bipush z => am_go (pc + 2) lv (.inl z :: st) h
  | .sipush z => am_go (pc + 3) lv (.inl z :: st) h
  | .lconst z => am_go (pc + 1) lv (.inr (.inl ((z : Nat) : Int)) :: st) h
  | .ldc idx => match am_pool m idx with
    | some (8, _, _, z, _) => am_go (pc + 2) lv (.inl z :: st) h
    | some (10, a, _, _, _) => am_go (pc + 2) lv (.inr (.inr a) :: st) h
    | _ => am_no
  | .ldc_w idx => match am_pool m idx with
    | some (8, _, _, z, _) => am_go (pc + 3) lv (.inl z :: st) h
    | _ => am_no
  | .ldc2_w idx => match am_pool m idx with
    | some (9, _, _, z, _) => am_go (pc + 3) lv (.inr (.inl z) :: st) h
    | _ => am_no
  | .iload i => am_iload i 2 pc lv st h
  | .iload_n i => am_iload i 1 pc lv st h
  | .lload i => am_lload i 2 pc lv st h
  | .lload_n i => am_lload i 1 pc lv st h
  | .aload i => am_aload i 2 pc lv st h
  | .aload_n i => am_aload i 1 pc lv st h
  | .istore i => am_istore i 2 pc lv st h
  | .istore_n i => am_istore i 1 pc lv st h
  | .lstore i => am_lstore i 2 pc lv st h
  | .lstore_n i => am_lstore i 1 pc lv st h
  | .astore i => am_astore i 2 pc lv st h
  | .astore_n i => am_astore i 1 pc lv st h
  | .iinc i c => bif Nat.beq n 3 then (bif Nat.beq m 276 && Nat.beq pc 1533 then am_hl lv st h else am_iinc i c 3 pc lv st h) else am_no
  | .iadd => am_bin (fun x y => am_w (x + y)) pc lv st h
  | .isub => am_bin (fun x y => am_w (x - y)) pc lv st h
  | .imul => am_bin (fun x y => am_w (x * y)) pc lv st h
  | .iand => am_bin am_and pc lv st h
  | .ior => am_bin am_or pc lv st h
  | .ixor => am_bin am_xor pc lv st h
  | .ishl => am_bin am_shl pc lv st h
  | .ishr => am_bin am_shr pc lv st h
  | .iushr => am_bin am_ushr pc lv st h
  | .idiv => am_div (fun x y => am_w (Int.tdiv x y)) pc lv st h
  | .irem => am_div (fun x y => Int.tmod x y) pc lv st h
  | .ineg => am_un (fun x => am_w (-x)) pc lv st h
  | .i2b => am_un am_b pc lv st h
  | .i2c => am_un am_ch pc lv st h
  | .ladd => am_lbin (fun x y => am_w64 (x + y)) pc lv st h
  | .lsub => am_lbin (fun x y => am_w64 (x - y)) pc lv st h
  | .lmul => am_lbin (fun x y => am_w64 (x * y)) pc lv st h
  | .land => am_lbin am_land pc lv st h
  | .ldiv => am_ldiv (fun x y => am_w64 (Int.tdiv x y)) pc lv st h
  | .lrem => am_ldiv (fun x y => Int.tmod x y) pc lv st h
  | .lneg => am_lun (fun x => am_w64 (-x)) pc lv st h
  | .lcmp => am_lcmp pc lv st h
  | .i2l => am_i2l pc lv st h
  | .l2i => am_l2i pc lv st h
  | .dup => am_dup pc lv st h
  | .dup2 => am_dup2 pc lv st h
  | .pop => am_pop pc lv st h
  | .ifCond c off => am_if c off pc lv st h
  | .if_icmp c off => am_icmp c off pc lv st h
  | .goto off => am_goto off pc lv st h
  | .tableswitch dflt lo hi offs => am_tsw dflt lo hi offs pc lv st h
  | .lookupswitch dflt ps => am_lsw dflt ps pc lv st h
  | .getfield idx => match am_pool m idx with
    | some (1, ci, k, t, _) => am_get ci k t.toNat pc lv st h
    | _ => am_no
  | .putfield idx => match am_pool m idx with
    | some (1, ci, k, t, _) => am_put ci k t.toNat pc lv st h
    | _ => am_no
  | .getstatic idx => match am_pool m idx with
    | some (11, a, _, _, _) => am_go (pc + 3) lv (.inr (.inr a) :: st) h
    | _ => am_no
  | .new idx => match am_pool m idx with
    | some (7, ci, k, _, _) => am_new ci k pc lv st h
    | _ => am_no
  | .newarray a => am_newa a pc lv st h
  | .arraylength => am_alen pc lv st h
  | .iaload => am_iald pc lv st h
  | .baload => am_bald pc lv st h
  | .laload => am_lald pc lv st h
  | .iastore => am_iast pc lv st h
  | .bastore => am_bast pc lv st h
  | .lastore => am_last pc lv st h
  | .invokevirtual idx => bif am_ps m idx 264 then am_slen d pc lv st h else bif am_ps m idx 265 then am_scat d pc lv st h else am_inv (am_pool m idx) 2 2 d pc lv st h
  | .invokestatic idx => match am_pool m idx with
    | some (3, a, b, z, q) => am_inv (some (3, a, b, z, q)) 3 3 d pc lv st h
    | some (6, a, b, z, q) => am_inv (some (6, a, b, z, q)) 6 6 d pc lv st h
    | some (20, _, _, _, _) => am_mu1 am_iabs d pc lv st h
    | some (21, _, _, _, _) => am_ml1 am_labs d pc lv st h
    | some (22, _, _, _, _) => am_mu2 am_imax d pc lv st h
    | some (23, _, _, _, _) => am_ml2 am_lmax d pc lv st h
    | some (24, _, _, _, _) => am_mu2 am_imin d pc lv st h
    | some (25, _, _, _, _) => am_ml2 am_lmin d pc lv st h
    | none => bif Nat.beq m 276 && Nat.beq pc 374 then am_hT lv st h else am_no
    | _ => am_no
  | .invokespecial idx => am_inv (am_pool m idx) 4 5 d pc lv st h
  | .ireturn => am_ret m st h
  | .lreturn => am_lret m st h
  | .return_ => am_vret m st h
  | _ => am_no
def am_act (d m pc : Nat) (lv : am_L) (st : List am_V) (h : am_H) : am_Act := match am_code m pc with
  | some (i, n) => am_act1 d m pc lv st h i n
  | none => am_no
def am_ent (m : Nat) (args : List am_V) : am_L := am_lay args ++ List.replicate ((am_M m).2.2.1 - (am_lay args).length) none
def am_k (g : am_Fn) (d m : Nat) (o : Option am_Nx) : Option am_Res := match o with
  | none => none
  | some (pc, lv, st, h) => g d m pc lv st h
/-- one step: g1 answers calls, g2 goes on -/
def am_F (g1 g2 : am_Fn) : am_Fn := fun d m pc lv st h => match am_act d m pc lv st h with
  | .inl r => r
  | .inr (.inl (pc', lv', st', h')) => g2 d m pc' lv' st' h'
  | .inr (.inr (.inl (b, o1, o2))) => cond b (am_k g2 d m o1) (am_k g2 d m o2)
  | .inr (.inr (.inr (b, m', a, pc', st'))) => cond b (match d with
    | 0 => none
    | d' + 1 => (g1 d' m' 0 (am_ent m' a) [] h).bind (fun r => g2 d m pc' lv (r.1.toList ++ st') r.2)) none
def am_x : Nat → am_Fn
  | 0 => fun _ _ _ _ _ _ => none
  | n + 1 => am_F (am_x n) (am_x n)
theorem am_F_mono {g g' : am_Fn} (hg : ∀ d m pc lv st h r, g d m pc lv st h = some r → g' d m pc lv st h = some r) {d m pc : Nat} {lv : am_L} {st : List am_V} {h : am_H} {r : am_Res} (hr : am_F g g d m pc lv st h = some r) : am_F g' g' d m pc lv st h = some r := by
  have hk : ∀ (o : Option am_Nx) (r : am_Res), am_k g d m o = some r → am_k g' d m o = some r := by
    intro o r ho
    cases o with
    | none => simp [am_k] at ho
    | some n => exact hg _ _ _ _ _ _ _ ho
  unfold am_F at hr ⊢
  split at hr
  · exact hr
  · exact hg _ _ _ _ _ _ _ hr
  · rename_i b _ _ _
    cases hq : b with
    | true => rw [hq] at hr; simp only [cond_true] at hr ⊢; exact hk _ _ hr
    | false => rw [hq] at hr; simp only [cond_false] at hr ⊢; exact hk _ _ hr
  · rename_i b _ _ _ _ _
    cases hq : b with
    | false => rw [hq] at hr; simp at hr
    | true =>
      rw [hq] at hr
      simp only [cond_true] at hr ⊢
      cases d with
      | zero => simp at hr
      | succ d' =>
        simp only [] at hr ⊢
        obtain ⟨a, ha, hb⟩ := Option.bind_eq_some_iff.mp hr
        exact Option.bind_eq_some_iff.mpr ⟨a, hg _ _ _ _ _ _ _ ha, hg _ _ _ _ _ _ _ hb⟩
theorem am_x_step (n : Nat) : ∀ d m pc lv st h r, am_x n d m pc lv st h = some r → am_x (n + 1) d m pc lv st h = some r := by
  induction n with
  | zero => intro d m pc lv st h r hr; simp [am_x] at hr
  | succ n ih => intro d m pc lv st h r hr; exact am_F_mono ih hr
theorem am_x_le {n k : Nat} (hk : n ≤ k) {d m pc : Nat} {lv : am_L} {st : List am_V} {h : am_H} {r : am_Res} (hr : am_x n d m pc lv st h = some r) : am_x k d m pc lv st h = some r := by
  induction hk with
  | refl => exact hr
  | step _ ih => exact am_x_step _ _ _ _ _ _ _ _ ih
/-- what the machine comes to, if it comes to anything -/
noncomputable def am_E : am_Fn := fun d m pc lv st h => @dite (Option am_Res) (∃ (r : am_Res) (n : Nat), am_x n d m pc lv st h = some r) (Classical.propDecidable _) (fun hh => some (Classical.choose hh)) (fun _ => none)
theorem am_E_iff {d m pc : Nat} {lv : am_L} {st : List am_V} {h : am_H} {r : am_Res} : am_E d m pc lv st h = some r ↔ ∃ n, am_x n d m pc lv st h = some r := by
  unfold am_E
  constructor
  · intro hr
    split at hr
    · rename_i hh
      obtain ⟨n, hn⟩ := Classical.choose_spec hh
      exact ⟨n, by rw [hn]; exact hr⟩
    · cases hr
  · rintro ⟨n, hn⟩
    have hh : ∃ (r : am_Res) (n : Nat), am_x n d m pc lv st h = some r := ⟨r, n, hn⟩
    rw [dif_pos hh]
    obtain ⟨k, hk⟩ := Classical.choose_spec hh
    have h1 := am_x_le (Nat.le_max_left n k) hn
    have h2 := am_x_le (Nat.le_max_right n k) hk
    rw [h1] at h2
    exact h2.symm
theorem am_E_fix (d m pc : Nat) (lv : am_L) (st : List am_V) (h : am_H) : am_E d m pc lv st h = am_F am_E am_E d m pc lv st h := by
  have hle : ∀ n d m pc lv st h r, am_x n d m pc lv st h = some r → am_E d m pc lv st h = some r := fun n _ _ _ _ _ _ _ hr => am_E_iff.mpr ⟨n, hr⟩
  have key : ∀ r, am_E d m pc lv st h = some r ↔ am_F am_E am_E d m pc lv st h = some r := by
    intro r
    constructor
    · intro hr
      obtain ⟨n, hn⟩ := am_E_iff.mp hr
      cases n with
      | zero => simp [am_x] at hn
      | succ n => exact am_F_mono (hle n) hn
    · intro hr
      have hk : ∀ (o : Option am_Nx) (r : am_Res), am_k am_E d m o = some r → ∃ n, am_k (am_x n) d m o = some r := by
        intro o r ho
        cases o with
        | none => simp [am_k] at ho
        | some n => exact am_E_iff.mp ho
      suffices hs : ∃ n, am_F (am_x n) (am_x n) d m pc lv st h = some r by
        obtain ⟨n, hn⟩ := hs
        exact am_E_iff.mpr ⟨n + 1, hn⟩
      unfold am_F at hr ⊢
      split at hr
      · exact ⟨0, hr⟩
      · exact am_E_iff.mp hr
      · rename_i b _ _ _
        cases hq : b with
        | true => rw [hq] at hr; simp only [cond_true] at hr ⊢; exact hk _ _ hr
        | false => rw [hq] at hr; simp only [cond_false] at hr ⊢; exact hk _ _ hr
      · rename_i b _ _ _ _ _
        cases hq : b with
        | false => rw [hq] at hr; simp at hr
        | true =>
          rw [hq] at hr
          simp only [cond_true] at hr ⊢
          cases d with
          | zero => simp at hr
          | succ d' =>
            simp only [] at hr ⊢
            obtain ⟨a, ha, hb⟩ := Option.bind_eq_some_iff.mp hr
            obtain ⟨n1, h1⟩ := am_E_iff.mp ha
            obtain ⟨n2, h2⟩ := am_E_iff.mp hb
            exact ⟨max n1 n2, Option.bind_eq_some_iff.mpr ⟨a, am_x_le (Nat.le_max_left _ _) h1, am_x_le (Nat.le_max_right _ _) h2⟩⟩
  cases he : am_E d m pc lv st h with
  | none =>
    cases hf : am_F am_E am_E d m pc lv st h with
    | none => rfl
    | some r => rw [(key r).mpr hf] at he; cases he
  | some r => exact ((key r).mp he).symm
/-- several steps at once, up to the places where 'stop' says so -/
def am_sx (g : am_Fn) (stop : Nat → Bool) : Nat → am_Fn
  | 0 => g
  | k + 1 => fun d m pc lv st h => cond (stop pc) (g d m pc lv st h) (am_F g (am_sx g stop k) d m pc lv st h)
theorem am_sx_eq (stop : Nat → Bool) (k : Nat) : am_sx am_E stop k = am_E := by
  induction k with
  | zero => rfl
  | succ k ih =>
    funext d m pc lv st h
    unfold am_sx
    rw [ih, ← am_E_fix]
    cases stop pc <;> rfl
theorem am_E_sx (stop : Nat → Bool) (k : Nat) {d m pc : Nat} {lv : am_L} {st : List am_V} {h : am_H} {r : am_Fn → Option am_Res} (hr : ∀ g, am_F g (am_sx g stop k) d m pc lv st h = r g) : am_E d m pc lv st h = r am_E := by
  rw [← hr am_E, am_sx_eq, ← am_E_fix]
