/-! THE BEGINNING: both constructors, run by the kernel on a heap without a script; all holds at first (printed by wip/whole/genboot.py) -/
def zb_μ : Nat → Nat → Int := fun p j => if p = 1000002 then ([99, 99, 100, 99999] : List Int).getD j 0 else ([1, 9, 100, 0] : List Int).getD j 0
def zb_h0 : am_H := ([], fun _ _ => 999999, zb_μ, (0, 0, 4))
def zb_1 : Option am_Res := am_x 20000 100 84 0 (am_ent 84 [.inr (.inr 0)]) [] (am_mk zb_h0 9 16)
def zb_2 : Option am_Res := Option.bind zb_1 (fun r => am_x 20000 100 139 0 (am_ent 139 [.inr (.inr 99)]) [] (am_mk r.2 10 67))
def zb_R : List (Nat × Nat × Nat) := [(0, 0, 1), (0, 2, 40), (0, 5, 46), (0, 6, 55), (0, 7, 64), (0, 9, 73), (0, 10, 77), (0, 11, 87), (0, 12, 95), (0, 13, 96), (0, 14, 97), (0, 15, 98), (2, 1, 3), (2, 2, 4), (2, 4, 5), (2, 5, 6), (2, 6, 7), (2, 7, 8), (2, 9, 9), (2, 10, 10), (2, 11, 11), (2, 13, 12), (2, 14, 13), (2, 15, 14), (2, 16, 15), (2, 17, 16), (16, 2, 17), (16, 3, 18), (16, 4, 19), (16, 5, 20), (21, 1, 22), (21, 2, 23), (21, 4, 24), (21, 5, 25), (21, 6, 26), (21, 7, 27), (21, 9, 28), (21, 10, 29), (21, 11, 30), (21, 13, 31), (21, 14, 32), (21, 15, 33), (21, 16, 34), (21, 17, 35), (35, 2, 36), (35, 3, 37), (35, 4, 38), (35, 5, 39), (40, 0, 41), (40, 1, 44), (41, 0, 42), (44, 0, 41), (44, 1, 45), (46, 4, 47), (46, 5, 48), (46, 6, 49), (46, 7, 50), (46, 8, 51), (46, 9, 52), (46, 10, 53), (46, 11, 54), (55, 4, 56), (55, 5, 57), (55, 6, 58), (55, 7, 59), (55, 8, 60), (55, 9, 61), (55, 10, 62), (55, 11, 63), (64, 4, 65), (64, 5, 66), (64, 6, 67), (64, 7, 68), (64, 8, 69), (64, 9, 70), (64, 10, 71), (64, 11, 72), (73, 4, 74), (73, 5, 75), (73, 6, 76), (77, 1, 78), (77, 2, 79), (77, 3, 80), (77, 4, 81), (77, 5, 82), (77, 6, 83), (77, 7, 84), (77, 8, 85), (77, 9, 86), (87, 2, 88), (87, 3, 89), (87, 4, 90), (87, 5, 91), (87, 6, 92), (87, 7, 93), (87, 8, 94), (99, 1, 100), (99, 3, 101), (99, 4, 102), (99, 5, 103), (99, 6, 104), (99, 7, 105), (99, 8, 106), (99, 9, 107), (99, 10, 108), (99, 11, 109), (99, 12, 110), (99, 13, 111), (99, 14, 112), (99, 15, 113), (99, 16, 114), (99, 17, 115), (99, 18, 116), (99, 19, 117), (99, 20, 118), (99, 34, 119), (99, 35, 120), (99, 37, 121), (99, 38, 122), (99, 39, 123), (99, 40, 124), (99, 41, 125), (99, 42, 126), (99, 43, 127), (99, 44, 128), (99, 45, 129), (99, 46, 130), (99, 54, 131), (99, 55, 132), (99, 56, 133), (99, 60, 134), (99, 61, 135), (99, 62, 136), (99, 63, 137), (99, 64, 138), (99, 65, 139), (99, 66, 140), (0, 3, 2), (0, 4, 21)]
def zb_M : List (Nat × Nat × Int) := [(101, 0, 0), (101, 1, 0), (101, 2, 0), (101, 3, 0), (101, 4, 0), (101, 5, 1), (101, 6, 9), (101, 7, 100), (101, 8, 0), (101, 9, 0), (115, 0, 0), (116, 0, 0), (19, 0, 0), (20, 0, 0), (115, 1, 0), (116, 1, 0), (19, 1, 0), (20, 1, 0), (115, 2, 0), (116, 2, 0), (19, 2, 0), (20, 2, 0), (121, 0, 0), (122, 0, 0), (123, 0, 0), (124, 0, 0), (130, 0, (-2)), (47, 0, (-2)), (49, 0, 0), (130, 1, (-2)), (47, 1, (-2)), (49, 1, 0), (130, 2, (-2)), (47, 2, (-2)), (49, 2, 0), (130, 3, (-2)), (47, 3, (-2)), (49, 3, 0), (130, 4, (-2)), (47, 4, (-2)), (49, 4, 0), (130, 5, (-2)), (47, 5, (-2)), (49, 5, 0), (48, 0, 0), (48, 1, 0), (48, 2, 0), (48, 3, 0), (48, 4, 0), (48, 5, 0), (48, 6, 0), (46, 0, 0), (46, 1, 0), (46, 2, 0), (46, 3, 0), (125, 0, (-1)), (126, 0, 0), (127, 0, (-2)), (128, 0, (-2)), (129, 0, 0), (125, 1, (-1)), (126, 1, 0), (127, 1, (-2)), (128, 1, (-2)), (129, 1, 0), (125, 2, (-1)), (126, 2, 0), (127, 2, (-2)), (128, 2, (-2)), (129, 2, 0), (125, 3, (-1)), (126, 3, 0), (127, 3, (-2)), (128, 3, (-2)), (129, 3, 0), (125, 4, (-1)), (126, 4, 0), (127, 4, (-2)), (128, 4, (-2)), (129, 4, 0), (125, 5, (-1)), (126, 5, 0), (127, 5, (-2)), (128, 5, (-2)), (129, 5, 0), (125, 6, (-1)), (126, 6, 0), (127, 6, (-2)), (128, 6, (-2)), (129, 6, 0), (125, 7, (-1)), (126, 7, 0), (127, 7, (-2)), (128, 7, (-2)), (129, 7, 0), (125, 8, (-1)), (126, 8, 0), (127, 8, (-2)), (128, 8, (-2)), (129, 8, 0), (125, 9, (-1)), (126, 9, 0), (127, 9, (-2)), (128, 9, (-2)), (129, 9, 0), (125, 10, (-1)), (126, 10, 0), (127, 10, (-2)), (128, 10, (-2)), (129, 10, 0), (125, 11, (-1)), (126, 11, 0), (127, 11, (-2)), (128, 11, (-2)), (129, 11, 0), (125, 12, (-1)), (126, 12, 0), (127, 12, (-2)), (128, 12, (-2)), (129, 12, 0), (125, 13, (-1)), (126, 13, 0), (127, 13, (-2)), (128, 13, (-2)), (129, 13, 0), (125, 14, (-1)), (126, 14, 0), (127, 14, (-2)), (128, 14, (-2)), (129, 14, 0), (125, 15, (-1)), (126, 15, 0), (127, 15, (-2)), (128, 15, (-2)), (129, 15, 0), (125, 16, (-1)), (126, 16, 0), (127, 16, (-2)), (128, 16, (-2)), (129, 16, 0), (125, 17, (-1)), (126, 17, 0), (127, 17, (-2)), (128, 17, (-2)), (129, 17, 0), (125, 18, (-1)), (126, 18, 0), (127, 18, (-2)), (128, 18, (-2)), (129, 18, 0), (125, 19, (-1)), (126, 19, 0), (127, 19, (-2)), (128, 19, (-2)), (129, 19, 0), (125, 20, (-1)), (126, 20, 0), (127, 20, (-2)), (128, 20, (-2)), (129, 20, 0), (125, 21, (-1)), (126, 21, 0), (127, 21, (-2)), (128, 21, (-2)), (129, 21, 0), (125, 22, (-1)), (126, 22, 0), (127, 22, (-2)), (128, 22, (-2)), (129, 22, 0), (125, 23, (-1)), (126, 23, 0), (127, 23, (-2)), (128, 23, (-2)), (129, 23, 0), (125, 24, (-1)), (126, 24, 0), (127, 24, (-2)), (128, 24, (-2)), (129, 24, 0), (125, 25, (-1)), (126, 25, 0), (127, 25, (-2)), (128, 25, (-2)), (129, 25, 0), (125, 26, (-1)), (126, 26, 0), (127, 26, (-2)), (128, 26, (-2)), (129, 26, 0), (125, 27, (-1)), (126, 27, 0), (127, 27, (-2)), (128, 27, (-2)), (129, 27, 0), (125, 28, (-1)), (126, 28, 0), (127, 28, (-2)), (128, 28, (-2)), (129, 28, 0), (125, 29, (-1)), (126, 29, 0), (127, 29, (-2)), (128, 29, (-2)), (129, 29, 0), (125, 30, (-1)), (126, 30, 0), (127, 30, (-2)), (128, 30, (-2)), (129, 30, 0), (125, 31, (-1)), (126, 31, 0), (127, 31, (-2)), (128, 31, (-2)), (129, 31, 0), (125, 32, (-1)), (126, 32, 0), (127, 32, (-2)), (128, 32, (-2)), (129, 32, 0), (125, 33, (-1)), (126, 33, 0), (127, 33, (-2)), (128, 33, (-2)), (129, 33, 0), (125, 34, (-1)), (126, 34, 0), (127, 34, (-2)), (128, 34, (-2)), (129, 34, 0), (125, 35, (-1)), (126, 35, 0), (127, 35, (-2)), (128, 35, (-2)), (129, 35, 0), (125, 36, (-1)), (126, 36, 0), (127, 36, (-2)), (128, 36, (-2)), (129, 36, 0), (125, 37, (-1)), (126, 37, 0), (127, 37, (-2)), (128, 37, (-2)), (129, 37, 0), (125, 38, (-1)), (126, 38, 0), (127, 38, (-2)), (128, 38, (-2)), (129, 38, 0), (125, 39, (-1)), (126, 39, 0), (127, 39, (-2)), (128, 39, (-2)), (129, 39, 0), (125, 40, (-1)), (126, 40, 0), (127, 40, (-2)), (128, 40, (-2)), (129, 40, 0), (125, 41, (-1)), (126, 41, 0), (127, 41, (-2)), (128, 41, (-2)), (129, 41, 0), (2, 0, 0), (2, 3, 0), (2, 8, 0), (2, 12, 0), (15, 0, 1), (15, 1, 9), (15, 2, 100), (15, 3, 0), (16, 0, 0), (42, 0, 437714944), (42, 1, 679786720), (42, 2, 642960384), (42, 3, 773619712), (42, 4, 676737024), (42, 5, 475056128), (42, 6, 202964992), (42, 7, 672541696), (42, 8, 642945024), (42, 9, 404455424), (42, 10, 109099237), (42, 11, 211438592), (42, 12, 556055168), (42, 13, 270158848), (42, 14, 72830976), (42, 15, 516030464), (42, 16, 50383488), (42, 17, 437740544), (42, 18, 687214592), (42, 19, 136085504), (42, 20, 486146048), (42, 21, 48365568), (42, 22, 522190848), (99, 49, 0), (99, 51, (-1)), (99, 53, 0), (99, 48, 0), (99, 47, 0), (99, 58, 0), (99, 59, (-1)), (99, 2, 0), (99, 30, 0), (99, 31, (-1)), (40, 6, 0), (40, 7, (-1)), (77, 0, 0), (0, 8, 0), (87, 0, 0), (87, 1, (-1)), (0, 1, 0), (1000001, 0, 1), (1000001, 1, 9), (1000001, 2, 100), (1000001, 3, 0), (1000002, 0, 99), (1000002, 1, 99), (1000002, 2, 100), (1000002, 3, 99999)]
def zb_n0 (ρ : Nat → Nat → Nat) : Bool := (List.range 142).all (fun p => bif Nat.blt (SH.getD p (0, 0)).1 20 then (List.range (SH.getD p (0, 0)).2).all (fun k => !(Nat.beq (ρ p k) 1000000)) else true)
def zb_k (h : am_H) : Bool := decide (h.1 = SH) && (zb_R.all (fun e => Nat.beq (h.2.1 e.1 e.2.1) e.2.2) && (zb_M.all (fun e => decide (h.2.2.1 e.1 e.2.1 = e.2.2)) && zb_n0 h.2.1))
def zb_c : Bool := match zb_1, zb_2 with
  | some r1, some r2 => r1.1.isNone && (Nat.beq r1.2.1.length 99 && (r2.1.isNone && (Nat.beq r2.2.1.length 141 && (zb_k (am_mk r2.2 23 1) && (decide (r1.2.2.2.2 = (99, 3531, 4)) && decide (r2.2.2.2.2 = (141, 10197, 4)))))))
  | _, _ => false
theorem zb_c_t : zb_c = true := by decide +kernel
theorem zb_run : ∃ h1 h2 : am_H, am_x 20000 100 84 0 (am_ent 84 [.inr (.inr 0)]) [] (am_mk zb_h0 9 16) = some (none, h1) ∧ am_x 20000 100 139 0 (am_ent 139 [.inr (.inr 99)]) [] (am_mk h1 10 67) = some (none, h2) ∧ h1.1.length = 99 ∧ h2.1.length = 141 ∧ zb_k (am_mk h2 23 1) = true ∧ h1.2.2.2 = (99, 3531, 4) ∧ h2.2.2.2 = (141, 10197, 4) := by
  have h := zb_c_t
  unfold zb_c at h
  split at h
  · rename_i r1 r2 e1 e2
    simp only [Bool.and_eq_true] at h
    obtain ⟨a1, a2, a3, a4, a5, a6, a7⟩ := h
    obtain ⟨v1, h1⟩ := r1
    obtain ⟨v2, h2⟩ := r2
    have g1 : v1 = none := by
      cases v1 with
      | none => rfl
      | some v => cases a1
    have g2 : v2 = none := by
      cases v2 with
      | none => rfl
      | some v => cases a3
    subst g1; subst g2
    have e2' : zb_2 = am_x 20000 100 139 0 (am_ent 139 [.inr (.inr 99)]) [] (am_mk h1 10 67) := by
      unfold zb_2
      rw [e1]
      rfl
    exact ⟨h1, h2, e1, e2'.symm.trans e2, Nat.eq_of_beq_eq_true a2, Nat.eq_of_beq_eq_true a4, a5, of_decide_eq_true a6, of_decide_eq_true a7⟩
  · cases h
section BTR
variable {ρ : Nat → Nat → Nat} {μ : Nat → Nat → Int}
theorem zb_XM (hR : ∀ e ∈ zb_R, ρ e.1 e.2.1 = e.2.2) : XM ρ := ⟨hR (0, 0, 1) (List.mem_of_getElem? (i := 0) rfl), hR (0, 2, 40) (List.mem_of_getElem? (i := 1) rfl), hR (0, 5, 46) (List.mem_of_getElem? (i := 2) rfl), hR (0, 6, 55) (List.mem_of_getElem? (i := 3) rfl), hR (0, 7, 64) (List.mem_of_getElem? (i := 4) rfl), hR (0, 9, 73) (List.mem_of_getElem? (i := 5) rfl), hR (0, 10, 77) (List.mem_of_getElem? (i := 6) rfl), hR (0, 11, 87) (List.mem_of_getElem? (i := 7) rfl), hR (0, 12, 95) (List.mem_of_getElem? (i := 8) rfl), hR (0, 13, 96) (List.mem_of_getElem? (i := 9) rfl), hR (0, 14, 97) (List.mem_of_getElem? (i := 10) rfl), hR (0, 15, 98) (List.mem_of_getElem? (i := 11) rfl), hR (2, 1, 3) (List.mem_of_getElem? (i := 12) rfl), hR (2, 2, 4) (List.mem_of_getElem? (i := 13) rfl), hR (2, 4, 5) (List.mem_of_getElem? (i := 14) rfl), hR (2, 5, 6) (List.mem_of_getElem? (i := 15) rfl), hR (2, 6, 7) (List.mem_of_getElem? (i := 16) rfl), hR (2, 7, 8) (List.mem_of_getElem? (i := 17) rfl), hR (2, 9, 9) (List.mem_of_getElem? (i := 18) rfl), hR (2, 10, 10) (List.mem_of_getElem? (i := 19) rfl), hR (2, 11, 11) (List.mem_of_getElem? (i := 20) rfl), hR (2, 13, 12) (List.mem_of_getElem? (i := 21) rfl), hR (2, 14, 13) (List.mem_of_getElem? (i := 22) rfl), hR (2, 15, 14) (List.mem_of_getElem? (i := 23) rfl), hR (2, 16, 15) (List.mem_of_getElem? (i := 24) rfl), hR (2, 17, 16) (List.mem_of_getElem? (i := 25) rfl), hR (16, 2, 17) (List.mem_of_getElem? (i := 26) rfl), hR (16, 3, 18) (List.mem_of_getElem? (i := 27) rfl), hR (16, 4, 19) (List.mem_of_getElem? (i := 28) rfl), hR (16, 5, 20) (List.mem_of_getElem? (i := 29) rfl), hR (21, 1, 22) (List.mem_of_getElem? (i := 30) rfl), hR (21, 2, 23) (List.mem_of_getElem? (i := 31) rfl), hR (21, 4, 24) (List.mem_of_getElem? (i := 32) rfl), hR (21, 5, 25) (List.mem_of_getElem? (i := 33) rfl), hR (21, 6, 26) (List.mem_of_getElem? (i := 34) rfl), hR (21, 7, 27) (List.mem_of_getElem? (i := 35) rfl), hR (21, 9, 28) (List.mem_of_getElem? (i := 36) rfl), hR (21, 10, 29) (List.mem_of_getElem? (i := 37) rfl), hR (21, 11, 30) (List.mem_of_getElem? (i := 38) rfl), hR (21, 13, 31) (List.mem_of_getElem? (i := 39) rfl), hR (21, 14, 32) (List.mem_of_getElem? (i := 40) rfl), hR (21, 15, 33) (List.mem_of_getElem? (i := 41) rfl), hR (21, 16, 34) (List.mem_of_getElem? (i := 42) rfl), hR (21, 17, 35) (List.mem_of_getElem? (i := 43) rfl), hR (35, 2, 36) (List.mem_of_getElem? (i := 44) rfl), hR (35, 3, 37) (List.mem_of_getElem? (i := 45) rfl), hR (35, 4, 38) (List.mem_of_getElem? (i := 46) rfl), hR (35, 5, 39) (List.mem_of_getElem? (i := 47) rfl), hR (40, 0, 41) (List.mem_of_getElem? (i := 48) rfl), hR (40, 1, 44) (List.mem_of_getElem? (i := 49) rfl), hR (41, 0, 42) (List.mem_of_getElem? (i := 50) rfl), hR (44, 0, 41) (List.mem_of_getElem? (i := 51) rfl), hR (44, 1, 45) (List.mem_of_getElem? (i := 52) rfl), hR (46, 4, 47) (List.mem_of_getElem? (i := 53) rfl), hR (46, 5, 48) (List.mem_of_getElem? (i := 54) rfl), hR (46, 6, 49) (List.mem_of_getElem? (i := 55) rfl), hR (46, 7, 50) (List.mem_of_getElem? (i := 56) rfl), hR (46, 8, 51) (List.mem_of_getElem? (i := 57) rfl), hR (46, 9, 52) (List.mem_of_getElem? (i := 58) rfl), hR (46, 10, 53) (List.mem_of_getElem? (i := 59) rfl), hR (46, 11, 54) (List.mem_of_getElem? (i := 60) rfl), hR (55, 4, 56) (List.mem_of_getElem? (i := 61) rfl), hR (55, 5, 57) (List.mem_of_getElem? (i := 62) rfl), hR (55, 6, 58) (List.mem_of_getElem? (i := 63) rfl), hR (55, 7, 59) (List.mem_of_getElem? (i := 64) rfl), hR (55, 8, 60) (List.mem_of_getElem? (i := 65) rfl), hR (55, 9, 61) (List.mem_of_getElem? (i := 66) rfl), hR (55, 10, 62) (List.mem_of_getElem? (i := 67) rfl), hR (55, 11, 63) (List.mem_of_getElem? (i := 68) rfl), hR (64, 4, 65) (List.mem_of_getElem? (i := 69) rfl), hR (64, 5, 66) (List.mem_of_getElem? (i := 70) rfl), hR (64, 6, 67) (List.mem_of_getElem? (i := 71) rfl), hR (64, 7, 68) (List.mem_of_getElem? (i := 72) rfl), hR (64, 8, 69) (List.mem_of_getElem? (i := 73) rfl), hR (64, 9, 70) (List.mem_of_getElem? (i := 74) rfl), hR (64, 10, 71) (List.mem_of_getElem? (i := 75) rfl), hR (64, 11, 72) (List.mem_of_getElem? (i := 76) rfl), hR (73, 4, 74) (List.mem_of_getElem? (i := 77) rfl), hR (73, 5, 75) (List.mem_of_getElem? (i := 78) rfl), hR (73, 6, 76) (List.mem_of_getElem? (i := 79) rfl), hR (77, 1, 78) (List.mem_of_getElem? (i := 80) rfl), hR (77, 2, 79) (List.mem_of_getElem? (i := 81) rfl), hR (77, 3, 80) (List.mem_of_getElem? (i := 82) rfl), hR (77, 4, 81) (List.mem_of_getElem? (i := 83) rfl), hR (77, 5, 82) (List.mem_of_getElem? (i := 84) rfl), hR (77, 6, 83) (List.mem_of_getElem? (i := 85) rfl), hR (77, 7, 84) (List.mem_of_getElem? (i := 86) rfl), hR (77, 8, 85) (List.mem_of_getElem? (i := 87) rfl), hR (77, 9, 86) (List.mem_of_getElem? (i := 88) rfl), hR (87, 2, 88) (List.mem_of_getElem? (i := 89) rfl), hR (87, 3, 89) (List.mem_of_getElem? (i := 90) rfl), hR (87, 4, 90) (List.mem_of_getElem? (i := 91) rfl), hR (87, 5, 91) (List.mem_of_getElem? (i := 92) rfl), hR (87, 6, 92) (List.mem_of_getElem? (i := 93) rfl), hR (87, 7, 93) (List.mem_of_getElem? (i := 94) rfl), hR (87, 8, 94) (List.mem_of_getElem? (i := 95) rfl)⟩
theorem zb_RM (hR : ∀ e ∈ zb_R, ρ e.1 e.2.1 = e.2.2) : RM ρ := ⟨hR (99, 1, 100) (List.mem_of_getElem? (i := 96) rfl), hR (99, 3, 101) (List.mem_of_getElem? (i := 97) rfl), hR (99, 4, 102) (List.mem_of_getElem? (i := 98) rfl), hR (99, 5, 103) (List.mem_of_getElem? (i := 99) rfl), hR (99, 6, 104) (List.mem_of_getElem? (i := 100) rfl), hR (99, 7, 105) (List.mem_of_getElem? (i := 101) rfl), hR (99, 8, 106) (List.mem_of_getElem? (i := 102) rfl), hR (99, 9, 107) (List.mem_of_getElem? (i := 103) rfl), hR (99, 10, 108) (List.mem_of_getElem? (i := 104) rfl), hR (99, 11, 109) (List.mem_of_getElem? (i := 105) rfl), hR (99, 12, 110) (List.mem_of_getElem? (i := 106) rfl), hR (99, 13, 111) (List.mem_of_getElem? (i := 107) rfl), hR (99, 14, 112) (List.mem_of_getElem? (i := 108) rfl), hR (99, 15, 113) (List.mem_of_getElem? (i := 109) rfl), hR (99, 16, 114) (List.mem_of_getElem? (i := 110) rfl), hR (99, 17, 115) (List.mem_of_getElem? (i := 111) rfl), hR (99, 18, 116) (List.mem_of_getElem? (i := 112) rfl), hR (99, 19, 117) (List.mem_of_getElem? (i := 113) rfl), hR (99, 20, 118) (List.mem_of_getElem? (i := 114) rfl), hR (99, 34, 119) (List.mem_of_getElem? (i := 115) rfl), hR (99, 35, 120) (List.mem_of_getElem? (i := 116) rfl), hR (99, 37, 121) (List.mem_of_getElem? (i := 117) rfl), hR (99, 38, 122) (List.mem_of_getElem? (i := 118) rfl), hR (99, 39, 123) (List.mem_of_getElem? (i := 119) rfl), hR (99, 40, 124) (List.mem_of_getElem? (i := 120) rfl), hR (99, 41, 125) (List.mem_of_getElem? (i := 121) rfl), hR (99, 42, 126) (List.mem_of_getElem? (i := 122) rfl), hR (99, 43, 127) (List.mem_of_getElem? (i := 123) rfl), hR (99, 44, 128) (List.mem_of_getElem? (i := 124) rfl), hR (99, 45, 129) (List.mem_of_getElem? (i := 125) rfl), hR (99, 46, 130) (List.mem_of_getElem? (i := 126) rfl), hR (99, 54, 131) (List.mem_of_getElem? (i := 127) rfl), hR (99, 55, 132) (List.mem_of_getElem? (i := 128) rfl), hR (99, 56, 133) (List.mem_of_getElem? (i := 129) rfl), hR (99, 60, 134) (List.mem_of_getElem? (i := 130) rfl), hR (99, 61, 135) (List.mem_of_getElem? (i := 131) rfl), hR (99, 62, 136) (List.mem_of_getElem? (i := 132) rfl), hR (99, 63, 137) (List.mem_of_getElem? (i := 133) rfl), hR (99, 64, 138) (List.mem_of_getElem? (i := 134) rfl), hR (99, 65, 139) (List.mem_of_getElem? (i := 135) rfl), hR (99, 66, 140) (List.mem_of_getElem? (i := 136) rfl)⟩
theorem zb_SI (hM : ∀ e ∈ zb_M, μ e.1 e.2.1 = e.2.2) : SI (SR μ) := by
  have e0 : SR μ 0 0 = 0 := hM (101, 0, 0) (List.mem_of_getElem? (i := 0) rfl)
  have e1 : SR μ 0 1 = 0 := hM (101, 1, 0) (List.mem_of_getElem? (i := 1) rfl)
  have e2 : SR μ 0 2 = 0 := hM (101, 2, 0) (List.mem_of_getElem? (i := 2) rfl)
  have e3 : SR μ 0 3 = 0 := hM (101, 3, 0) (List.mem_of_getElem? (i := 3) rfl)
  have e4 : SR μ 0 4 = 0 := hM (101, 4, 0) (List.mem_of_getElem? (i := 4) rfl)
  have e5 : SR μ 0 5 = 1 := hM (101, 5, 1) (List.mem_of_getElem? (i := 5) rfl)
  have e6 : SR μ 0 6 = 9 := hM (101, 6, 9) (List.mem_of_getElem? (i := 6) rfl)
  have e7 : SR μ 0 7 = 100 := hM (101, 7, 100) (List.mem_of_getElem? (i := 7) rfl)
  have e8 : SR μ 0 8 = 0 := hM (101, 8, 0) (List.mem_of_getElem? (i := 8) rfl)
  have e9 : SR μ 0 9 = 0 := hM (101, 9, 0) (List.mem_of_getElem? (i := 9) rfl)
  have h14 : ∀ j : Nat, j < 3 → μ 115 j = 0 := fun j hj => hM _ ((by decide +kernel : ∀ j : Nat, j < 3 → (115, j, (0 : Int)) ∈ zb_M) j hj)
  have h15 : ∀ j : Nat, j < 3 → μ 116 j = 0 := fun j hj => hM _ ((by decide +kernel : ∀ j : Nat, j < 3 → (116, j, (0 : Int)) ∈ zb_M) j hj)
  unfold SI
  refine ⟨by omega, by omega, by omega, by omega, by omega, by omega, by omega, by omega, by omega, by omega, fun k k0 k1 => by omega, fun k k0 k1 => by omega, fun k k0 k1 => by omega, fun k k0 k1 => by omega, fun k k0 k1 => by omega, fun r r0 r1 => ?_⟩
  have f14 : SR μ 14 r = 0 := h14 r.toNat (by omega)
  have f15 : SR μ 15 r = 0 := h15 r.toNat (by omega)
  exact ⟨by omega, by omega, by omega, fun z => by omega⟩
theorem zb_W0 (hM : ∀ e ∈ zb_M, μ e.1 e.2.1 = e.2.2) : WR μ 0 0 0 0 = 0 ∧ WR μ 0 1 0 0 = 0 ∧ WR μ 0 2 0 0 = 0 ∧ WR μ 0 3 0 0 = 0 := ⟨hM (121, 0, 0) (List.mem_of_getElem? (i := 22) rfl), hM (122, 0, 0) (List.mem_of_getElem? (i := 23) rfl), hM (123, 0, 0) (List.mem_of_getElem? (i := 24) rfl), hM (124, 0, 0) (List.mem_of_getElem? (i := 25) rfl)⟩
theorem zb_W4 (hM : ∀ e ∈ zb_M, μ e.1 e.2.1 = e.2.2) {t : Int} (t0 : 0 ≤ t) (t1 : t < 6) : WR μ 0 4 0 t = -2 := by
  have h : ∀ j : Nat, j < 6 → μ 130 j = -2 := fun j hj => hM _ ((by decide +kernel : ∀ j : Nat, j < 6 → (130, j, (-2 : Int)) ∈ zb_M) j hj)
  unfold WR
  rw [if_pos (by omega), if_neg (by omega), if_pos rfl]
  exact h _ (by unfold sJ; omega)
theorem zb_W5 (hM : ∀ e ∈ zb_M, μ e.1 e.2.1 = e.2.2) {p t : Int} (p0 : 0 ≤ p) (p1 : p < 7) (t0 : 0 ≤ t) (t1 : t < 6) : WR μ 0 5 p t = -1 := by
  have h : ∀ j : Nat, j < 42 → μ 125 j = -1 := fun j hj => hM _ ((by decide +kernel : ∀ j : Nat, j < 42 → (125, j, (-1 : Int)) ∈ zb_M) j hj)
  unfold WR
  rw [if_pos (by omega), if_neg (by omega), if_neg (by omega)]
  exact h _ (by unfold sI; omega)
theorem zb_W6 (hM : ∀ e ∈ zb_M, μ e.1 e.2.1 = e.2.2) {p t : Int} (p0 : 0 ≤ p) (p1 : p < 7) (t0 : 0 ≤ t) (t1 : t < 6) : WR μ 0 6 p t = 0 := by
  have h : ∀ j : Nat, j < 42 → μ 126 j = 0 := fun j hj => hM _ ((by decide +kernel : ∀ j : Nat, j < 42 → (126, j, (0 : Int)) ∈ zb_M) j hj)
  unfold WR
  rw [if_pos (by omega), if_neg (by omega), if_neg (by omega)]
  exact h _ (by unfold sI; omega)
theorem zb_W7 (hM : ∀ e ∈ zb_M, μ e.1 e.2.1 = e.2.2) {p t : Int} (p0 : 0 ≤ p) (p1 : p < 7) (t0 : 0 ≤ t) (t1 : t < 6) : WR μ 0 7 p t = -2 := by
  have h : ∀ j : Nat, j < 42 → μ 127 j = -2 := fun j hj => hM _ ((by decide +kernel : ∀ j : Nat, j < 42 → (127, j, (-2 : Int)) ∈ zb_M) j hj)
  unfold WR
  rw [if_pos (by omega), if_neg (by omega), if_neg (by omega)]
  exact h _ (by unfold sI; omega)
theorem zb_W8 (hM : ∀ e ∈ zb_M, μ e.1 e.2.1 = e.2.2) {p t : Int} (p0 : 0 ≤ p) (p1 : p < 7) (t0 : 0 ≤ t) (t1 : t < 6) : WR μ 0 8 p t = -2 := by
  have h : ∀ j : Nat, j < 42 → μ 128 j = -2 := fun j hj => hM _ ((by decide +kernel : ∀ j : Nat, j < 42 → (128, j, (-2 : Int)) ∈ zb_M) j hj)
  unfold WR
  rw [if_pos (by omega), if_neg (by omega), if_neg (by omega)]
  exact h _ (by unfold sI; omega)
theorem zb_W9 (hM : ∀ e ∈ zb_M, μ e.1 e.2.1 = e.2.2) {p t : Int} (p0 : 0 ≤ p) (p1 : p < 7) (t0 : 0 ≤ t) (t1 : t < 6) : WR μ 0 9 p t = 0 := by
  have h : ∀ j : Nat, j < 42 → μ 129 j = 0 := fun j hj => hM _ ((by decide +kernel : ∀ j : Nat, j < 42 → (129, j, (0 : Int)) ∈ zb_M) j hj)
  unfold WR
  rw [if_pos (by omega), if_neg (by omega), if_neg (by omega)]
  exact h _ (by unfold sI; omega)
theorem zb_WI (hM : ∀ e ∈ zb_M, μ e.1 e.2.1 = e.2.2) {D : Int} (hD : 0 ≤ D) : WI (SR μ) D (WR μ 0) := by
  obtain ⟨w0, w1, w2, w3⟩ := zb_W0 hM
  unfold WI
  refine ⟨by omega, by omega, by omega, by omega, fun t t0 t1 => ?_, fun p t p0 p1 t0 t1 => ?_⟩
  · have := zb_W4 hM t0 t1
    exact ⟨by omega, by omega, fun _ => this⟩
  · have a5 := zb_W5 hM p0 p1 t0 t1
    have a6 := zb_W6 hM p0 p1 t0 t1
    have a7 := zb_W7 hM p0 p1 t0 t1
    have a8 := zb_W8 hM p0 p1 t0 t1
    have a9 := zb_W9 hM p0 p1 t0 t1
    exact ⟨by omega, by omega, by omega, by omega, by omega, fun _ => ⟨a5, a8⟩⟩
theorem zb_XW (hM : ∀ e ∈ zb_M, μ e.1 e.2.1 = e.2.2) : XW μ 46 (WR μ 0) := by
  obtain ⟨w0, w1, w2, w3⟩ := zb_W0 hM
  have h1 : ∀ j : Nat, j < 6 → μ 47 j = -2 := fun j hj => hM _ ((by decide +kernel : ∀ j : Nat, j < 6 → (47, j, (-2 : Int)) ∈ zb_M) j hj)
  have h3 : ∀ j : Nat, j < 6 → μ 49 j = 0 := fun j hj => hM _ ((by decide +kernel : ∀ j : Nat, j < 6 → (49, j, (0 : Int)) ∈ zb_M) j hj)
  have h2 : ∀ j : Nat, j < 7 → μ 48 j = 0 := fun j hj => hM _ ((by decide +kernel : ∀ j : Nat, j < 7 → (48, j, (0 : Int)) ∈ zb_M) j hj)
  refine ⟨⟨(hM (46, 0, 0) (List.mem_of_getElem? (i := 51) rfl)).trans w0.symm, (hM (46, 1, 0) (List.mem_of_getElem? (i := 52) rfl)).trans w1.symm, (hM (46, 2, 0) (List.mem_of_getElem? (i := 53) rfl)).trans w2.symm, (hM (46, 3, 0) (List.mem_of_getElem? (i := 54) rfl)).trans w3.symm⟩, fun t t0 t1 => ?_, fun p p0 p1 => ?_, fun p t p0 p1 t0 t1 => ?_⟩
  · have g1 := h1 t.toNat (by omega)
    have g3 := h3 t.toNat (by omega)
    exact ⟨g1.trans (zb_W4 hM t0 t1).symm, by show 0 ≤ μ 49 t.toNat; omega, by show μ 49 t.toNat < 128; omega⟩
  · have g2 := h2 p.toNat (by omega)
    exact ⟨by show 0 ≤ μ 48 p.toNat; omega, by show μ 48 p.toNat < 64; omega⟩
  · have g2 : μ (46 + 2) p.toNat = 0 := h2 p.toNat (by omega)
    have g3 : μ (46 + 3) t.toNat = 0 := h3 t.toNat (by omega)
    have a5 := zb_W5 hM p0 p1 t0 t1
    have a8 := zb_W8 hM p0 p1 t0 t1
    rw [g2, g3, a5, a8]
    exact ⟨by simp, by simp, fun z => absurd rfl z, fun z => absurd rfl z⟩
theorem zb_XS (hM : ∀ e ∈ zb_M, μ e.1 e.2.1 = e.2.2) : XS μ 2 (SR μ) := by
  have e0 : SR μ 0 0 = 0 := hM (101, 0, 0) (List.mem_of_getElem? (i := 0) rfl)
  have e1 : SR μ 0 1 = 0 := hM (101, 1, 0) (List.mem_of_getElem? (i := 1) rfl)
  have e2 : SR μ 0 2 = 0 := hM (101, 2, 0) (List.mem_of_getElem? (i := 2) rfl)
  have e3 : SR μ 0 3 = 0 := hM (101, 3, 0) (List.mem_of_getElem? (i := 3) rfl)
  have e4 : SR μ 0 4 = 0 := hM (101, 4, 0) (List.mem_of_getElem? (i := 4) rfl)
  have e5 : SR μ 0 5 = 1 := hM (101, 5, 1) (List.mem_of_getElem? (i := 5) rfl)
  have e6 : SR μ 0 6 = 9 := hM (101, 6, 9) (List.mem_of_getElem? (i := 6) rfl)
  have e7 : SR μ 0 7 = 100 := hM (101, 7, 100) (List.mem_of_getElem? (i := 7) rfl)
  have e8 : SR μ 0 8 = 0 := hM (101, 8, 0) (List.mem_of_getElem? (i := 8) rfl)
  have e9 : SR μ 0 9 = 0 := hM (101, 9, 0) (List.mem_of_getElem? (i := 9) rfl)
  have h14 : ∀ j : Nat, j < 3 → μ 115 j = 0 := fun j hj => hM _ ((by decide +kernel : ∀ j : Nat, j < 3 → (115, j, (0 : Int)) ∈ zb_M) j hj)
  have h15 : ∀ j : Nat, j < 3 → μ 116 j = 0 := fun j hj => hM _ ((by decide +kernel : ∀ j : Nat, j < 3 → (116, j, (0 : Int)) ∈ zb_M) j hj)
  have h19 : ∀ j : Nat, j < 3 → μ 19 j = 0 := fun j hj => hM _ ((by decide +kernel : ∀ j : Nat, j < 3 → (19, j, (0 : Int)) ∈ zb_M) j hj)
  have h20 : ∀ j : Nat, j < 3 → μ 20 j = 0 := fun j hj => hM _ ((by decide +kernel : ∀ j : Nat, j < 3 → (20, j, (0 : Int)) ∈ zb_M) j hj)
  refine ⟨⟨(hM (2, 0, 0) (List.mem_of_getElem? (i := 265) rfl)).trans e0.symm, (hM (2, 3, 0) (List.mem_of_getElem? (i := 266) rfl)).trans e1.symm, (hM (2, 8, 0) (List.mem_of_getElem? (i := 267) rfl)).trans e3.symm, (hM (2, 12, 0) (List.mem_of_getElem? (i := 268) rfl)).trans e4.symm⟩, ⟨(hM (15, 0, 1) (List.mem_of_getElem? (i := 269) rfl)).trans e5.symm, (hM (15, 1, 9) (List.mem_of_getElem? (i := 270) rfl)).trans e6.symm, (hM (15, 2, 100) (List.mem_of_getElem? (i := 271) rfl)).trans e7.symm, (hM (15, 3, 0) (List.mem_of_getElem? (i := 272) rfl)).trans e8.symm, (hM (16, 0, 0) (List.mem_of_getElem? (i := 273) rfl)).trans e9.symm⟩, fun k k0 k1 => by omega, fun k k0 k1 => by omega, fun k k0 k1 => by omega, fun k k0 k1 => by omega, fun r r0 r1 => ?_, fun r k r0 r1 k0 k1 => ?_⟩
  · exact ⟨(h19 r.toNat (by omega)).trans (h14 r.toNat (by omega)).symm, (h20 r.toNat (by omega)).trans (h15 r.toNat (by omega)).symm⟩
  · have f14 : SR μ 14 r = 0 := h14 r.toNat (by omega)
    have f15 : SR μ 15 r = 0 := h15 r.toNat (by omega)
    omega
/-- all holds at first -/
theorem zb_RA (hR : ∀ e ∈ zb_R, ρ e.1 e.2.1 = e.2.2) (hM : ∀ e ∈ zb_M, μ e.1 e.2.1 = e.2.2) : RA ρ μ := by
  obtain ⟨w0, w1, w2, w3⟩ := zb_W0 hM
  have k48 : μ 99 48 = 0 := hM (99, 48, 0) (List.mem_of_getElem? (i := 300) rfl)
  have k47 : μ 99 47 = 0 := hM (99, 47, 0) (List.mem_of_getElem? (i := 301) rfl)
  have k58 : μ 99 58 = 0 := hM (99, 58, 0) (List.mem_of_getElem? (i := 302) rfl)
  have k59 : μ 99 59 = -1 := hM (99, 59, (-1)) (List.mem_of_getElem? (i := 303) rfl)
  have k2 : μ 99 2 = 0 := hM (99, 2, 0) (List.mem_of_getElem? (i := 304) rfl)
  have k870 : μ 87 0 = 0 := hM (87, 0, 0) (List.mem_of_getElem? (i := 311) rfl)
  have k871 : μ 87 1 = -1 := hM (87, 1, (-1)) (List.mem_of_getElem? (i := 312) rfl)
  have k01 : μ 0 1 = 0 := hM (0, 1, 0) (List.mem_of_getElem? (i := 313) rfl)
  refine ⟨2, 46, 64, SR μ, WR μ 0, ⟨zb_XM hR, zb_RM hR, Or.inl rfl, hR (0, 3, 2) (List.mem_of_getElem? (i := 137) rfl), rfl, rfl, rfl, zb_SI hM, zb_XS hM, rfl, zb_WI hM (by omega), zb_XW hM, by omega, hM (99, 49, 0) (List.mem_of_getElem? (i := 297) rfl), hM (99, 51, (-1)) (List.mem_of_getElem? (i := 298) rfl), hM (99, 53, 0) (List.mem_of_getElem? (i := 299) rfl)⟩, ⟨(hM (77, 0, 0) (List.mem_of_getElem? (i := 309) rfl)).trans k48.symm, by omega, by omega, fun i hi => by omega⟩, ⟨(hM (0, 8, 0) (List.mem_of_getElem? (i := 310) rfl)).trans k47.symm, Or.inl k47⟩, ⟨by omega, by omega, by omega, by omega, fun i hi => by omega⟩, ⟨by omega, by omega, fun i hi => by omega⟩, ⟨(hM (40, 6, 0) (List.mem_of_getElem? (i := 307) rfl)).trans (hM (99, 30, 0) (List.mem_of_getElem? (i := 305) rfl)).symm, (hM (40, 7, (-1)) (List.mem_of_getElem? (i := 308) rfl)).trans (hM (99, 31, (-1)) (List.mem_of_getElem? (i := 306) rfl)).symm⟩, ⟨hR (0, 4, 21) (List.mem_of_getElem? (i := 138) rfl), ?_, ⟨hM (1000001, 0, 1) (List.mem_of_getElem? (i := 314) rfl), hM (1000001, 1, 9) (List.mem_of_getElem? (i := 315) rfl), hM (1000001, 2, 100) (List.mem_of_getElem? (i := 316) rfl), hM (1000001, 3, 0) (List.mem_of_getElem? (i := 317) rfl)⟩, ⟨hM (1000002, 0, 99) (List.mem_of_getElem? (i := 318) rfl), hM (1000002, 1, 99) (List.mem_of_getElem? (i := 319) rfl), hM (1000002, 2, 100) (List.mem_of_getElem? (i := 320) rfl), hM (1000002, 3, 99999) (List.mem_of_getElem? (i := 321) rfl)⟩⟩, zb_WI hM (by omega)⟩
  intro i hi
  exact hM _ ((by decide +kernel : ∀ i : Nat, i < 23 → (42, i, lang.getD i 0) ∈ zb_M) i hi)
end BTR
