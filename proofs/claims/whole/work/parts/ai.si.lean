/-! TEXT: a line keeps the text's bounds -/
theorem wfK_c {S S' : MS} : ∀ (m : Nat) (k : Int) (n : Nat), (∀ j, k ≤ j → j < k + m → S' 16 j = S 16 j ∧ S' 17 j = S 17 j) → wfK S m k n → wfK S' m k n := by
  intro m
  induction m with
  | zero => intro k n _ h; exact h
  | succ m ih =>
    intro k n hj h
    have e := hj k (by omega) (by omega)
    have hs := fun n => ih (k + 1) n (fun j h0 h1 => hj j (by omega) (by omega))
    rcases h with ⟨h1, h2, h3, h4⟩ | ⟨h1, h2, h3, h4⟩ | ⟨h1, h2⟩
    · exact Or.inl ⟨by rw [e.1]; exact h1, by rw [e.2]; exact h2, h3, hs _ h4⟩
    · exact Or.inr (Or.inl ⟨by rw [e.1]; exact h1, by rw [e.2]; exact h2, h3, hs _ h4⟩)
    · exact Or.inr (Or.inr ⟨by rw [e.1, e.2]; exact h1, hs _ h2⟩)
theorem si_man {Z : MS} (h : SI Z) {v w : Int} (hc : Z 0 0 < 7) (hw : 0 ≤ w ∧ w ≤ 9) : SI (zp (zp (zp Z 1 (Z 0 0) v) 2 (Z 0 0) w) 0 0 (Z 0 0 + 1)) := by
  obtain ⟨n0, n1, n2, n3, n4, n5, n6, n7, n8, n9, m1, m2, m3, m4, m5, m6⟩ := h
  refine ⟨?_, ?_, ?_, ?_, ?_, ?_, ?_, ?_, ?_, ?_, fun k h0 h1 => ?_, fun k h0 h1 => ?_, fun k h0 h1 => ?_, fun k h0 h1 => ?_, fun k h0 h1 => ?_, fun r h0 h1 => ?_⟩
  · rw [zp_eq]; omega
  · simp (disch := omega) only [zp_ne]; exact n1
  · simp (disch := omega) only [zp_ne]; exact n2
  · simp (disch := omega) only [zp_ne]; exact n3
  · simp (disch := omega) only [zp_ne]; exact n4
  · simp (disch := omega) only [zp_ne]; exact n5
  · simp (disch := omega) only [zp_ne]; exact n6
  · simp (disch := omega) only [zp_ne]; exact n7
  · simp (disch := omega) only [zp_ne]; exact n8
  · simp (disch := omega) only [zp_ne]; exact n9
  · rw [zp_eq] at h1
    by_cases q : k = Z 0 0
    · rw [q]; simp (disch := omega) only [zp_ne, zp_eq]; exact hw
    · simp (disch := omega) only [zp_ne]; exact m1 k h0 (by omega)
  · simp (disch := omega) only [zp_ne] at h1 ⊢; exact m2 k h0 h1
  · rw [zp_eq]; simp (disch := omega) only [zp_ne] at h1 ⊢; have := m3 k h0 h1; omega
  · rw [zp_eq]; simp (disch := omega) only [zp_ne] at h1 ⊢; have := m4 k h0 h1; omega
  · rw [zp_eq]; simp (disch := omega) only [zp_ne] at h1 ⊢; have := m5 k h0 h1; omega
  · simp (disch := omega) only [zp_ne]
    obtain ⟨g1, g2, g3, g4⟩ := m6 r h0 h1
    exact ⟨g1, g2, g3, fun q => wfK_c _ _ _ (fun j _ _ => by simp (disch := omega) only [zp_ne, and_self]) (g4 q)⟩
theorem si_thing {Z : MS} (h : SI Z) {v w x : Int} (hc : Z 0 1 < 6) (hw : 0 ≤ w ∧ w ≤ 99) (hx : 0 ≤ x ∧ x ≤ 99) : SI (zp (zp (zp (zp Z 3 (Z 0 1) v) 4 (Z 0 1) w) 5 (Z 0 1) x) 0 1 (Z 0 1 + 1)) := by
  obtain ⟨n0, n1, n2, n3, n4, n5, n6, n7, n8, n9, m1, m2, m3, m4, m5, m6⟩ := h
  refine ⟨?_, ?_, ?_, ?_, ?_, ?_, ?_, ?_, ?_, ?_, fun k h0 h1 => ?_, fun k h0 h1 => ?_, fun k h0 h1 => ?_, fun k h0 h1 => ?_, fun k h0 h1 => ?_, fun r h0 h1 => ?_⟩
  · simp (disch := omega) only [zp_ne]; exact n0
  · rw [zp_eq]; omega
  · simp (disch := omega) only [zp_ne]; exact n2
  · simp (disch := omega) only [zp_ne]; exact n3
  · simp (disch := omega) only [zp_ne]; exact n4
  · simp (disch := omega) only [zp_ne]; exact n5
  · simp (disch := omega) only [zp_ne]; exact n6
  · simp (disch := omega) only [zp_ne]; exact n7
  · simp (disch := omega) only [zp_ne]; exact n8
  · simp (disch := omega) only [zp_ne]; exact n9
  · simp (disch := omega) only [zp_ne] at h1 ⊢; exact m1 k h0 h1
  · rw [zp_eq] at h1
    by_cases q : k = Z 0 1
    · rw [q]; simp (disch := omega) only [zp_ne, zp_eq]; exact ⟨hw, hx⟩
    · simp (disch := omega) only [zp_ne]; exact m2 k h0 (by omega)
  · rw [zp_eq]; simp (disch := omega) only [zp_ne] at h1 ⊢; have := m3 k h0 h1; omega
  · simp (disch := omega) only [zp_ne] at h1 ⊢; exact m4 k h0 h1
  · rw [zp_eq]; simp (disch := omega) only [zp_ne] at h1 ⊢; have := m5 k h0 h1; omega
  · simp (disch := omega) only [zp_ne]
    obtain ⟨g1, g2, g3, g4⟩ := m6 r h0 h1
    exact ⟨g1, g2, g3, fun q => wfK_c _ _ _ (fun j _ _ => by simp (disch := omega) only [zp_ne, and_self]) (g4 q)⟩
theorem si_sees {Z : MS} (h : SI Z) {v w : Int} (hc : Z 0 2 < 10) (hv : 0 ≤ v ∧ v < Z 0 0) (hw : 0 ≤ w ∧ w < Z 0 1) : SI (zp (zp (zp Z 6 (Z 0 2) v) 7 (Z 0 2) w) 0 2 (Z 0 2 + 1)) := by
  obtain ⟨n0, n1, n2, n3, n4, n5, n6, n7, n8, n9, m1, m2, m3, m4, m5, m6⟩ := h
  refine ⟨?_, ?_, ?_, ?_, ?_, ?_, ?_, ?_, ?_, ?_, fun k h0 h1 => ?_, fun k h0 h1 => ?_, fun k h0 h1 => ?_, fun k h0 h1 => ?_, fun k h0 h1 => ?_, fun r h0 h1 => ?_⟩
  · simp (disch := omega) only [zp_ne]; exact n0
  · simp (disch := omega) only [zp_ne]; exact n1
  · rw [zp_eq]; omega
  · simp (disch := omega) only [zp_ne]; exact n3
  · simp (disch := omega) only [zp_ne]; exact n4
  · simp (disch := omega) only [zp_ne]; exact n5
  · simp (disch := omega) only [zp_ne]; exact n6
  · simp (disch := omega) only [zp_ne]; exact n7
  · simp (disch := omega) only [zp_ne]; exact n8
  · simp (disch := omega) only [zp_ne]; exact n9
  · simp (disch := omega) only [zp_ne] at h1 ⊢; exact m1 k h0 h1
  · simp (disch := omega) only [zp_ne] at h1 ⊢; exact m2 k h0 h1
  · rw [zp_eq] at h1
    by_cases q : k = Z 0 2
    · rw [q]; simp (disch := omega) only [zp_ne, zp_eq]; exact ⟨hv, hw⟩
    · simp (disch := omega) only [zp_ne]; exact m3 k h0 (by omega)
  · simp (disch := omega) only [zp_ne] at h1 ⊢; exact m4 k h0 h1
  · simp (disch := omega) only [zp_ne] at h1 ⊢; exact m5 k h0 h1
  · simp (disch := omega) only [zp_ne]
    obtain ⟨g1, g2, g3, g4⟩ := m6 r h0 h1
    exact ⟨g1, g2, g3, fun q => wfK_c _ _ _ (fun j _ _ => by simp (disch := omega) only [zp_ne, and_self]) (g4 q)⟩
theorem si_way {Z : MS} (h : SI Z) {v w x : Int} (hc : Z 0 3 < 12) (hv : 0 ≤ v ∧ v < Z 0 0) (hw : 0 ≤ w ∧ w < Z 0 0) (hne : v ≠ w) (hx : 1 ≤ x ∧ x ≤ 9) : SI (zp (zp (zp (zp Z 8 (Z 0 3) v) 9 (Z 0 3) w) 10 (Z 0 3) x) 0 3 (Z 0 3 + 1)) := by
  obtain ⟨n0, n1, n2, n3, n4, n5, n6, n7, n8, n9, m1, m2, m3, m4, m5, m6⟩ := h
  refine ⟨?_, ?_, ?_, ?_, ?_, ?_, ?_, ?_, ?_, ?_, fun k h0 h1 => ?_, fun k h0 h1 => ?_, fun k h0 h1 => ?_, fun k h0 h1 => ?_, fun k h0 h1 => ?_, fun r h0 h1 => ?_⟩
  · simp (disch := omega) only [zp_ne]; exact n0
  · simp (disch := omega) only [zp_ne]; exact n1
  · simp (disch := omega) only [zp_ne]; exact n2
  · rw [zp_eq]; omega
  · simp (disch := omega) only [zp_ne]; exact n4
  · simp (disch := omega) only [zp_ne]; exact n5
  · simp (disch := omega) only [zp_ne]; exact n6
  · simp (disch := omega) only [zp_ne]; exact n7
  · simp (disch := omega) only [zp_ne]; exact n8
  · simp (disch := omega) only [zp_ne]; exact n9
  · simp (disch := omega) only [zp_ne] at h1 ⊢; exact m1 k h0 h1
  · simp (disch := omega) only [zp_ne] at h1 ⊢; exact m2 k h0 h1
  · simp (disch := omega) only [zp_ne] at h1 ⊢; exact m3 k h0 h1
  · rw [zp_eq] at h1
    by_cases q : k = Z 0 3
    · rw [q]; simp (disch := omega) only [zp_ne, zp_eq]; exact ⟨hv, hw, hne, hx⟩
    · simp (disch := omega) only [zp_ne]; exact m4 k h0 (by omega)
  · simp (disch := omega) only [zp_ne] at h1 ⊢; exact m5 k h0 h1
  · simp (disch := omega) only [zp_ne]
    obtain ⟨g1, g2, g3, g4⟩ := m6 r h0 h1
    exact ⟨g1, g2, g3, fun q => wfK_c _ _ _ (fun j _ _ => by simp (disch := omega) only [zp_ne, and_self]) (g4 q)⟩
theorem si_tell {Z : MS} (h : SI Z) {v w x : Int} (hc : Z 0 4 < 12) (hv : 0 ≤ v ∧ v < Z 0 0) (hw : 0 ≤ w ∧ w < Z 0 1) (hx : 0 ≤ x ∧ x ≤ 99) : SI (zp (zp (zp (zp Z 11 (Z 0 4) v) 12 (Z 0 4) w) 13 (Z 0 4) x) 0 4 (Z 0 4 + 1)) := by
  obtain ⟨n0, n1, n2, n3, n4, n5, n6, n7, n8, n9, m1, m2, m3, m4, m5, m6⟩ := h
  refine ⟨?_, ?_, ?_, ?_, ?_, ?_, ?_, ?_, ?_, ?_, fun k h0 h1 => ?_, fun k h0 h1 => ?_, fun k h0 h1 => ?_, fun k h0 h1 => ?_, fun k h0 h1 => ?_, fun r h0 h1 => ?_⟩
  · simp (disch := omega) only [zp_ne]; exact n0
  · simp (disch := omega) only [zp_ne]; exact n1
  · simp (disch := omega) only [zp_ne]; exact n2
  · simp (disch := omega) only [zp_ne]; exact n3
  · rw [zp_eq]; omega
  · simp (disch := omega) only [zp_ne]; exact n5
  · simp (disch := omega) only [zp_ne]; exact n6
  · simp (disch := omega) only [zp_ne]; exact n7
  · simp (disch := omega) only [zp_ne]; exact n8
  · simp (disch := omega) only [zp_ne]; exact n9
  · simp (disch := omega) only [zp_ne] at h1 ⊢; exact m1 k h0 h1
  · simp (disch := omega) only [zp_ne] at h1 ⊢; exact m2 k h0 h1
  · simp (disch := omega) only [zp_ne] at h1 ⊢; exact m3 k h0 h1
  · simp (disch := omega) only [zp_ne] at h1 ⊢; exact m4 k h0 h1
  · rw [zp_eq] at h1
    by_cases q : k = Z 0 4
    · rw [q]; simp (disch := omega) only [zp_ne, zp_eq]; exact ⟨hv, hw, hx⟩
    · simp (disch := omega) only [zp_ne]; exact m5 k h0 (by omega)
  · simp (disch := omega) only [zp_ne]
    obtain ⟨g1, g2, g3, g4⟩ := m6 r h0 h1
    exact ⟨g1, g2, g3, fun q => wfK_c _ _ _ (fun j _ _ => by simp (disch := omega) only [zp_ne, and_self]) (g4 q)⟩
theorem si_set {Z : MS} (h : SI Z) {s : Nat} {v : Int} (hs : s < 4) (hv : 0 ≤ v ∧ v ≤ mxS s) : SI (zp Z 0 (5 + s) v) := by
  obtain ⟨n0, n1, n2, n3, n4, n5, n6, n7, n8, n9, m1, m2, m3, m4, m5, m6⟩ := h
  refine ⟨?_, ?_, ?_, ?_, ?_, ?_, ?_, ?_, ?_, ?_, fun k h0 h1 => ?_, fun k h0 h1 => ?_, fun k h0 h1 => ?_, fun k h0 h1 => ?_, fun k h0 h1 => ?_, fun r h0 h1 => ?_⟩
  · simp (disch := omega) only [zp_ne]; exact n0
  · simp (disch := omega) only [zp_ne]; exact n1
  · simp (disch := omega) only [zp_ne]; exact n2
  · simp (disch := omega) only [zp_ne]; exact n3
  · simp (disch := omega) only [zp_ne]; exact n4
  · rcases (show s = 0 ∨ s ≠ 0 by omega) with rfl | q
    · have e9 : zp Z 0 (5 + ((0 : Nat) : Int)) v 0 5 = v := zp_eq
      rw [e9]; exact hv
    · simp (disch := omega) only [zp_ne]; exact n5
  · rcases (show s = 1 ∨ s ≠ 1 by omega) with rfl | q
    · have e9 : zp Z 0 (5 + ((1 : Nat) : Int)) v 0 6 = v := zp_eq
      rw [e9]; exact hv
    · simp (disch := omega) only [zp_ne]; exact n6
  · rcases (show s = 2 ∨ s ≠ 2 by omega) with rfl | q
    · have e9 : zp Z 0 (5 + ((2 : Nat) : Int)) v 0 7 = v := zp_eq
      rw [e9]; exact hv
    · simp (disch := omega) only [zp_ne]; exact n7
  · rcases (show s = 3 ∨ s ≠ 3 by omega) with rfl | q
    · have e9 : zp Z 0 (5 + ((3 : Nat) : Int)) v 0 8 = v := zp_eq
      rw [e9]; exact hv
    · simp (disch := omega) only [zp_ne]; exact n8
  · simp (disch := omega) only [zp_ne]; exact n9
  · simp (disch := omega) only [zp_ne] at h1 ⊢; exact m1 k h0 h1
  · simp (disch := omega) only [zp_ne] at h1 ⊢; exact m2 k h0 h1
  · simp (disch := omega) only [zp_ne] at h1 ⊢; exact m3 k h0 h1
  · simp (disch := omega) only [zp_ne] at h1 ⊢; exact m4 k h0 h1
  · simp (disch := omega) only [zp_ne] at h1 ⊢; exact m5 k h0 h1
  · simp (disch := omega) only [zp_ne]
    obtain ⟨g1, g2, g3, g4⟩ := m6 r h0 h1
    exact ⟨g1, g2, g3, fun q => wfK_c _ _ _ (fun j _ _ => by simp (disch := omega) only [zp_ne, and_self]) (g4 q)⟩
