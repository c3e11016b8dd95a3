/-! TEXT: how the reference ends to read -/
section RTE
variable {ρ : Nat → Nat → Nat} {cs : Nat × Nat × Nat} {d : Nat}
theorem R_textF {μ : Nat → Nat → Int} {q : Int × Nat} {x1 x2 : Int} (hρ : RM ρ) (h : RF μ q) : am_E (d + 1) 175 148 [some (.inr (.inr 99)), some (.inl x1), some (.inl x2)] [] (SH, ρ, μ, cs) = some (some (.inl (-1)), (SH, ρ, am_up (am_up μ 99 30 q.1) 99 31 q.2, cs)) := by
  obtain ⟨h1, h2, h3⟩ := h
  have hne : ¬ μ 99 28 = 0 := by rw [h1]; exact h3
  rw [← h1, ← h2]
  rw [e175_148]; simp (disch := (first | omega | (simp (disch := omega) only [sr_up, wr_up_o]; omega))) only [ks_101, ks_99, rm_number hρ, ite_self, Bool.false_eq_true, eq_self, isk_t, i20_t, w20_t, l23_t, b21_t, b22_t, w_t, bif_t, bif_f, bif_d, if_pos, if_neg, if_true, if_false, not_true_eq_false, not_false_eq_true, Option.bind_some, Option.toList_some, Option.toList_none, List.cons_append, List.nil_append, Int.toNat_natCast, Int.reduceToNat, up_eq, up_p, up_k, sN,  hne ]
theorem R_textE {μ : Nat → Nat → Int} {x1 x2 : Int} (hρ : RM ρ) (h0 : μ 99 28 = 0) (h4 : μ 99 26 = 4) (h29 : μ 99 29 = -1) : ∃ μ', HS 18 (am_up (am_up μ 99 30 0) 99 31 (-1)) μ' ∧ am_E (d + 1) 175 148 [some (.inr (.inr 99)), some (.inl x1), some (.inl x2)] [] (SH, ρ, μ, cs) = am_E (d + 1) 175 321 [some (.inr (.inr 99)), some (.inl x1), some (.inl x2)] [] (SH, ρ, μ', cs) := by
  generalize hm : am_up (am_up μ 99 30 0) 99 31 (-1) = m0 at *
  have h := hs_0 m0
  obtain ⟨m1, h, r0⟩ := hs_s (ρ := ρ) (cs := cs) h (fun L => ks_101 L)
  obtain ⟨m2, h, r1⟩ := hs_s (ρ := ρ) (cs := cs) h (fun L => ks_102 L)
  obtain ⟨m3, h, r2⟩ := hs_s (ρ := ρ) (cs := cs) h (fun L => ks_103 L)
  obtain ⟨m4, h, r3⟩ := hs_s (ρ := ρ) (cs := cs) h (fun L => ks_104 L)
  obtain ⟨m5, h, r4⟩ := hs_s (ρ := ρ) (cs := cs) h (fun L => ks_105 L)
  obtain ⟨m6, h, r5⟩ := hs_s (ρ := ρ) (cs := cs) h (fun L => ks_106 L)
  obtain ⟨m7, h, r6⟩ := hs_s (ρ := ρ) (cs := cs) h (fun L => ks_107 L)
  obtain ⟨m8, h, r7⟩ := hs_s (ρ := ρ) (cs := cs) h (fun L => ks_108 L)
  obtain ⟨m9, h, r8⟩ := hs_s (ρ := ρ) (cs := cs) h (fun L => ks_109 L)
  obtain ⟨m10, h, r9⟩ := hs_s (ρ := ρ) (cs := cs) h (fun L => ks_110 L)
  obtain ⟨m11, h, r10⟩ := hs_s (ρ := ρ) (cs := cs) h (fun L => ks_111 L)
  obtain ⟨m12, h, r11⟩ := hs_s (ρ := ρ) (cs := cs) h (fun L => ks_112 L)
  obtain ⟨m13, h, r12⟩ := hs_s (ρ := ρ) (cs := cs) h (fun L => ks_113 L)
  obtain ⟨m14, h, r13⟩ := hs_s (ρ := ρ) (cs := cs) h (fun L => ks_114 L)
  obtain ⟨m15, h, r14⟩ := hs_s (ρ := ρ) (cs := cs) h (fun L => ks_115 L)
  obtain ⟨m16, h, r15⟩ := hs_s (ρ := ρ) (cs := cs) h (fun L => ks_116 L)
  obtain ⟨m17, h, r16⟩ := hs_s (ρ := ρ) (cs := cs) h (fun L => ks_117 L)
  obtain ⟨m18, h, r17⟩ := hs_s (ρ := ρ) (cs := cs) h (fun L => ks_118 L)
  have r0 : ∀ d, am_E d 174 0 [some (.inr (.inr 101)), none, none] [] (SH, ρ, m0, cs) = some (none, (SH, ρ, m1, cs)) := r0
  have r1 : ∀ d, am_E d 174 0 [some (.inr (.inr 102)), none, none] [] (SH, ρ, m1, cs) = some (none, (SH, ρ, m2, cs)) := r1
  have r2 : ∀ d, am_E d 174 0 [some (.inr (.inr 103)), none, none] [] (SH, ρ, m2, cs) = some (none, (SH, ρ, m3, cs)) := r2
  have r3 : ∀ d, am_E d 174 0 [some (.inr (.inr 104)), none, none] [] (SH, ρ, m3, cs) = some (none, (SH, ρ, m4, cs)) := r3
  have r4 : ∀ d, am_E d 174 0 [some (.inr (.inr 105)), none, none] [] (SH, ρ, m4, cs) = some (none, (SH, ρ, m5, cs)) := r4
  have r5 : ∀ d, am_E d 174 0 [some (.inr (.inr 106)), none, none] [] (SH, ρ, m5, cs) = some (none, (SH, ρ, m6, cs)) := r5
  have r6 : ∀ d, am_E d 174 0 [some (.inr (.inr 107)), none, none] [] (SH, ρ, m6, cs) = some (none, (SH, ρ, m7, cs)) := r6
  have r7 : ∀ d, am_E d 174 0 [some (.inr (.inr 108)), none, none] [] (SH, ρ, m7, cs) = some (none, (SH, ρ, m8, cs)) := r7
  have r8 : ∀ d, am_E d 174 0 [some (.inr (.inr 109)), none, none] [] (SH, ρ, m8, cs) = some (none, (SH, ρ, m9, cs)) := r8
  have r9 : ∀ d, am_E d 174 0 [some (.inr (.inr 110)), none, none] [] (SH, ρ, m9, cs) = some (none, (SH, ρ, m10, cs)) := r9
  have r10 : ∀ d, am_E d 174 0 [some (.inr (.inr 111)), none, none] [] (SH, ρ, m10, cs) = some (none, (SH, ρ, m11, cs)) := r10
  have r11 : ∀ d, am_E d 174 0 [some (.inr (.inr 112)), none, none] [] (SH, ρ, m11, cs) = some (none, (SH, ρ, m12, cs)) := r11
  have r12 : ∀ d, am_E d 174 0 [some (.inr (.inr 113)), none, none] [] (SH, ρ, m12, cs) = some (none, (SH, ρ, m13, cs)) := r12
  have r13 : ∀ d, am_E d 174 0 [some (.inr (.inr 114)), none, none] [] (SH, ρ, m13, cs) = some (none, (SH, ρ, m14, cs)) := r13
  have r14 : ∀ d, am_E d 174 0 [some (.inr (.inr 115)), none, none] [] (SH, ρ, m14, cs) = some (none, (SH, ρ, m15, cs)) := r14
  have r15 : ∀ d, am_E d 174 0 [some (.inr (.inr 116)), none, none] [] (SH, ρ, m15, cs) = some (none, (SH, ρ, m16, cs)) := r15
  have r16 : ∀ d, am_E d 174 0 [some (.inr (.inr 117)), none, none] [] (SH, ρ, m16, cs) = some (none, (SH, ρ, m17, cs)) := r16
  have r17 : ∀ d, am_E d 174 0 [some (.inr (.inr 118)), none, none] [] (SH, ρ, m17, cs) = some (none, (SH, ρ, m18, cs)) := r17
  refine ⟨m18, h, ?_⟩
  have e0 : am_E (d + 1) 175 148 [some (.inr (.inr 99)), some (.inl x1), some (.inl x2)] [] (SH, ρ, μ, cs) = am_E (d + 1) 175 202 [some (.inr (.inr 99)), some (.inl x1), some (.inl x2)] [] (SH, ρ, m1, cs) := by
    rw [e175_148]; simp (disch := (first | omega | (simp (disch := omega) only [sr_up, wr_up_o]; omega))) only [ks_101, ks_99, rm_number hρ, ite_self, Bool.false_eq_true, eq_self, isk_t, i20_t, w20_t, l23_t, b21_t, b22_t, w_t, bif_t, bif_f, bif_d, if_pos, if_neg, if_true, if_false, not_true_eq_false, not_false_eq_true, Option.bind_some, Option.toList_some, Option.toList_none, List.cons_append, List.nil_append, Int.toNat_natCast, Int.reduceToNat, up_eq, up_p, up_k, sN,  h0, h4, h29, hm, r0 ]
  rw [e0]
  simp (disch := (first | omega | (simp (disch := omega) only [sr_up, wr_up_o]; omega))) only [e175_202, e175_209, e175_216, e175_223, e175_230, e175_237, e175_244, e175_251, e175_258, e175_265, e175_272, e175_279, e175_286, e175_293, e175_300, e175_307, e175_314, ks_102, ks_103, ks_104, ks_105, ks_106, ks_107, ks_108, ks_109, ks_110, ks_111, ks_112, ks_113, ks_114, ks_115, ks_116, ks_117, ks_118, ks_99, rm_bentAs hρ, rm_knotSort hρ, rm_knotValue hρ, rm_manName hρ, rm_seesWhat hρ, rm_seesWho hρ, rm_sumFrom hρ, rm_sumTo hρ, rm_tellDay hρ, rm_tellWhat hρ, rm_tellWho hρ, rm_thingDay hρ, rm_thingHats hρ, rm_thingName hρ, rm_wayDays hρ, rm_wayFrom hρ, rm_wayTo hρ, ite_self, Bool.false_eq_true, eq_self, isk_t, i20_t, w20_t, l23_t, b21_t, b22_t, w_t, bif_t, bif_f, bif_d, if_pos, if_neg, if_true, if_false, not_true_eq_false, not_false_eq_true, Option.bind_some, Option.toList_some, Option.toList_none, List.cons_append, List.nil_append, Int.toNat_natCast, Int.reduceToNat, up_eq, up_p, up_k, sN,  r1, r2, r3, r4, r5, r6, r7, r8, r9, r10, r11, r12, r13, r14, r15, r16, r17 ]
end RTE
