/-! the heap behind the two constructors: shapes, references that stay (printed by wip/whole/gen50.py) -/
def SH : List (Nat × Nat) := [(9, 16), (21, 700), (6, 18), (20, 7), (20, 7), (20, 6), (20, 6), (20, 6), (20, 6), (20, 12), (20, 12), (20, 12), (20, 12), (20, 12), (20, 12), (20, 4), (3, 6), (20, 64), (20, 64), (20, 3), (20, 3), (6, 18), (20, 7), (20, 7), (20, 6), (20, 6), (20, 6), (20, 6), (20, 12), (20, 12), (20, 12), (20, 12), (20, 12), (20, 12), (20, 4), (3, 6), (20, 64), (20, 64), (20, 3), (20, 3), (4, 8), (7, 7), (20, 23), (21, 0), (2, 5), (20, 72), (8, 12), (20, 6), (20, 7), (20, 6), (20, 42), (20, 42), (20, 42), (20, 42), (20, 42), (8, 12), (20, 6), (20, 7), (20, 6), (20, 42), (20, 42), (20, 42), (20, 42), (20, 42), (8, 12), (20, 6), (20, 7), (20, 6), (20, 42), (20, 42), (20, 42), (20, 42), (20, 42), (0, 10), (23, 7), (23, 64), (20, 7), (1, 10), (20, 20), (20, 20), (20, 20), (20, 20), (20, 20), (20, 20), (20, 20), (20, 20), (20, 20), (5, 9), (20, 24), (20, 24), (20, 24), (20, 24), (22, 24), (20, 24), (22, 24), (20, 6), (20, 6), (20, 896), (20, 70), (10, 67), (20, 700), (20, 20), (20, 14), (20, 14), (20, 12), (20, 12), (20, 12), (20, 20), (20, 20), (20, 24), (20, 24), (20, 24), (20, 24), (20, 24), (20, 24), (20, 6), (20, 6), (20, 128), (20, 128), (23, 7), (23, 64), (20, 23), (20, 23), (20, 23), (20, 23), (20, 966), (20, 966), (20, 966), (20, 966), (20, 966), (20, 138), (20, 6), (20, 6), (20, 6), (20, 24), (20, 24), (20, 24), (22, 24), (20, 24), (22, 24), (20, 70), (23, 1)]
theorem ks_0 (L : Nat) : am_ks SH L 0 = (9, 16) := rfl
theorem ks_1 (L : Nat) : am_ks SH L 1 = (21, 700) := rfl
theorem ks_2 (L : Nat) : am_ks SH L 2 = (6, 18) := rfl
theorem ks_3 (L : Nat) : am_ks SH L 3 = (20, 7) := rfl
theorem ks_4 (L : Nat) : am_ks SH L 4 = (20, 7) := rfl
theorem ks_5 (L : Nat) : am_ks SH L 5 = (20, 6) := rfl
theorem ks_6 (L : Nat) : am_ks SH L 6 = (20, 6) := rfl
theorem ks_7 (L : Nat) : am_ks SH L 7 = (20, 6) := rfl
theorem ks_8 (L : Nat) : am_ks SH L 8 = (20, 6) := rfl
theorem ks_9 (L : Nat) : am_ks SH L 9 = (20, 12) := rfl
theorem ks_10 (L : Nat) : am_ks SH L 10 = (20, 12) := rfl
theorem ks_11 (L : Nat) : am_ks SH L 11 = (20, 12) := rfl
theorem ks_12 (L : Nat) : am_ks SH L 12 = (20, 12) := rfl
theorem ks_13 (L : Nat) : am_ks SH L 13 = (20, 12) := rfl
theorem ks_14 (L : Nat) : am_ks SH L 14 = (20, 12) := rfl
theorem ks_15 (L : Nat) : am_ks SH L 15 = (20, 4) := rfl
theorem ks_16 (L : Nat) : am_ks SH L 16 = (3, 6) := rfl
theorem ks_17 (L : Nat) : am_ks SH L 17 = (20, 64) := rfl
theorem ks_18 (L : Nat) : am_ks SH L 18 = (20, 64) := rfl
theorem ks_19 (L : Nat) : am_ks SH L 19 = (20, 3) := rfl
theorem ks_20 (L : Nat) : am_ks SH L 20 = (20, 3) := rfl
theorem ks_21 (L : Nat) : am_ks SH L 21 = (6, 18) := rfl
theorem ks_22 (L : Nat) : am_ks SH L 22 = (20, 7) := rfl
theorem ks_23 (L : Nat) : am_ks SH L 23 = (20, 7) := rfl
theorem ks_24 (L : Nat) : am_ks SH L 24 = (20, 6) := rfl
theorem ks_25 (L : Nat) : am_ks SH L 25 = (20, 6) := rfl
theorem ks_26 (L : Nat) : am_ks SH L 26 = (20, 6) := rfl
theorem ks_27 (L : Nat) : am_ks SH L 27 = (20, 6) := rfl
theorem ks_28 (L : Nat) : am_ks SH L 28 = (20, 12) := rfl
theorem ks_29 (L : Nat) : am_ks SH L 29 = (20, 12) := rfl
theorem ks_30 (L : Nat) : am_ks SH L 30 = (20, 12) := rfl
theorem ks_31 (L : Nat) : am_ks SH L 31 = (20, 12) := rfl
theorem ks_32 (L : Nat) : am_ks SH L 32 = (20, 12) := rfl
theorem ks_33 (L : Nat) : am_ks SH L 33 = (20, 12) := rfl
theorem ks_34 (L : Nat) : am_ks SH L 34 = (20, 4) := rfl
theorem ks_35 (L : Nat) : am_ks SH L 35 = (3, 6) := rfl
theorem ks_36 (L : Nat) : am_ks SH L 36 = (20, 64) := rfl
theorem ks_37 (L : Nat) : am_ks SH L 37 = (20, 64) := rfl
theorem ks_38 (L : Nat) : am_ks SH L 38 = (20, 3) := rfl
theorem ks_39 (L : Nat) : am_ks SH L 39 = (20, 3) := rfl
theorem ks_40 (L : Nat) : am_ks SH L 40 = (4, 8) := rfl
theorem ks_41 (L : Nat) : am_ks SH L 41 = (7, 7) := rfl
theorem ks_42 (L : Nat) : am_ks SH L 42 = (20, 23) := rfl
theorem ks_43 (L : Nat) : am_ks SH L 43 = (21, 0) := rfl
theorem ks_44 (L : Nat) : am_ks SH L 44 = (2, 5) := rfl
theorem ks_45 (L : Nat) : am_ks SH L 45 = (20, 72) := rfl
theorem ks_46 (L : Nat) : am_ks SH L 46 = (8, 12) := rfl
theorem ks_47 (L : Nat) : am_ks SH L 47 = (20, 6) := rfl
theorem ks_48 (L : Nat) : am_ks SH L 48 = (20, 7) := rfl
theorem ks_49 (L : Nat) : am_ks SH L 49 = (20, 6) := rfl
theorem ks_50 (L : Nat) : am_ks SH L 50 = (20, 42) := rfl
theorem ks_51 (L : Nat) : am_ks SH L 51 = (20, 42) := rfl
theorem ks_52 (L : Nat) : am_ks SH L 52 = (20, 42) := rfl
theorem ks_53 (L : Nat) : am_ks SH L 53 = (20, 42) := rfl
theorem ks_54 (L : Nat) : am_ks SH L 54 = (20, 42) := rfl
theorem ks_55 (L : Nat) : am_ks SH L 55 = (8, 12) := rfl
theorem ks_56 (L : Nat) : am_ks SH L 56 = (20, 6) := rfl
theorem ks_57 (L : Nat) : am_ks SH L 57 = (20, 7) := rfl
theorem ks_58 (L : Nat) : am_ks SH L 58 = (20, 6) := rfl
theorem ks_59 (L : Nat) : am_ks SH L 59 = (20, 42) := rfl
theorem ks_60 (L : Nat) : am_ks SH L 60 = (20, 42) := rfl
theorem ks_61 (L : Nat) : am_ks SH L 61 = (20, 42) := rfl
theorem ks_62 (L : Nat) : am_ks SH L 62 = (20, 42) := rfl
theorem ks_63 (L : Nat) : am_ks SH L 63 = (20, 42) := rfl
theorem ks_64 (L : Nat) : am_ks SH L 64 = (8, 12) := rfl
theorem ks_65 (L : Nat) : am_ks SH L 65 = (20, 6) := rfl
theorem ks_66 (L : Nat) : am_ks SH L 66 = (20, 7) := rfl
theorem ks_67 (L : Nat) : am_ks SH L 67 = (20, 6) := rfl
theorem ks_68 (L : Nat) : am_ks SH L 68 = (20, 42) := rfl
theorem ks_69 (L : Nat) : am_ks SH L 69 = (20, 42) := rfl
theorem ks_70 (L : Nat) : am_ks SH L 70 = (20, 42) := rfl
theorem ks_71 (L : Nat) : am_ks SH L 71 = (20, 42) := rfl
theorem ks_72 (L : Nat) : am_ks SH L 72 = (20, 42) := rfl
theorem ks_73 (L : Nat) : am_ks SH L 73 = (0, 10) := rfl
theorem ks_74 (L : Nat) : am_ks SH L 74 = (23, 7) := rfl
theorem ks_75 (L : Nat) : am_ks SH L 75 = (23, 64) := rfl
theorem ks_76 (L : Nat) : am_ks SH L 76 = (20, 7) := rfl
theorem ks_77 (L : Nat) : am_ks SH L 77 = (1, 10) := rfl
theorem ks_78 (L : Nat) : am_ks SH L 78 = (20, 20) := rfl
theorem ks_79 (L : Nat) : am_ks SH L 79 = (20, 20) := rfl
theorem ks_80 (L : Nat) : am_ks SH L 80 = (20, 20) := rfl
theorem ks_81 (L : Nat) : am_ks SH L 81 = (20, 20) := rfl
theorem ks_82 (L : Nat) : am_ks SH L 82 = (20, 20) := rfl
theorem ks_83 (L : Nat) : am_ks SH L 83 = (20, 20) := rfl
theorem ks_84 (L : Nat) : am_ks SH L 84 = (20, 20) := rfl
theorem ks_85 (L : Nat) : am_ks SH L 85 = (20, 20) := rfl
theorem ks_86 (L : Nat) : am_ks SH L 86 = (20, 20) := rfl
theorem ks_87 (L : Nat) : am_ks SH L 87 = (5, 9) := rfl
theorem ks_88 (L : Nat) : am_ks SH L 88 = (20, 24) := rfl
theorem ks_89 (L : Nat) : am_ks SH L 89 = (20, 24) := rfl
theorem ks_90 (L : Nat) : am_ks SH L 90 = (20, 24) := rfl
theorem ks_91 (L : Nat) : am_ks SH L 91 = (20, 24) := rfl
theorem ks_92 (L : Nat) : am_ks SH L 92 = (22, 24) := rfl
theorem ks_93 (L : Nat) : am_ks SH L 93 = (20, 24) := rfl
theorem ks_94 (L : Nat) : am_ks SH L 94 = (22, 24) := rfl
theorem ks_95 (L : Nat) : am_ks SH L 95 = (20, 6) := rfl
theorem ks_96 (L : Nat) : am_ks SH L 96 = (20, 6) := rfl
theorem ks_97 (L : Nat) : am_ks SH L 97 = (20, 896) := rfl
theorem ks_98 (L : Nat) : am_ks SH L 98 = (20, 70) := rfl
theorem ks_99 (L : Nat) : am_ks SH L 99 = (10, 67) := rfl
theorem ks_100 (L : Nat) : am_ks SH L 100 = (20, 700) := rfl
theorem ks_101 (L : Nat) : am_ks SH L 101 = (20, 20) := rfl
theorem ks_102 (L : Nat) : am_ks SH L 102 = (20, 14) := rfl
theorem ks_103 (L : Nat) : am_ks SH L 103 = (20, 14) := rfl
theorem ks_104 (L : Nat) : am_ks SH L 104 = (20, 12) := rfl
theorem ks_105 (L : Nat) : am_ks SH L 105 = (20, 12) := rfl
theorem ks_106 (L : Nat) : am_ks SH L 106 = (20, 12) := rfl
theorem ks_107 (L : Nat) : am_ks SH L 107 = (20, 20) := rfl
theorem ks_108 (L : Nat) : am_ks SH L 108 = (20, 20) := rfl
theorem ks_109 (L : Nat) : am_ks SH L 109 = (20, 24) := rfl
theorem ks_110 (L : Nat) : am_ks SH L 110 = (20, 24) := rfl
theorem ks_111 (L : Nat) : am_ks SH L 111 = (20, 24) := rfl
theorem ks_112 (L : Nat) : am_ks SH L 112 = (20, 24) := rfl
theorem ks_113 (L : Nat) : am_ks SH L 113 = (20, 24) := rfl
theorem ks_114 (L : Nat) : am_ks SH L 114 = (20, 24) := rfl
theorem ks_115 (L : Nat) : am_ks SH L 115 = (20, 6) := rfl
theorem ks_116 (L : Nat) : am_ks SH L 116 = (20, 6) := rfl
theorem ks_117 (L : Nat) : am_ks SH L 117 = (20, 128) := rfl
theorem ks_118 (L : Nat) : am_ks SH L 118 = (20, 128) := rfl
theorem ks_119 (L : Nat) : am_ks SH L 119 = (23, 7) := rfl
theorem ks_120 (L : Nat) : am_ks SH L 120 = (23, 64) := rfl
theorem ks_121 (L : Nat) : am_ks SH L 121 = (20, 23) := rfl
theorem ks_122 (L : Nat) : am_ks SH L 122 = (20, 23) := rfl
theorem ks_123 (L : Nat) : am_ks SH L 123 = (20, 23) := rfl
theorem ks_124 (L : Nat) : am_ks SH L 124 = (20, 23) := rfl
theorem ks_125 (L : Nat) : am_ks SH L 125 = (20, 966) := rfl
theorem ks_126 (L : Nat) : am_ks SH L 126 = (20, 966) := rfl
theorem ks_127 (L : Nat) : am_ks SH L 127 = (20, 966) := rfl
theorem ks_128 (L : Nat) : am_ks SH L 128 = (20, 966) := rfl
theorem ks_129 (L : Nat) : am_ks SH L 129 = (20, 966) := rfl
theorem ks_130 (L : Nat) : am_ks SH L 130 = (20, 138) := rfl
theorem ks_131 (L : Nat) : am_ks SH L 131 = (20, 6) := rfl
theorem ks_132 (L : Nat) : am_ks SH L 132 = (20, 6) := rfl
theorem ks_133 (L : Nat) : am_ks SH L 133 = (20, 6) := rfl
theorem ks_134 (L : Nat) : am_ks SH L 134 = (20, 24) := rfl
theorem ks_135 (L : Nat) : am_ks SH L 135 = (20, 24) := rfl
theorem ks_136 (L : Nat) : am_ks SH L 136 = (20, 24) := rfl
theorem ks_137 (L : Nat) : am_ks SH L 137 = (22, 24) := rfl
theorem ks_138 (L : Nat) : am_ks SH L 138 = (20, 24) := rfl
theorem ks_139 (L : Nat) : am_ks SH L 139 = (22, 24) := rfl
theorem ks_140 (L : Nat) : am_ks SH L 140 = (20, 70) := rfl
theorem ks_141 (L : Nat) : am_ks SH L 141 = (23, 1) := rfl
/-- the reference's rows lie where they were made -/
def RM (ρ : Nat → Nat → Nat) : Prop := ρ 99 1 = 100 ∧ ρ 99 3 = 101 ∧ ρ 99 4 = 102 ∧ ρ 99 5 = 103 ∧ ρ 99 6 = 104 ∧ ρ 99 7 = 105 ∧ ρ 99 8 = 106 ∧ ρ 99 9 = 107 ∧ ρ 99 10 = 108 ∧ ρ 99 11 = 109 ∧ ρ 99 12 = 110 ∧ ρ 99 13 = 111 ∧ ρ 99 14 = 112 ∧ ρ 99 15 = 113 ∧ ρ 99 16 = 114 ∧ ρ 99 17 = 115 ∧ ρ 99 18 = 116 ∧ ρ 99 19 = 117 ∧ ρ 99 20 = 118 ∧ ρ 99 34 = 119 ∧ ρ 99 35 = 120 ∧ ρ 99 37 = 121 ∧ ρ 99 38 = 122 ∧ ρ 99 39 = 123 ∧ ρ 99 40 = 124 ∧ ρ 99 41 = 125 ∧ ρ 99 42 = 126 ∧ ρ 99 43 = 127 ∧ ρ 99 44 = 128 ∧ ρ 99 45 = 129 ∧ ρ 99 46 = 130 ∧ ρ 99 54 = 131 ∧ ρ 99 55 = 132 ∧ ρ 99 56 = 133 ∧ ρ 99 60 = 134 ∧ ρ 99 61 = 135 ∧ ρ 99 62 = 136 ∧ ρ 99 63 = 137 ∧ ρ 99 64 = 138 ∧ ρ 99 65 = 139 ∧ ρ 99 66 = 140
theorem rm_tape {ρ : Nat → Nat → Nat} (h : RM ρ) : ρ 99 1 = 100 := h.1
theorem rm_number {ρ : Nat → Nat → Nat} (h : RM ρ) : ρ 99 3 = 101 := h.2.1
theorem rm_manName {ρ : Nat → Nat → Nat} (h : RM ρ) : ρ 99 4 = 102 := h.2.2.1
theorem rm_bentAs {ρ : Nat → Nat → Nat} (h : RM ρ) : ρ 99 5 = 103 := h.2.2.2.1
theorem rm_thingName {ρ : Nat → Nat → Nat} (h : RM ρ) : ρ 99 6 = 104 := h.2.2.2.2.1
theorem rm_thingDay {ρ : Nat → Nat → Nat} (h : RM ρ) : ρ 99 7 = 105 := h.2.2.2.2.2.1
theorem rm_thingHats {ρ : Nat → Nat → Nat} (h : RM ρ) : ρ 99 8 = 106 := h.2.2.2.2.2.2.1
theorem rm_seesWho {ρ : Nat → Nat → Nat} (h : RM ρ) : ρ 99 9 = 107 := h.2.2.2.2.2.2.2.1
theorem rm_seesWhat {ρ : Nat → Nat → Nat} (h : RM ρ) : ρ 99 10 = 108 := h.2.2.2.2.2.2.2.2.1
theorem rm_wayFrom {ρ : Nat → Nat → Nat} (h : RM ρ) : ρ 99 11 = 109 := h.2.2.2.2.2.2.2.2.2.1
theorem rm_wayTo {ρ : Nat → Nat → Nat} (h : RM ρ) : ρ 99 12 = 110 := h.2.2.2.2.2.2.2.2.2.2.1
theorem rm_wayDays {ρ : Nat → Nat → Nat} (h : RM ρ) : ρ 99 13 = 111 := h.2.2.2.2.2.2.2.2.2.2.2.1
theorem rm_tellWho {ρ : Nat → Nat → Nat} (h : RM ρ) : ρ 99 14 = 112 := h.2.2.2.2.2.2.2.2.2.2.2.2.1
theorem rm_tellWhat {ρ : Nat → Nat → Nat} (h : RM ρ) : ρ 99 15 = 113 := h.2.2.2.2.2.2.2.2.2.2.2.2.2.1
theorem rm_tellDay {ρ : Nat → Nat → Nat} (h : RM ρ) : ρ 99 16 = 114 := h.2.2.2.2.2.2.2.2.2.2.2.2.2.2.1
theorem rm_sumFrom {ρ : Nat → Nat → Nat} (h : RM ρ) : ρ 99 17 = 115 := h.2.2.2.2.2.2.2.2.2.2.2.2.2.2.2.1
theorem rm_sumTo {ρ : Nat → Nat → Nat} (h : RM ρ) : ρ 99 18 = 116 := h.2.2.2.2.2.2.2.2.2.2.2.2.2.2.2.2.1
theorem rm_knotSort {ρ : Nat → Nat → Nat} (h : RM ρ) : ρ 99 19 = 117 := h.2.2.2.2.2.2.2.2.2.2.2.2.2.2.2.2.2.1
theorem rm_knotValue {ρ : Nat → Nat → Nat} (h : RM ρ) : ρ 99 20 = 118 := h.2.2.2.2.2.2.2.2.2.2.2.2.2.2.2.2.2.2.1
theorem rm_names {ρ : Nat → Nat → Nat} (h : RM ρ) : ρ 99 34 = 119 := h.2.2.2.2.2.2.2.2.2.2.2.2.2.2.2.2.2.2.2.1
theorem rm_worked {ρ : Nat → Nat → Nat} (h : RM ρ) : ρ 99 35 = 120 := h.2.2.2.2.2.2.2.2.2.2.2.2.2.2.2.2.2.2.2.2.1
theorem rm_day {ρ : Nat → Nat → Nat} (h : RM ρ) : ρ 99 37 = 121 := h.2.2.2.2.2.2.2.2.2.2.2.2.2.2.2.2.2.2.2.2.2.1
theorem rm_drawn {ρ : Nat → Nat → Nat} (h : RM ρ) : ρ 99 38 = 122 := h.2.2.2.2.2.2.2.2.2.2.2.2.2.2.2.2.2.2.2.2.2.2.1
theorem rm_space {ρ : Nat → Nat → Nat} (h : RM ρ) : ρ 99 39 = 123 := h.2.2.2.2.2.2.2.2.2.2.2.2.2.2.2.2.2.2.2.2.2.2.2.1
theorem rm_idle {ρ : Nat → Nat → Nat} (h : RM ρ) : ρ 99 40 = 124 := h.2.2.2.2.2.2.2.2.2.2.2.2.2.2.2.2.2.2.2.2.2.2.2.2.1
theorem rm_hatsOf {ρ : Nat → Nat → Nat} (h : RM ρ) : ρ 99 41 = 125 := h.2.2.2.2.2.2.2.2.2.2.2.2.2.2.2.2.2.2.2.2.2.2.2.2.2.1
theorem rm_sinceOf {ρ : Nat → Nat → Nat} (h : RM ρ) : ρ 99 42 = 126 := h.2.2.2.2.2.2.2.2.2.2.2.2.2.2.2.2.2.2.2.2.2.2.2.2.2.2.1
theorem rm_fromOf {ρ : Nat → Nat → Nat} (h : RM ρ) : ρ 99 43 = 127 := h.2.2.2.2.2.2.2.2.2.2.2.2.2.2.2.2.2.2.2.2.2.2.2.2.2.2.2.1
theorem rm_printedHats {ρ : Nat → Nat → Nat} (h : RM ρ) : ρ 99 44 = 128 := h.2.2.2.2.2.2.2.2.2.2.2.2.2.2.2.2.2.2.2.2.2.2.2.2.2.2.2.2.1
theorem rm_printedChain {ρ : Nat → Nat → Nat} (h : RM ρ) : ρ 99 45 = 129 := h.2.2.2.2.2.2.2.2.2.2.2.2.2.2.2.2.2.2.2.2.2.2.2.2.2.2.2.2.2.1
theorem rm_newsOn {ρ : Nat → Nat → Nat} (h : RM ρ) : ρ 99 46 = 130 := h.2.2.2.2.2.2.2.2.2.2.2.2.2.2.2.2.2.2.2.2.2.2.2.2.2.2.2.2.2.2.1
theorem rm_wouldBe {ρ : Nat → Nat → Nat} (h : RM ρ) : ρ 99 54 = 131 := h.2.2.2.2.2.2.2.2.2.2.2.2.2.2.2.2.2.2.2.2.2.2.2.2.2.2.2.2.2.2.2.1
theorem rm_matchNow {ρ : Nat → Nat → Nat} (h : RM ρ) : ρ 99 55 = 132 := h.2.2.2.2.2.2.2.2.2.2.2.2.2.2.2.2.2.2.2.2.2.2.2.2.2.2.2.2.2.2.2.2.1
theorem rm_matchBest {ρ : Nat → Nat → Nat} (h : RM ρ) : ρ 99 56 = 133 := h.2.2.2.2.2.2.2.2.2.2.2.2.2.2.2.2.2.2.2.2.2.2.2.2.2.2.2.2.2.2.2.2.2.1
theorem rm_noteDays {ρ : Nat → Nat → Nat} (h : RM ρ) : ρ 99 60 = 134 := h.2.2.2.2.2.2.2.2.2.2.2.2.2.2.2.2.2.2.2.2.2.2.2.2.2.2.2.2.2.2.2.2.2.2.1
theorem rm_noteOf {ρ : Nat → Nat → Nat} (h : RM ρ) : ρ 99 61 = 135 := h.2.2.2.2.2.2.2.2.2.2.2.2.2.2.2.2.2.2.2.2.2.2.2.2.2.2.2.2.2.2.2.2.2.2.2.1
theorem rm_noteHats {ρ : Nat → Nat → Nat} (h : RM ρ) : ρ 99 62 = 136 := h.2.2.2.2.2.2.2.2.2.2.2.2.2.2.2.2.2.2.2.2.2.2.2.2.2.2.2.2.2.2.2.2.2.2.2.2.1
theorem rm_noteIs {ρ : Nat → Nat → Nat} (h : RM ρ) : ρ 99 63 = 137 := h.2.2.2.2.2.2.2.2.2.2.2.2.2.2.2.2.2.2.2.2.2.2.2.2.2.2.2.2.2.2.2.2.2.2.2.2.2.1
theorem rm_outs {ρ : Nat → Nat → Nat} (h : RM ρ) : ρ 99 64 = 138 := h.2.2.2.2.2.2.2.2.2.2.2.2.2.2.2.2.2.2.2.2.2.2.2.2.2.2.2.2.2.2.2.2.2.2.2.2.2.2.1
theorem rm_isOut {ρ : Nat → Nat → Nat} (h : RM ρ) : ρ 99 65 = 139 := h.2.2.2.2.2.2.2.2.2.2.2.2.2.2.2.2.2.2.2.2.2.2.2.2.2.2.2.2.2.2.2.2.2.2.2.2.2.2.2.1
theorem rm_wouldHave {ρ : Nat → Nat → Nat} (h : RM ρ) : ρ 99 66 = 140 := h.2.2.2.2.2.2.2.2.2.2.2.2.2.2.2.2.2.2.2.2.2.2.2.2.2.2.2.2.2.2.2.2.2.2.2.2.2.2.2.2
theorem isk_t (k n : Nat) : am_isk (k, n) k = true := Nat.beq_refl k
theorem i20_t {n : Nat} {i : Int} (h0 : 0 ≤ i) (h1 : i < n) : am_i20 (20, n) i = true := by simp [am_i20, am_in, h0, h1]
theorem w20_t {n : Nat} {i : Int} (h0 : 0 ≤ i) (h1 : i < n) : am_w20 (20, n) i = true := by simp [am_w20, am_in, h0, h1]
theorem l23_t {n : Nat} {i : Int} (h0 : 0 ≤ i) (h1 : i < n) : am_l23 (23, n) i = true := by simp [am_l23, am_in, h0, h1]
theorem b21_t {n : Nat} {i : Int} (h0 : 0 ≤ i) (h1 : i < n) : am_b21 (21, n) i = true := by simp [am_b21, am_in, h0, h1]
theorem b22_t {n : Nat} {i : Int} (h0 : 0 ≤ i) (h1 : i < n) : am_b21 (22, n) i = true := by simp [am_b21, am_in, h0, h1]
theorem w_t {z : Int} (h0 : -2147483648 ≤ z) (h1 : z < 2147483648) : am_w z = z := by
  unfold am_w
  exact Int.bmod_eq_of_le (by omega) (by omega)
theorem up_eq {α : Type} {f : Nat → Nat → α} {p k : Nat} {v : α} : am_up f p k v p k = v := am_up_eq
theorem up_p {α : Type} {f : Nat → Nat → α} {p k : Nat} {v : α} {q j : Nat} (h : q ≠ p) : am_up f p k v q j = f q j := am_up_ne h
theorem up_k {α : Type} {f : Nat → Nat → α} {p k : Nat} {v : α} {q j : Nat} (h : j ≠ k) : am_up f p k v q j = f q j := am_up_no (fun e => h e.2)
theorem bif_t {α : Type} {x y : α} : (bif true then x else y) = x := rfl
theorem bif_f {α : Type} {x y : α} : (bif false then x else y) = y := rfl
theorem bif_d {α : Type} {p : Prop} {_ : Decidable p} {x y : α} : (bif decide p then x else y) = if p then x else y := by by_cases h : p <;> simp [h]
