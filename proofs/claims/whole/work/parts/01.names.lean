-- ===== PART A: goes FIRST, ahead of the names: the tables' words, and 'selects' of the private methods out of them =====
/-- a private method of a class that the tables say can be made, by its rows of tables_1 -/
def lw_okq (q : MethodName × Nat) : Prop := (q.1.cls ≠ "java/lang/invoke/MethodHandle" ∧ q.1.cls ≠ "java/lang/invoke/VarHandle") ∧ Cond.instantiable q.1.cls q.2 ∈ tables_1 ∧ Cond.privateMethod q.1 ∈ tables_1 ∧ Cond.instanceMethod q.1 ∈ tables_1
theorem lw_p0 : lw_okq (⟨"SecondTelling", "putOnTape", "(I)V"⟩, 16) := ⟨⟨by decide +kernel, by decide +kernel⟩, List.mem_of_getElem? (i := 25) (by decide +kernel), List.mem_of_getElem? (i := 564) (by decide +kernel), List.mem_of_getElem? (i := 565) (by decide +kernel)⟩
theorem lw_p1 : lw_okq (⟨"SecondTelling$Tokens", "takeWord", "()V"⟩, 7) := ⟨⟨by decide +kernel, by decide +kernel⟩, List.mem_of_getElem? (i := 186) (by decide +kernel), List.mem_of_getElem? (i := 595) (by decide +kernel), List.mem_of_getElem? (i := 596) (by decide +kernel)⟩
theorem lw_p2 : lw_okq (⟨"SecondTelling$Tokens", "takeNumber", "()V"⟩, 7) := ⟨⟨by decide +kernel, by decide +kernel⟩, List.mem_of_getElem? (i := 186) (by decide +kernel), List.mem_of_getElem? (i := 605) (by decide +kernel), List.mem_of_getElem? (i := 606) (by decide +kernel)⟩
theorem lw_p3 : lw_okq (⟨"SecondTelling$Tokens", "takeSign", "()V"⟩, 7) := ⟨⟨by decide +kernel, by decide +kernel⟩, List.mem_of_getElem? (i := 186) (by decide +kernel), List.mem_of_getElem? (i := 610) (by decide +kernel), List.mem_of_getElem? (i := 611) (by decide +kernel)⟩
theorem lw_p4 : lw_okq (⟨"SecondTelling$Tokens", "follows", "(I)Z"⟩, 7) := ⟨⟨by decide +kernel, by decide +kernel⟩, List.mem_of_getElem? (i := 186) (by decide +kernel), List.mem_of_getElem? (i := 614) (by decide +kernel), List.mem_of_getElem? (i := 615) (by decide +kernel)⟩
theorem lw_p5 : lw_okq (⟨"SecondTelling$Reader", "readLine", "()I"⟩, 8) := ⟨⟨by decide +kernel, by decide +kernel⟩, List.mem_of_getElem? (i := 180) (by decide +kernel), List.mem_of_getElem? (i := 621) (by decide +kernel), List.mem_of_getElem? (i := 622) (by decide +kernel)⟩
theorem lw_p6 : lw_okq (⟨"SecondTelling$Reader", "readSetting", "(I)I"⟩, 8) := ⟨⟨by decide +kernel, by decide +kernel⟩, List.mem_of_getElem? (i := 180) (by decide +kernel), List.mem_of_getElem? (i := 625) (by decide +kernel), List.mem_of_getElem? (i := 626) (by decide +kernel)⟩
theorem lw_p7 : lw_okq (⟨"SecondTelling$Reader", "takeNumber", "(II)I"⟩, 8) := ⟨⟨by decide +kernel, by decide +kernel⟩, List.mem_of_getElem? (i := 180) (by decide +kernel), List.mem_of_getElem? (i := 631) (by decide +kernel), List.mem_of_getElem? (i := 632) (by decide +kernel)⟩
theorem lw_p8 : lw_okq (⟨"SecondTelling$Reader", "takeLineEnd", "()I"⟩, 8) := ⟨⟨by decide +kernel, by decide +kernel⟩, List.mem_of_getElem? (i := 180) (by decide +kernel), List.mem_of_getElem? (i := 635) (by decide +kernel), List.mem_of_getElem? (i := 636) (by decide +kernel)⟩
theorem lw_p9 : lw_okq (⟨"SecondTelling$Reader", "readMan", "()I"⟩, 8) := ⟨⟨by decide +kernel, by decide +kernel⟩, List.mem_of_getElem? (i := 180) (by decide +kernel), List.mem_of_getElem? (i := 639) (by decide +kernel), List.mem_of_getElem? (i := 640) (by decide +kernel)⟩
theorem lw_p10 : lw_okq (⟨"SecondTelling$Reader", "takeNewName", "([II)I"⟩, 8) := ⟨⟨by decide +kernel, by decide +kernel⟩, List.mem_of_getElem? (i := 180) (by decide +kernel), List.mem_of_getElem? (i := 643) (by decide +kernel), List.mem_of_getElem? (i := 644) (by decide +kernel)⟩
theorem lw_p11 : lw_okq (⟨"SecondTelling$Reader", "readThing", "()I"⟩, 8) := ⟨⟨by decide +kernel, by decide +kernel⟩, List.mem_of_getElem? (i := 180) (by decide +kernel), List.mem_of_getElem? (i := 648) (by decide +kernel), List.mem_of_getElem? (i := 649) (by decide +kernel)⟩
theorem lw_p12 : lw_okq (⟨"SecondTelling$Reader", "readSees", "()I"⟩, 8) := ⟨⟨by decide +kernel, by decide +kernel⟩, List.mem_of_getElem? (i := 180) (by decide +kernel), List.mem_of_getElem? (i := 652) (by decide +kernel), List.mem_of_getElem? (i := 653) (by decide +kernel)⟩
theorem lw_p13 : lw_okq (⟨"SecondTelling$Reader", "takeOldName", "([II)I"⟩, 8) := ⟨⟨by decide +kernel, by decide +kernel⟩, List.mem_of_getElem? (i := 180) (by decide +kernel), List.mem_of_getElem? (i := 656) (by decide +kernel), List.mem_of_getElem? (i := 657) (by decide +kernel)⟩
theorem lw_p14 : lw_okq (⟨"SecondTelling$Reader", "readWay", "()I"⟩, 8) := ⟨⟨by decide +kernel, by decide +kernel⟩, List.mem_of_getElem? (i := 180) (by decide +kernel), List.mem_of_getElem? (i := 660) (by decide +kernel), List.mem_of_getElem? (i := 661) (by decide +kernel)⟩
theorem lw_p15 : lw_okq (⟨"SecondTelling$Reader", "readTell", "()I"⟩, 8) := ⟨⟨by decide +kernel, by decide +kernel⟩, List.mem_of_getElem? (i := 180) (by decide +kernel), List.mem_of_getElem? (i := 664) (by decide +kernel), List.mem_of_getElem? (i := 665) (by decide +kernel)⟩
def lw_privs_1 : List (MethodName × Nat) := [(⟨"SecondTelling", "putOnTape", "(I)V"⟩, 16), (⟨"SecondTelling$Tokens", "takeWord", "()V"⟩, 7), (⟨"SecondTelling$Tokens", "takeNumber", "()V"⟩, 7), (⟨"SecondTelling$Tokens", "takeSign", "()V"⟩, 7), (⟨"SecondTelling$Tokens", "follows", "(I)Z"⟩, 7), (⟨"SecondTelling$Reader", "readLine", "()I"⟩, 8), (⟨"SecondTelling$Reader", "readSetting", "(I)I"⟩, 8), (⟨"SecondTelling$Reader", "takeNumber", "(II)I"⟩, 8), (⟨"SecondTelling$Reader", "takeLineEnd", "()I"⟩, 8), (⟨"SecondTelling$Reader", "readMan", "()I"⟩, 8), (⟨"SecondTelling$Reader", "takeNewName", "([II)I"⟩, 8), (⟨"SecondTelling$Reader", "readThing", "()I"⟩, 8), (⟨"SecondTelling$Reader", "readSees", "()I"⟩, 8), (⟨"SecondTelling$Reader", "takeOldName", "([II)I"⟩, 8), (⟨"SecondTelling$Reader", "readWay", "()I"⟩, 8), (⟨"SecondTelling$Reader", "readTell", "()I"⟩, 8)]
theorem lw_r1 : ∀ q ∈ lw_privs_1, lw_okq q := List.forall_mem_cons.mpr ⟨lw_p0, List.forall_mem_cons.mpr ⟨lw_p1, List.forall_mem_cons.mpr ⟨lw_p2, List.forall_mem_cons.mpr ⟨lw_p3, List.forall_mem_cons.mpr ⟨lw_p4, List.forall_mem_cons.mpr ⟨lw_p5, List.forall_mem_cons.mpr ⟨lw_p6, List.forall_mem_cons.mpr ⟨lw_p7, List.forall_mem_cons.mpr ⟨lw_p8, List.forall_mem_cons.mpr ⟨lw_p9, List.forall_mem_cons.mpr ⟨lw_p10, List.forall_mem_cons.mpr ⟨lw_p11, List.forall_mem_cons.mpr ⟨lw_p12, List.forall_mem_cons.mpr ⟨lw_p13, List.forall_mem_cons.mpr ⟨lw_p14, List.forall_mem_cons.mpr ⟨lw_p15, fun _ h => absurd h List.not_mem_nil⟩⟩⟩⟩⟩⟩⟩⟩⟩⟩⟩⟩⟩⟩⟩⟩
theorem lw_p16 : lw_okq (⟨"SecondTelling$Reader", "readLaw", "()I"⟩, 8) := ⟨⟨by decide +kernel, by decide +kernel⟩, List.mem_of_getElem? (i := 180) (by decide +kernel), List.mem_of_getElem? (i := 668) (by decide +kernel), List.mem_of_getElem? (i := 669) (by decide +kernel)⟩
theorem lw_p17 : lw_okq (⟨"SecondTelling$LawReader", "settle", "(I)V"⟩, 5) := ⟨⟨by decide +kernel, by decide +kernel⟩, List.mem_of_getElem? (i := 268) (by decide +kernel), List.mem_of_getElem? (i := 681) (by decide +kernel), List.mem_of_getElem? (i := 682) (by decide +kernel)⟩
theorem lw_p18 : lw_okq (⟨"SecondTelling$LawReader", "takeValue", "()I"⟩, 5) := ⟨⟨by decide +kernel, by decide +kernel⟩, List.mem_of_getElem? (i := 268) (by decide +kernel), List.mem_of_getElem? (i := 692) (by decide +kernel), List.mem_of_getElem? (i := 693) (by decide +kernel)⟩
theorem lw_p19 : lw_okq (⟨"SecondTelling$LawReader", "placeValue", "(II)I"⟩, 5) := ⟨⟨by decide +kernel, by decide +kernel⟩, List.mem_of_getElem? (i := 268) (by decide +kernel), List.mem_of_getElem? (i := 696) (by decide +kernel), List.mem_of_getElem? (i := 697) (by decide +kernel)⟩
theorem lw_p20 : lw_okq (⟨"SecondTelling$LawReader", "lastWaiting", "()I"⟩, 5) := ⟨⟨by decide +kernel, by decide +kernel⟩, List.mem_of_getElem? (i := 268) (by decide +kernel), List.mem_of_getElem? (i := 700) (by decide +kernel), List.mem_of_getElem? (i := 701) (by decide +kernel)⟩
theorem lw_p21 : lw_okq (⟨"SecondTelling$LawReader", "waitAsKnot", "(I)I"⟩, 5) := ⟨⟨by decide +kernel, by decide +kernel⟩, List.mem_of_getElem? (i := 268) (by decide +kernel), List.mem_of_getElem? (i := 704) (by decide +kernel), List.mem_of_getElem? (i := 705) (by decide +kernel)⟩
theorem lw_p22 : lw_okq (⟨"SecondTelling$LawReader", "push", "(I)V"⟩, 5) := ⟨⟨by decide +kernel, by decide +kernel⟩, List.mem_of_getElem? (i := 268) (by decide +kernel), List.mem_of_getElem? (i := 708) (by decide +kernel), List.mem_of_getElem? (i := 709) (by decide +kernel)⟩
theorem lw_p23 : lw_okq (⟨"SecondTelling$LawReader", "takeBehindValue", "()I"⟩, 5) := ⟨⟨by decide +kernel, by decide +kernel⟩, List.mem_of_getElem? (i := 268) (by decide +kernel), List.mem_of_getElem? (i := 712) (by decide +kernel), List.mem_of_getElem? (i := 713) (by decide +kernel)⟩
theorem lw_p24 : lw_okq (⟨"SecondTelling", "isMan", "(I)Z"⟩, 16) := ⟨⟨by decide +kernel, by decide +kernel⟩, List.mem_of_getElem? (i := 25) (by decide +kernel), List.mem_of_getElem? (i := 729) (by decide +kernel), List.mem_of_getElem? (i := 730) (by decide +kernel)⟩
theorem lw_p25 : lw_okq (⟨"SecondTelling", "isThing", "(I)Z"⟩, 16) := ⟨⟨by decide +kernel, by decide +kernel⟩, List.mem_of_getElem? (i := 25) (by decide +kernel), List.mem_of_getElem? (i := 733) (by decide +kernel), List.mem_of_getElem? (i := 734) (by decide +kernel)⟩
theorem lw_p26 : lw_okq (⟨"SecondTelling", "areTwo", "(II)Z"⟩, 16) := ⟨⟨by decide +kernel, by decide +kernel⟩, List.mem_of_getElem? (i := 25) (by decide +kernel), List.mem_of_getElem? (i := 797) (by decide +kernel), List.mem_of_getElem? (i := 798) (by decide +kernel)⟩
theorem lw_p27 : lw_okq (⟨"SecondTelling$Deeds", "dropOldest", "()V"⟩, 10) := ⟨⟨by decide +kernel, by decide +kernel⟩, List.mem_of_getElem? (i := 432) (by decide +kernel), List.mem_of_getElem? (i := 805) (by decide +kernel), List.mem_of_getElem? (i := 806) (by decide +kernel)⟩
theorem lw_p28 : lw_okq (⟨"SecondTelling$Course", "seeAll", "()V"⟩, 10) := ⟨⟨by decide +kernel, by decide +kernel⟩, List.mem_of_getElem? (i := 390) (by decide +kernel), List.mem_of_getElem? (i := 864) (by decide +kernel), List.mem_of_getElem? (i := 865) (by decide +kernel)⟩
theorem lw_p29 : lw_okq (⟨"SecondTelling$Course", "passAll", "()V"⟩, 10) := ⟨⟨by decide +kernel, by decide +kernel⟩, List.mem_of_getElem? (i := 390) (by decide +kernel), List.mem_of_getElem? (i := 869) (by decide +kernel), List.mem_of_getElem? (i := 870) (by decide +kernel)⟩
theorem lw_p30 : lw_okq (⟨"SecondTelling$Course", "talks", "()Z"⟩, 10) := ⟨⟨by decide +kernel, by decide +kernel⟩, List.mem_of_getElem? (i := 390) (by decide +kernel), List.mem_of_getElem? (i := 873) (by decide +kernel), List.mem_of_getElem? (i := 874) (by decide +kernel)⟩
theorem lw_p31 : lw_okq (⟨"SecondTelling", "tryFromNow", "()V"⟩, 16) := ⟨⟨by decide +kernel, by decide +kernel⟩, List.mem_of_getElem? (i := 25) (by decide +kernel), List.mem_of_getElem? (i := 889) (by decide +kernel), List.mem_of_getElem? (i := 890) (by decide +kernel)⟩
def lw_privs_2 : List (MethodName × Nat) := [(⟨"SecondTelling$Reader", "readLaw", "()I"⟩, 8), (⟨"SecondTelling$LawReader", "settle", "(I)V"⟩, 5), (⟨"SecondTelling$LawReader", "takeValue", "()I"⟩, 5), (⟨"SecondTelling$LawReader", "placeValue", "(II)I"⟩, 5), (⟨"SecondTelling$LawReader", "lastWaiting", "()I"⟩, 5), (⟨"SecondTelling$LawReader", "waitAsKnot", "(I)I"⟩, 5), (⟨"SecondTelling$LawReader", "push", "(I)V"⟩, 5), (⟨"SecondTelling$LawReader", "takeBehindValue", "()I"⟩, 5), (⟨"SecondTelling", "isMan", "(I)Z"⟩, 16), (⟨"SecondTelling", "isThing", "(I)Z"⟩, 16), (⟨"SecondTelling", "areTwo", "(II)Z"⟩, 16), (⟨"SecondTelling$Deeds", "dropOldest", "()V"⟩, 10), (⟨"SecondTelling$Course", "seeAll", "()V"⟩, 10), (⟨"SecondTelling$Course", "passAll", "()V"⟩, 10), (⟨"SecondTelling$Course", "talks", "()Z"⟩, 10), (⟨"SecondTelling", "tryFromNow", "()V"⟩, 16)]
theorem lw_r2 : ∀ q ∈ lw_privs_2, lw_okq q := List.forall_mem_cons.mpr ⟨lw_p16, List.forall_mem_cons.mpr ⟨lw_p17, List.forall_mem_cons.mpr ⟨lw_p18, List.forall_mem_cons.mpr ⟨lw_p19, List.forall_mem_cons.mpr ⟨lw_p20, List.forall_mem_cons.mpr ⟨lw_p21, List.forall_mem_cons.mpr ⟨lw_p22, List.forall_mem_cons.mpr ⟨lw_p23, List.forall_mem_cons.mpr ⟨lw_p24, List.forall_mem_cons.mpr ⟨lw_p25, List.forall_mem_cons.mpr ⟨lw_p26, List.forall_mem_cons.mpr ⟨lw_p27, List.forall_mem_cons.mpr ⟨lw_p28, List.forall_mem_cons.mpr ⟨lw_p29, List.forall_mem_cons.mpr ⟨lw_p30, List.forall_mem_cons.mpr ⟨lw_p31, fun _ h => absurd h List.not_mem_nil⟩⟩⟩⟩⟩⟩⟩⟩⟩⟩⟩⟩⟩⟩⟩⟩
theorem lw_p32 : lw_okq (⟨"SecondTelling", "wouldFit", "(III)Z"⟩, 16) := ⟨⟨by decide +kernel, by decide +kernel⟩, List.mem_of_getElem? (i := 25) (by decide +kernel), List.mem_of_getElem? (i := 920) (by decide +kernel), List.mem_of_getElem? (i := 921) (by decide +kernel)⟩
theorem lw_p33 : lw_okq (⟨"SecondTelling", "staysNoNews", "(II)Z"⟩, 16) := ⟨⟨by decide +kernel, by decide +kernel⟩, List.mem_of_getElem? (i := 25) (by decide +kernel), List.mem_of_getElem? (i := 937) (by decide +kernel), List.mem_of_getElem? (i := 938) (by decide +kernel)⟩
theorem lw_p34 : lw_okq (⟨"SecondTelling", "reachOfAll", "(I)I"⟩, 16) := ⟨⟨by decide +kernel, by decide +kernel⟩, List.mem_of_getElem? (i := 25) (by decide +kernel), List.mem_of_getElem? (i := 949) (by decide +kernel), List.mem_of_getElem? (i := 950) (by decide +kernel)⟩
theorem lw_p35 : lw_okq (⟨"SecondTelling", "findSuitors", "()V"⟩, 16) := ⟨⟨by decide +kernel, by decide +kernel⟩, List.mem_of_getElem? (i := 25) (by decide +kernel), List.mem_of_getElem? (i := 961) (by decide +kernel), List.mem_of_getElem? (i := 962) (by decide +kernel)⟩
theorem lw_p36 : lw_okq (⟨"SecondTelling", "countMatches", "()V"⟩, 16) := ⟨⟨by decide +kernel, by decide +kernel⟩, List.mem_of_getElem? (i := 25) (by decide +kernel), List.mem_of_getElem? (i := 966) (by decide +kernel), List.mem_of_getElem? (i := 967) (by decide +kernel)⟩
theorem lw_p37 : lw_okq (⟨"SecondTelling", "choosePartners", "()I"⟩, 16) := ⟨⟨by decide +kernel, by decide +kernel⟩, List.mem_of_getElem? (i := 25) (by decide +kernel), List.mem_of_getElem? (i := 970) (by decide +kernel), List.mem_of_getElem? (i := 971) (by decide +kernel)⟩
theorem lw_p38 : lw_okq (⟨"SecondTelling", "bendingsLeft", "(I)I"⟩, 16) := ⟨⟨by decide +kernel, by decide +kernel⟩, List.mem_of_getElem? (i := 25) (by decide +kernel), List.mem_of_getElem? (i := 1020) (by decide +kernel), List.mem_of_getElem? (i := 1021) (by decide +kernel)⟩
theorem lw_p39 : lw_okq (⟨"SecondTelling", "tryFromText", "(II)V"⟩, 16) := ⟨⟨by decide +kernel, by decide +kernel⟩, List.mem_of_getElem? (i := 25) (by decide +kernel), List.mem_of_getElem? (i := 1036) (by decide +kernel), List.mem_of_getElem? (i := 1037) (by decide +kernel)⟩
theorem lw_p40 : lw_okq (⟨"SecondTelling", "workOutAnswers", "(III)V"⟩, 16) := ⟨⟨by decide +kernel, by decide +kernel⟩, List.mem_of_getElem? (i := 25) (by decide +kernel), List.mem_of_getElem? (i := 1054) (by decide +kernel), List.mem_of_getElem? (i := 1055) (by decide +kernel)⟩
theorem lw_p41 : lw_okq (⟨"SecondTelling", "worstLeft", "(II)I"⟩, 16) := ⟨⟨by decide +kernel, by decide +kernel⟩, List.mem_of_getElem? (i := 25) (by decide +kernel), List.mem_of_getElem? (i := 1058) (by decide +kernel), List.mem_of_getElem? (i := 1059) (by decide +kernel)⟩
theorem lw_p42 : lw_okq (⟨"java/lang/Throwable", "fillInStackTrace", "(I)Ljava/lang/Throwable;"⟩, 6) := ⟨⟨by decide +kernel, by decide +kernel⟩, List.mem_of_getElem? (i := 1150) (by decide +kernel), List.mem_of_getElem? (i := 1148) (by decide +kernel), List.mem_of_getElem? (i := 1149) (by decide +kernel)⟩
theorem lw_p43 : lw_okq (⟨"SecondTellingModel", "begins", "()V"⟩, 67) := ⟨⟨by decide +kernel, by decide +kernel⟩, List.mem_of_getElem? (i := 1195) (by decide +kernel), List.mem_of_getElem? (i := 1201) (by decide +kernel), List.mem_of_getElem? (i := 1202) (by decide +kernel)⟩
theorem lw_p44 : lw_okq (⟨"SecondTellingModel", "starts", "(I)V"⟩, 67) := ⟨⟨by decide +kernel, by decide +kernel⟩, List.mem_of_getElem? (i := 1195) (by decide +kernel), List.mem_of_getElem? (i := 1205) (by decide +kernel), List.mem_of_getElem? (i := 1206) (by decide +kernel)⟩
theorem lw_p45 : lw_okq (⟨"SecondTellingModel", "reads", "(II)V"⟩, 67) := ⟨⟨by decide +kernel, by decide +kernel⟩, List.mem_of_getElem? (i := 1195) (by decide +kernel), List.mem_of_getElem? (i := 1423) (by decide +kernel), List.mem_of_getElem? (i := 1424) (by decide +kernel)⟩
theorem lw_p46 : lw_okq (⟨"SecondTellingModel", "token", "()V"⟩, 67) := ⟨⟨by decide +kernel, by decide +kernel⟩, List.mem_of_getElem? (i := 1195) (by decide +kernel), List.mem_of_getElem? (i := 1427) (by decide +kernel), List.mem_of_getElem? (i := 1428) (by decide +kernel)⟩
theorem lw_p47 : lw_okq (⟨"SecondTellingModel", "here", "()I"⟩, 67) := ⟨⟨by decide +kernel, by decide +kernel⟩, List.mem_of_getElem? (i := 1195) (by decide +kernel), List.mem_of_getElem? (i := 1431) (by decide +kernel), List.mem_of_getElem? (i := 1432) (by decide +kernel)⟩
def lw_privs_3 : List (MethodName × Nat) := [(⟨"SecondTelling", "wouldFit", "(III)Z"⟩, 16), (⟨"SecondTelling", "staysNoNews", "(II)Z"⟩, 16), (⟨"SecondTelling", "reachOfAll", "(I)I"⟩, 16), (⟨"SecondTelling", "findSuitors", "()V"⟩, 16), (⟨"SecondTelling", "countMatches", "()V"⟩, 16), (⟨"SecondTelling", "choosePartners", "()I"⟩, 16), (⟨"SecondTelling", "bendingsLeft", "(I)I"⟩, 16), (⟨"SecondTelling", "tryFromText", "(II)V"⟩, 16), (⟨"SecondTelling", "workOutAnswers", "(III)V"⟩, 16), (⟨"SecondTelling", "worstLeft", "(II)I"⟩, 16), (⟨"java/lang/Throwable", "fillInStackTrace", "(I)Ljava/lang/Throwable;"⟩, 6), (⟨"SecondTellingModel", "begins", "()V"⟩, 67), (⟨"SecondTellingModel", "starts", "(I)V"⟩, 67), (⟨"SecondTellingModel", "reads", "(II)V"⟩, 67), (⟨"SecondTellingModel", "token", "()V"⟩, 67), (⟨"SecondTellingModel", "here", "()I"⟩, 67)]
theorem lw_r3 : ∀ q ∈ lw_privs_3, lw_okq q := List.forall_mem_cons.mpr ⟨lw_p32, List.forall_mem_cons.mpr ⟨lw_p33, List.forall_mem_cons.mpr ⟨lw_p34, List.forall_mem_cons.mpr ⟨lw_p35, List.forall_mem_cons.mpr ⟨lw_p36, List.forall_mem_cons.mpr ⟨lw_p37, List.forall_mem_cons.mpr ⟨lw_p38, List.forall_mem_cons.mpr ⟨lw_p39, List.forall_mem_cons.mpr ⟨lw_p40, List.forall_mem_cons.mpr ⟨lw_p41, List.forall_mem_cons.mpr ⟨lw_p42, List.forall_mem_cons.mpr ⟨lw_p43, List.forall_mem_cons.mpr ⟨lw_p44, List.forall_mem_cons.mpr ⟨lw_p45, List.forall_mem_cons.mpr ⟨lw_p46, List.forall_mem_cons.mpr ⟨lw_p47, fun _ h => absurd h List.not_mem_nil⟩⟩⟩⟩⟩⟩⟩⟩⟩⟩⟩⟩⟩⟩⟩⟩
theorem lw_p48 : lw_okq (⟨"SecondTellingModel", "word", "()I"⟩, 67) := ⟨⟨by decide +kernel, by decide +kernel⟩, List.mem_of_getElem? (i := 1195) (by decide +kernel), List.mem_of_getElem? (i := 1438) (by decide +kernel), List.mem_of_getElem? (i := 1439) (by decide +kernel)⟩
theorem lw_p49 : lw_okq (⟨"SecondTellingModel", "name", "()V"⟩, 67) := ⟨⟨by decide +kernel, by decide +kernel⟩, List.mem_of_getElem? (i := 1195) (by decide +kernel), List.mem_of_getElem? (i := 1445) (by decide +kernel), List.mem_of_getElem? (i := 1446) (by decide +kernel)⟩
theorem lw_p50 : lw_okq (⟨"SecondTellingModel", "sign", "(I)V"⟩, 67) := ⟨⟨by decide +kernel, by decide +kernel⟩, List.mem_of_getElem? (i := 1195) (by decide +kernel), List.mem_of_getElem? (i := 1453) (by decide +kernel), List.mem_of_getElem? (i := 1454) (by decide +kernel)⟩
theorem lw_p51 : lw_okq (⟨"SecondTellingModel", "line", "()V"⟩, 67) := ⟨⟨by decide +kernel, by decide +kernel⟩, List.mem_of_getElem? (i := 1195) (by decide +kernel), List.mem_of_getElem? (i := 1457) (by decide +kernel), List.mem_of_getElem? (i := 1458) (by decide +kernel)⟩
theorem lw_p52 : lw_okq (⟨"SecondTellingModel", "wrong", "(I)V"⟩, 67) := ⟨⟨by decide +kernel, by decide +kernel⟩, List.mem_of_getElem? (i := 1195) (by decide +kernel), List.mem_of_getElem? (i := 1461) (by decide +kernel), List.mem_of_getElem? (i := 1462) (by decide +kernel)⟩
theorem lw_p53 : lw_okq (⟨"SecondTellingModel", "isFull", "(I)Z"⟩, 67) := ⟨⟨by decide +kernel, by decide +kernel⟩, List.mem_of_getElem? (i := 1195) (by decide +kernel), List.mem_of_getElem? (i := 1465) (by decide +kernel), List.mem_of_getElem? (i := 1466) (by decide +kernel)⟩
theorem lw_p54 : lw_okq (⟨"SecondTellingModel", "fresher", "(I)I"⟩, 67) := ⟨⟨by decide +kernel, by decide +kernel⟩, List.mem_of_getElem? (i := 1195) (by decide +kernel), List.mem_of_getElem? (i := 1469) (by decide +kernel), List.mem_of_getElem? (i := 1470) (by decide +kernel)⟩
theorem lw_p55 : lw_okq (⟨"SecondTellingModel", "fresh", "([III)I"⟩, 67) := ⟨⟨by decide +kernel, by decide +kernel⟩, List.mem_of_getElem? (i := 1195) (by decide +kernel), List.mem_of_getElem? (i := 1473) (by decide +kernel), List.mem_of_getElem? (i := 1474) (by decide +kernel)⟩
theorem lw_p56 : lw_okq (⟨"SecondTellingModel", "numeral", "(II)I"⟩, 67) := ⟨⟨by decide +kernel, by decide +kernel⟩, List.mem_of_getElem? (i := 1195) (by decide +kernel), List.mem_of_getElem? (i := 1480) (by decide +kernel), List.mem_of_getElem? (i := 1481) (by decide +kernel)⟩
theorem lw_p57 : lw_okq (⟨"SecondTellingModel", "seesLine", "()V"⟩, 67) := ⟨⟨by decide +kernel, by decide +kernel⟩, List.mem_of_getElem? (i := 1195) (by decide +kernel), List.mem_of_getElem? (i := 1484) (by decide +kernel), List.mem_of_getElem? (i := 1485) (by decide +kernel)⟩
theorem lw_p58 : lw_okq (⟨"SecondTellingModel", "manAhead", "()I"⟩, 67) := ⟨⟨by decide +kernel, by decide +kernel⟩, List.mem_of_getElem? (i := 1195) (by decide +kernel), List.mem_of_getElem? (i := 1488) (by decide +kernel), List.mem_of_getElem? (i := 1489) (by decide +kernel)⟩
theorem lw_p59 : lw_okq (⟨"SecondTellingModel", "manAtHand", "()I"⟩, 67) := ⟨⟨by decide +kernel, by decide +kernel⟩, List.mem_of_getElem? (i := 1195) (by decide +kernel), List.mem_of_getElem? (i := 1492) (by decide +kernel), List.mem_of_getElem? (i := 1493) (by decide +kernel)⟩
theorem lw_p60 : lw_okq (⟨"SecondTellingModel", "atHand", "([III)I"⟩, 67) := ⟨⟨by decide +kernel, by decide +kernel⟩, List.mem_of_getElem? (i := 1195) (by decide +kernel), List.mem_of_getElem? (i := 1496) (by decide +kernel), List.mem_of_getElem? (i := 1497) (by decide +kernel)⟩
theorem lw_p61 : lw_okq (⟨"SecondTellingModel", "goOn", "()V"⟩, 67) := ⟨⟨by decide +kernel, by decide +kernel⟩, List.mem_of_getElem? (i := 1195) (by decide +kernel), List.mem_of_getElem? (i := 1500) (by decide +kernel), List.mem_of_getElem? (i := 1501) (by decide +kernel)⟩
theorem lw_p62 : lw_okq (⟨"SecondTellingModel", "thingAhead", "()I"⟩, 67) := ⟨⟨by decide +kernel, by decide +kernel⟩, List.mem_of_getElem? (i := 1195) (by decide +kernel), List.mem_of_getElem? (i := 1504) (by decide +kernel), List.mem_of_getElem? (i := 1505) (by decide +kernel)⟩
theorem lw_p63 : lw_okq (⟨"SecondTellingModel", "lawLine", "()V"⟩, 67) := ⟨⟨by decide +kernel, by decide +kernel⟩, List.mem_of_getElem? (i := 1195) (by decide +kernel), List.mem_of_getElem? (i := 1508) (by decide +kernel), List.mem_of_getElem? (i := 1509) (by decide +kernel)⟩
def lw_privs_4 : List (MethodName × Nat) := [(⟨"SecondTellingModel", "word", "()I"⟩, 67), (⟨"SecondTellingModel", "name", "()V"⟩, 67), (⟨"SecondTellingModel", "sign", "(I)V"⟩, 67), (⟨"SecondTellingModel", "line", "()V"⟩, 67), (⟨"SecondTellingModel", "wrong", "(I)V"⟩, 67), (⟨"SecondTellingModel", "isFull", "(I)Z"⟩, 67), (⟨"SecondTellingModel", "fresher", "(I)I"⟩, 67), (⟨"SecondTellingModel", "fresh", "([III)I"⟩, 67), (⟨"SecondTellingModel", "numeral", "(II)I"⟩, 67), (⟨"SecondTellingModel", "seesLine", "()V"⟩, 67), (⟨"SecondTellingModel", "manAhead", "()I"⟩, 67), (⟨"SecondTellingModel", "manAtHand", "()I"⟩, 67), (⟨"SecondTellingModel", "atHand", "([III)I"⟩, 67), (⟨"SecondTellingModel", "goOn", "()V"⟩, 67), (⟨"SecondTellingModel", "thingAhead", "()I"⟩, 67), (⟨"SecondTellingModel", "lawLine", "()V"⟩, 67)]
theorem lw_r4 : ∀ q ∈ lw_privs_4, lw_okq q := List.forall_mem_cons.mpr ⟨lw_p48, List.forall_mem_cons.mpr ⟨lw_p49, List.forall_mem_cons.mpr ⟨lw_p50, List.forall_mem_cons.mpr ⟨lw_p51, List.forall_mem_cons.mpr ⟨lw_p52, List.forall_mem_cons.mpr ⟨lw_p53, List.forall_mem_cons.mpr ⟨lw_p54, List.forall_mem_cons.mpr ⟨lw_p55, List.forall_mem_cons.mpr ⟨lw_p56, List.forall_mem_cons.mpr ⟨lw_p57, List.forall_mem_cons.mpr ⟨lw_p58, List.forall_mem_cons.mpr ⟨lw_p59, List.forall_mem_cons.mpr ⟨lw_p60, List.forall_mem_cons.mpr ⟨lw_p61, List.forall_mem_cons.mpr ⟨lw_p62, List.forall_mem_cons.mpr ⟨lw_p63, fun _ h => absurd h List.not_mem_nil⟩⟩⟩⟩⟩⟩⟩⟩⟩⟩⟩⟩⟩⟩⟩⟩
theorem lw_p64 : lw_okq (⟨"SecondTellingModel", "expression", "()V"⟩, 67) := ⟨⟨by decide +kernel, by decide +kernel⟩, List.mem_of_getElem? (i := 1195) (by decide +kernel), List.mem_of_getElem? (i := 1512) (by decide +kernel), List.mem_of_getElem? (i := 1513) (by decide +kernel)⟩
theorem lw_p65 : lw_okq (⟨"SecondTellingModel", "conjunction", "()V"⟩, 67) := ⟨⟨by decide +kernel, by decide +kernel⟩, List.mem_of_getElem? (i := 1195) (by decide +kernel), List.mem_of_getElem? (i := 1516) (by decide +kernel), List.mem_of_getElem? (i := 1517) (by decide +kernel)⟩
theorem lw_p66 : lw_okq (⟨"SecondTellingModel", "negation", "()V"⟩, 67) := ⟨⟨by decide +kernel, by decide +kernel⟩, List.mem_of_getElem? (i := 1195) (by decide +kernel), List.mem_of_getElem? (i := 1520) (by decide +kernel), List.mem_of_getElem? (i := 1521) (by decide +kernel)⟩
theorem lw_p67 : lw_okq (⟨"SecondTellingModel", "isWord", "(I)Z"⟩, 67) := ⟨⟨by decide +kernel, by decide +kernel⟩, List.mem_of_getElem? (i := 1195) (by decide +kernel), List.mem_of_getElem? (i := 1524) (by decide +kernel), List.mem_of_getElem? (i := 1525) (by decide +kernel)⟩
theorem lw_p68 : lw_okq (⟨"SecondTellingModel", "knot", "()V"⟩, 67) := ⟨⟨by decide +kernel, by decide +kernel⟩, List.mem_of_getElem? (i := 1195) (by decide +kernel), List.mem_of_getElem? (i := 1528) (by decide +kernel), List.mem_of_getElem? (i := 1529) (by decide +kernel)⟩
theorem lw_p69 : lw_okq (⟨"SecondTellingModel", "puts", "(II)V"⟩, 67) := ⟨⟨by decide +kernel, by decide +kernel⟩, List.mem_of_getElem? (i := 1195) (by decide +kernel), List.mem_of_getElem? (i := 1532) (by decide +kernel), List.mem_of_getElem? (i := 1533) (by decide +kernel)⟩
theorem lw_p70 : lw_okq (⟨"SecondTellingModel", "sum", "()V"⟩, 67) := ⟨⟨by decide +kernel, by decide +kernel⟩, List.mem_of_getElem? (i := 1195) (by decide +kernel), List.mem_of_getElem? (i := 1536) (by decide +kernel), List.mem_of_getElem? (i := 1537) (by decide +kernel)⟩
theorem lw_p71 : lw_okq (⟨"SecondTellingModel", "product", "()V"⟩, 67) := ⟨⟨by decide +kernel, by decide +kernel⟩, List.mem_of_getElem? (i := 1195) (by decide +kernel), List.mem_of_getElem? (i := 1540) (by decide +kernel), List.mem_of_getElem? (i := 1541) (by decide +kernel)⟩
theorem lw_p72 : lw_okq (⟨"SecondTellingModel", "primary", "()V"⟩, 67) := ⟨⟨by decide +kernel, by decide +kernel⟩, List.mem_of_getElem? (i := 1195) (by decide +kernel), List.mem_of_getElem? (i := 1544) (by decide +kernel), List.mem_of_getElem? (i := 1545) (by decide +kernel)⟩
theorem lw_p73 : lw_okq (⟨"SecondTellingModel", "isSign", "(I)Z"⟩, 67) := ⟨⟨by decide +kernel, by decide +kernel⟩, List.mem_of_getElem? (i := 1195) (by decide +kernel), List.mem_of_getElem? (i := 1548) (by decide +kernel), List.mem_of_getElem? (i := 1549) (by decide +kernel)⟩
theorem lw_p74 : lw_okq (⟨"SecondTellingModel", "isThing", "(I)Z"⟩, 67) := ⟨⟨by decide +kernel, by decide +kernel⟩, List.mem_of_getElem? (i := 1195) (by decide +kernel), List.mem_of_getElem? (i := 1567) (by decide +kernel), List.mem_of_getElem? (i := 1568) (by decide +kernel)⟩
theorem lw_p75 : lw_okq (⟨"SecondTellingModel", "whoHas", "(II)I"⟩, 67) := ⟨⟨by decide +kernel, by decide +kernel⟩, List.mem_of_getElem? (i := 1195) (by decide +kernel), List.mem_of_getElem? (i := 1571) (by decide +kernel), List.mem_of_getElem? (i := 1572) (by decide +kernel)⟩
theorem lw_p76 : lw_okq (⟨"SecondTellingModel", "doesHave", "(III)Z"⟩, 67) := ⟨⟨by decide +kernel, by decide +kernel⟩, List.mem_of_getElem? (i := 1195) (by decide +kernel), List.mem_of_getElem? (i := 1575) (by decide +kernel), List.mem_of_getElem? (i := 1576) (by decide +kernel)⟩
theorem lw_p77 : lw_okq (⟨"SecondTellingModel", "whoPrinted", "(II)I"⟩, 67) := ⟨⟨by decide +kernel, by decide +kernel⟩, List.mem_of_getElem? (i := 1195) (by decide +kernel), List.mem_of_getElem? (i := 1582) (by decide +kernel), List.mem_of_getElem? (i := 1583) (by decide +kernel)⟩
theorem lw_p78 : lw_okq (⟨"SecondTellingModel", "isPrinted", "(III)Z"⟩, 67) := ⟨⟨by decide +kernel, by decide +kernel⟩, List.mem_of_getElem? (i := 1195) (by decide +kernel), List.mem_of_getElem? (i := 1586) (by decide +kernel), List.mem_of_getElem? (i := 1587) (by decide +kernel)⟩
theorem lw_p79 : lw_okq (⟨"SecondTellingModel", "isMan", "(I)Z"⟩, 67) := ⟨⟨by decide +kernel, by decide +kernel⟩, List.mem_of_getElem? (i := 1195) (by decide +kernel), List.mem_of_getElem? (i := 1594) (by decide +kernel), List.mem_of_getElem? (i := 1595) (by decide +kernel)⟩
def lw_privs_5 : List (MethodName × Nat) := [(⟨"SecondTellingModel", "expression", "()V"⟩, 67), (⟨"SecondTellingModel", "conjunction", "()V"⟩, 67), (⟨"SecondTellingModel", "negation", "()V"⟩, 67), (⟨"SecondTellingModel", "isWord", "(I)Z"⟩, 67), (⟨"SecondTellingModel", "knot", "()V"⟩, 67), (⟨"SecondTellingModel", "puts", "(II)V"⟩, 67), (⟨"SecondTellingModel", "sum", "()V"⟩, 67), (⟨"SecondTellingModel", "product", "()V"⟩, 67), (⟨"SecondTellingModel", "primary", "()V"⟩, 67), (⟨"SecondTellingModel", "isSign", "(I)Z"⟩, 67), (⟨"SecondTellingModel", "isThing", "(I)Z"⟩, 67), (⟨"SecondTellingModel", "whoHas", "(II)I"⟩, 67), (⟨"SecondTellingModel", "doesHave", "(III)Z"⟩, 67), (⟨"SecondTellingModel", "whoPrinted", "(II)I"⟩, 67), (⟨"SecondTellingModel", "isPrinted", "(III)Z"⟩, 67), (⟨"SecondTellingModel", "isMan", "(I)Z"⟩, 67)]
theorem lw_r5 : ∀ q ∈ lw_privs_5, lw_okq q := List.forall_mem_cons.mpr ⟨lw_p64, List.forall_mem_cons.mpr ⟨lw_p65, List.forall_mem_cons.mpr ⟨lw_p66, List.forall_mem_cons.mpr ⟨lw_p67, List.forall_mem_cons.mpr ⟨lw_p68, List.forall_mem_cons.mpr ⟨lw_p69, List.forall_mem_cons.mpr ⟨lw_p70, List.forall_mem_cons.mpr ⟨lw_p71, List.forall_mem_cons.mpr ⟨lw_p72, List.forall_mem_cons.mpr ⟨lw_p73, List.forall_mem_cons.mpr ⟨lw_p74, List.forall_mem_cons.mpr ⟨lw_p75, List.forall_mem_cons.mpr ⟨lw_p76, List.forall_mem_cons.mpr ⟨lw_p77, List.forall_mem_cons.mpr ⟨lw_p78, List.forall_mem_cons.mpr ⟨lw_p79, fun _ h => absurd h List.not_mem_nil⟩⟩⟩⟩⟩⟩⟩⟩⟩⟩⟩⟩⟩⟩⟩⟩
theorem lw_p80 : lw_okq (⟨"SecondTellingModel", "chainOf", "(III)I"⟩, 67) := ⟨⟨by decide +kernel, by decide +kernel⟩, List.mem_of_getElem? (i := 1195) (by decide +kernel), List.mem_of_getElem? (i := 1598) (by decide +kernel), List.mem_of_getElem? (i := 1599) (by decide +kernel)⟩
theorem lw_p81 : lw_okq (⟨"SecondTellingModel", "hasLaw", "(I)Z"⟩, 67) := ⟨⟨by decide +kernel, by decide +kernel⟩, List.mem_of_getElem? (i := 1195) (by decide +kernel), List.mem_of_getElem? (i := 1610) (by decide +kernel), List.mem_of_getElem? (i := 1611) (by decide +kernel)⟩
theorem lw_p82 : lw_okq (⟨"SecondTellingModel", "calls", "(IIII)V"⟩, 67) := ⟨⟨by decide +kernel, by decide +kernel⟩, List.mem_of_getElem? (i := 1195) (by decide +kernel), List.mem_of_getElem? (i := 1615) (by decide +kernel), List.mem_of_getElem? (i := 1616) (by decide +kernel)⟩
theorem lw_p83 : lw_okq (⟨"SecondTellingModel", "bentOf", "(I)I"⟩, 67) := ⟨⟨by decide +kernel, by decide +kernel⟩, List.mem_of_getElem? (i := 1195) (by decide +kernel), List.mem_of_getElem? (i := 1619) (by decide +kernel), List.mem_of_getElem? (i := 1620) (by decide +kernel)⟩
theorem lw_p84 : lw_okq (⟨"SecondTellingModel", "goes", "(I)Z"⟩, 67) := ⟨⟨by decide +kernel, by decide +kernel⟩, List.mem_of_getElem? (i := 1195) (by decide +kernel), List.mem_of_getElem? (i := 1629) (by decide +kernel), List.mem_of_getElem? (i := 1630) (by decide +kernel)⟩
theorem lw_p85 : lw_okq (⟨"SecondTellingModel", "works", "(I)Z"⟩, 67) := ⟨⟨by decide +kernel, by decide +kernel⟩, List.mem_of_getElem? (i := 1195) (by decide +kernel), List.mem_of_getElem? (i := 1633) (by decide +kernel), List.mem_of_getElem? (i := 1634) (by decide +kernel)⟩
theorem lw_p86 : lw_okq (⟨"SecondTellingModel", "keepNow", "()V"⟩, 67) := ⟨⟨by decide +kernel, by decide +kernel⟩, List.mem_of_getElem? (i := 1195) (by decide +kernel), List.mem_of_getElem? (i := 1649) (by decide +kernel), List.mem_of_getElem? (i := 1650) (by decide +kernel)⟩
theorem lw_p87 : lw_okq (⟨"SecondTellingModel", "copies", "(II)V"⟩, 67) := ⟨⟨by decide +kernel, by decide +kernel⟩, List.mem_of_getElem? (i := 1195) (by decide +kernel), List.mem_of_getElem? (i := 1653) (by decide +kernel), List.mem_of_getElem? (i := 1654) (by decide +kernel)⟩
theorem lw_p88 : lw_okq (⟨"SecondTellingModel", "hearsNow", "(IIII)V"⟩, 67) := ⟨⟨by decide +kernel, by decide +kernel⟩, List.mem_of_getElem? (i := 1195) (by decide +kernel), List.mem_of_getElem? (i := 1657) (by decide +kernel), List.mem_of_getElem? (i := 1658) (by decide +kernel)⟩
theorem lw_p89 : lw_okq (⟨"SecondTellingModel", "changed", "(III)I"⟩, 67) := ⟨⟨by decide +kernel, by decide +kernel⟩, List.mem_of_getElem? (i := 1195) (by decide +kernel), List.mem_of_getElem? (i := 1661) (by decide +kernel), List.mem_of_getElem? (i := 1662) (by decide +kernel)⟩
theorem lw_p90 : lw_okq (⟨"SecondTellingModel", "within", "(III)I"⟩, 67) := ⟨⟨by decide +kernel, by decide +kernel⟩, List.mem_of_getElem? (i := 1195) (by decide +kernel), List.mem_of_getElem? (i := 1665) (by decide +kernel), List.mem_of_getElem? (i := 1666) (by decide +kernel)⟩
theorem lw_p91 : lw_okq (⟨"SecondTellingModel", "tells", "(III)Z"⟩, 67) := ⟨⟨by decide +kernel, by decide +kernel⟩, List.mem_of_getElem? (i := 1195) (by decide +kernel), List.mem_of_getElem? (i := 1679) (by decide +kernel), List.mem_of_getElem? (i := 1680) (by decide +kernel)⟩
theorem lw_p92 : lw_okq (⟨"SecondTellingModel", "isNews", "(II)Z"⟩, 67) := ⟨⟨by decide +kernel, by decide +kernel⟩, List.mem_of_getElem? (i := 1195) (by decide +kernel), List.mem_of_getElem? (i := 1683) (by decide +kernel), List.mem_of_getElem? (i := 1684) (by decide +kernel)⟩
theorem lw_p93 : lw_okq (⟨"SecondTellingModel", "firstFit", "(III)I"⟩, 67) := ⟨⟨by decide +kernel, by decide +kernel⟩, List.mem_of_getElem? (i := 1195) (by decide +kernel), List.mem_of_getElem? (i := 1687) (by decide +kernel), List.mem_of_getElem? (i := 1688) (by decide +kernel)⟩
theorem lw_p94 : lw_okq (⟨"SecondTellingModel", "doesFit", "(IIIII)Z"⟩, 67) := ⟨⟨by decide +kernel, by decide +kernel⟩, List.mem_of_getElem? (i := 1195) (by decide +kernel), List.mem_of_getElem? (i := 1691) (by decide +kernel), List.mem_of_getElem? (i := 1692) (by decide +kernel)⟩
theorem lw_p95 : lw_okq (⟨"SecondTellingModel", "passes", "(IZ)V"⟩, 67) := ⟨⟨by decide +kernel, by decide +kernel⟩, List.mem_of_getElem? (i := 1195) (by decide +kernel), List.mem_of_getElem? (i := 1706) (by decide +kernel), List.mem_of_getElem? (i := 1707) (by decide +kernel)⟩
def lw_privs_6 : List (MethodName × Nat) := [(⟨"SecondTellingModel", "chainOf", "(III)I"⟩, 67), (⟨"SecondTellingModel", "hasLaw", "(I)Z"⟩, 67), (⟨"SecondTellingModel", "calls", "(IIII)V"⟩, 67), (⟨"SecondTellingModel", "bentOf", "(I)I"⟩, 67), (⟨"SecondTellingModel", "goes", "(I)Z"⟩, 67), (⟨"SecondTellingModel", "works", "(I)Z"⟩, 67), (⟨"SecondTellingModel", "keepNow", "()V"⟩, 67), (⟨"SecondTellingModel", "copies", "(II)V"⟩, 67), (⟨"SecondTellingModel", "hearsNow", "(IIII)V"⟩, 67), (⟨"SecondTellingModel", "changed", "(III)I"⟩, 67), (⟨"SecondTellingModel", "within", "(III)I"⟩, 67), (⟨"SecondTellingModel", "tells", "(III)Z"⟩, 67), (⟨"SecondTellingModel", "isNews", "(II)Z"⟩, 67), (⟨"SecondTellingModel", "firstFit", "(III)I"⟩, 67), (⟨"SecondTellingModel", "doesFit", "(IIIII)Z"⟩, 67), (⟨"SecondTellingModel", "passes", "(IZ)V"⟩, 67)]
theorem lw_r6 : ∀ q ∈ lw_privs_6, lw_okq q := List.forall_mem_cons.mpr ⟨lw_p80, List.forall_mem_cons.mpr ⟨lw_p81, List.forall_mem_cons.mpr ⟨lw_p82, List.forall_mem_cons.mpr ⟨lw_p83, List.forall_mem_cons.mpr ⟨lw_p84, List.forall_mem_cons.mpr ⟨lw_p85, List.forall_mem_cons.mpr ⟨lw_p86, List.forall_mem_cons.mpr ⟨lw_p87, List.forall_mem_cons.mpr ⟨lw_p88, List.forall_mem_cons.mpr ⟨lw_p89, List.forall_mem_cons.mpr ⟨lw_p90, List.forall_mem_cons.mpr ⟨lw_p91, List.forall_mem_cons.mpr ⟨lw_p92, List.forall_mem_cons.mpr ⟨lw_p93, List.forall_mem_cons.mpr ⟨lw_p94, List.forall_mem_cons.mpr ⟨lw_p95, fun _ h => absurd h List.not_mem_nil⟩⟩⟩⟩⟩⟩⟩⟩⟩⟩⟩⟩⟩⟩⟩⟩
theorem lw_p96 : lw_okq (⟨"SecondTellingModel", "talks", "(IIZ)V"⟩, 67) := ⟨⟨by decide +kernel, by decide +kernel⟩, List.mem_of_getElem? (i := 1195) (by decide +kernel), List.mem_of_getElem? (i := 1710) (by decide +kernel), List.mem_of_getElem? (i := 1711) (by decide +kernel)⟩
theorem lw_p97 : lw_okq (⟨"SecondTellingModel", "isShut", "(I)Z"⟩, 67) := ⟨⟨by decide +kernel, by decide +kernel⟩, List.mem_of_getElem? (i := 1195) (by decide +kernel), List.mem_of_getElem? (i := 1714) (by decide +kernel), List.mem_of_getElem? (i := 1715) (by decide +kernel)⟩
theorem lw_p98 : lw_okq (⟨"SecondTellingModel", "doesTalk", "(IZ)Z"⟩, 67) := ⟨⟨by decide +kernel, by decide +kernel⟩, List.mem_of_getElem? (i := 1195) (by decide +kernel), List.mem_of_getElem? (i := 1718) (by decide +kernel), List.mem_of_getElem? (i := 1719) (by decide +kernel)⟩
theorem lw_p99 : lw_okq (⟨"SecondTellingModel", "goesOn", "(I)V"⟩, 67) := ⟨⟨by decide +kernel, by decide +kernel⟩, List.mem_of_getElem? (i := 1195) (by decide +kernel), List.mem_of_getElem? (i := 1728) (by decide +kernel), List.mem_of_getElem? (i := 1729) (by decide +kernel)⟩
theorem lw_p100 : lw_okq (⟨"SecondTellingModel", "newsMany", "(I)I"⟩, 67) := ⟨⟨by decide +kernel, by decide +kernel⟩, List.mem_of_getElem? (i := 1195) (by decide +kernel), List.mem_of_getElem? (i := 1732) (by decide +kernel), List.mem_of_getElem? (i := 1733) (by decide +kernel)⟩
theorem lw_p101 : lw_okq (⟨"SecondTellingModel", "areTwo", "(III)Z"⟩, 67) := ⟨⟨by decide +kernel, by decide +kernel⟩, List.mem_of_getElem? (i := 1195) (by decide +kernel), List.mem_of_getElem? (i := 1748) (by decide +kernel), List.mem_of_getElem? (i := 1749) (by decide +kernel)⟩
theorem lw_p102 : lw_okq (⟨"SecondTellingModel", "doPair", "(III)Z"⟩, 67) := ⟨⟨by decide +kernel, by decide +kernel⟩, List.mem_of_getElem? (i := 1195) (by decide +kernel), List.mem_of_getElem? (i := 1756) (by decide +kernel), List.mem_of_getElem? (i := 1757) (by decide +kernel)⟩
theorem lw_p103 : lw_okq (⟨"SecondTellingModel", "reachOf", "(I)I"⟩, 67) := ⟨⟨by decide +kernel, by decide +kernel⟩, List.mem_of_getElem? (i := 1195) (by decide +kernel), List.mem_of_getElem? (i := 1767) (by decide +kernel), List.mem_of_getElem? (i := 1768) (by decide +kernel)⟩
theorem lw_p104 : lw_okq (⟨"SecondTellingModel", "doesHush", "(II)Z"⟩, 67) := ⟨⟨by decide +kernel, by decide +kernel⟩, List.mem_of_getElem? (i := 1195) (by decide +kernel), List.mem_of_getElem? (i := 1775) (by decide +kernel), List.mem_of_getElem? (i := 1776) (by decide +kernel)⟩
theorem lw_p105 : lw_okq (⟨"SecondTellingModel", "matches", "(III)V"⟩, 67) := ⟨⟨by decide +kernel, by decide +kernel⟩, List.mem_of_getElem? (i := 1195) (by decide +kernel), List.mem_of_getElem? (i := 1791) (by decide +kernel), List.mem_of_getElem? (i := 1792) (by decide +kernel)⟩
theorem lw_p106 : lw_okq (⟨"SecondTellingModel", "restOf", "(IIII)I"⟩, 67) := ⟨⟨by decide +kernel, by decide +kernel⟩, List.mem_of_getElem? (i := 1195) (by decide +kernel), List.mem_of_getElem? (i := 1799) (by decide +kernel), List.mem_of_getElem? (i := 1800) (by decide +kernel)⟩
theorem lw_p107 : lw_okq (⟨"SecondTellingModel", "isRest", "(ZI)Z"⟩, 67) := ⟨⟨by decide +kernel, by decide +kernel⟩, List.mem_of_getElem? (i := 1195) (by decide +kernel), List.mem_of_getElem? (i := 1803) (by decide +kernel), List.mem_of_getElem? (i := 1804) (by decide +kernel)⟩
theorem lw_p108 : lw_okq (⟨"SecondTellingModel", "hasOf", "(ZII)I"⟩, 67) := ⟨⟨by decide +kernel, by decide +kernel⟩, List.mem_of_getElem? (i := 1195) (by decide +kernel), List.mem_of_getElem? (i := 1807) (by decide +kernel), List.mem_of_getElem? (i := 1808) (by decide +kernel)⟩
theorem lw_p109 : lw_okq (⟨"SecondTellingModel", "bentsOf", "(I)I"⟩, 67) := ⟨⟨by decide +kernel, by decide +kernel⟩, List.mem_of_getElem? (i := 1195) (by decide +kernel), List.mem_of_getElem? (i := 1840) (by decide +kernel), List.mem_of_getElem? (i := 1841) (by decide +kernel)⟩
theorem lw_p110 : lw_okq (⟨"SecondTellingModel", "knownMany", "()I"⟩, 67) := ⟨⟨by decide +kernel, by decide +kernel⟩, List.mem_of_getElem? (i := 1195) (by decide +kernel), List.mem_of_getElem? (i := 1844) (by decide +kernel), List.mem_of_getElem? (i := 1845) (by decide +kernel)⟩
theorem lw_p111 : lw_okq (⟨"SecondTellingModel", "fitsBent", "(I)Z"⟩, 67) := ⟨⟨by decide +kernel, by decide +kernel⟩, List.mem_of_getElem? (i := 1195) (by decide +kernel), List.mem_of_getElem? (i := 1848) (by decide +kernel), List.mem_of_getElem? (i := 1849) (by decide +kernel)⟩
def lw_privs_7 : List (MethodName × Nat) := [(⟨"SecondTellingModel", "talks", "(IIZ)V"⟩, 67), (⟨"SecondTellingModel", "isShut", "(I)Z"⟩, 67), (⟨"SecondTellingModel", "doesTalk", "(IZ)Z"⟩, 67), (⟨"SecondTellingModel", "goesOn", "(I)V"⟩, 67), (⟨"SecondTellingModel", "newsMany", "(I)I"⟩, 67), (⟨"SecondTellingModel", "areTwo", "(III)Z"⟩, 67), (⟨"SecondTellingModel", "doPair", "(III)Z"⟩, 67), (⟨"SecondTellingModel", "reachOf", "(I)I"⟩, 67), (⟨"SecondTellingModel", "doesHush", "(II)Z"⟩, 67), (⟨"SecondTellingModel", "matches", "(III)V"⟩, 67), (⟨"SecondTellingModel", "restOf", "(IIII)I"⟩, 67), (⟨"SecondTellingModel", "isRest", "(ZI)Z"⟩, 67), (⟨"SecondTellingModel", "hasOf", "(ZII)I"⟩, 67), (⟨"SecondTellingModel", "bentsOf", "(I)I"⟩, 67), (⟨"SecondTellingModel", "knownMany", "()I"⟩, 67), (⟨"SecondTellingModel", "fitsBent", "(I)Z"⟩, 67)]
theorem lw_r7 : ∀ q ∈ lw_privs_7, lw_okq q := List.forall_mem_cons.mpr ⟨lw_p96, List.forall_mem_cons.mpr ⟨lw_p97, List.forall_mem_cons.mpr ⟨lw_p98, List.forall_mem_cons.mpr ⟨lw_p99, List.forall_mem_cons.mpr ⟨lw_p100, List.forall_mem_cons.mpr ⟨lw_p101, List.forall_mem_cons.mpr ⟨lw_p102, List.forall_mem_cons.mpr ⟨lw_p103, List.forall_mem_cons.mpr ⟨lw_p104, List.forall_mem_cons.mpr ⟨lw_p105, List.forall_mem_cons.mpr ⟨lw_p106, List.forall_mem_cons.mpr ⟨lw_p107, List.forall_mem_cons.mpr ⟨lw_p108, List.forall_mem_cons.mpr ⟨lw_p109, List.forall_mem_cons.mpr ⟨lw_p110, List.forall_mem_cons.mpr ⟨lw_p111, fun _ h => absurd h List.not_mem_nil⟩⟩⟩⟩⟩⟩⟩⟩⟩⟩⟩⟩⟩⟩⟩⟩
theorem lw_p112 : lw_okq (⟨"SecondTellingModel", "isSo", "(I)Z"⟩, 67) := ⟨⟨by decide +kernel, by decide +kernel⟩, List.mem_of_getElem? (i := 1195) (by decide +kernel), List.mem_of_getElem? (i := 1852) (by decide +kernel), List.mem_of_getElem? (i := 1853) (by decide +kernel)⟩
theorem lw_p113 : lw_okq (⟨"SecondTellingModel", "worstOf", "(II)I"⟩, 67) := ⟨⟨by decide +kernel, by decide +kernel⟩, List.mem_of_getElem? (i := 1195) (by decide +kernel), List.mem_of_getElem? (i := 1860) (by decide +kernel), List.mem_of_getElem? (i := 1861) (by decide +kernel)⟩
theorem lw_p114 : lw_okq (⟨"SecondTellingModel", "allOf", "(Z)I"⟩, 67) := ⟨⟨by decide +kernel, by decide +kernel⟩, List.mem_of_getElem? (i := 1195) (by decide +kernel), List.mem_of_getElem? (i := 1888) (by decide +kernel), List.mem_of_getElem? (i := 1889) (by decide +kernel)⟩
def lw_privs_8 : List (MethodName × Nat) := [(⟨"SecondTellingModel", "isSo", "(I)Z"⟩, 67), (⟨"SecondTellingModel", "worstOf", "(II)I"⟩, 67), (⟨"SecondTellingModel", "allOf", "(Z)I"⟩, 67)]
theorem lw_r8 : ∀ q ∈ lw_privs_8, lw_okq q := List.forall_mem_cons.mpr ⟨lw_p112, List.forall_mem_cons.mpr ⟨lw_p113, List.forall_mem_cons.mpr ⟨lw_p114, fun _ h => absurd h List.not_mem_nil⟩⟩⟩
def lw_privs : List (MethodName × Nat) := lw_privs_1 ++ (lw_privs_2 ++ (lw_privs_3 ++ (lw_privs_4 ++ (lw_privs_5 ++ (lw_privs_6 ++ (lw_privs_7 ++ (lw_privs_8)))))))
def lw_tbl : List Cond := k2_sels lw_privs ++ tables_1
theorem lw_privs_ok : ∀ q ∈ lw_privs, lw_okq q := by
  show ∀ q ∈ lw_privs_1 ++ (lw_privs_2 ++ (lw_privs_3 ++ (lw_privs_4 ++ (lw_privs_5 ++ (lw_privs_6 ++ (lw_privs_7 ++ (lw_privs_8))))))), lw_okq q
  exact List.forall_mem_append.mpr ⟨lw_r1, List.forall_mem_append.mpr ⟨lw_r2, List.forall_mem_append.mpr ⟨lw_r3, List.forall_mem_append.mpr ⟨lw_r4, List.forall_mem_append.mpr ⟨lw_r5, List.forall_mem_append.mpr ⟨lw_r6, List.forall_mem_append.mpr ⟨lw_r7, lw_r8⟩⟩⟩⟩⟩⟩⟩
-- ===== end of PART A; then your names; then what follows =====
/-! ===== BEGIN words of one list among another's, by their places ===== -/
theorem goodIn_r {big : List Cond} (ws : List Cond) (ps : List Nat) (hp : ws = ps.filterMap (fun i => big[i]?)) (h : ws.all goodWord = true) : GoodIn big ws := by
  intro w hw
  have h1 := List.all_eq_true.mp h w hw
  rw [hp] at hw
  obtain ⟨i, -, hi⟩ := List.mem_filterMap.mp hw
  have hm : w ∈ big := by first | exact List.mem_of_getElem? hi | exact List.getElem?_mem hi
  exact ⟨hm, good_of_word h1⟩
theorem goodIn_app {big a b : List Cond} (ha : GoodIn big a) (hb : GoodIn big b) : GoodIn big (a ++ b) := fun w h => (List.mem_append.mp h).elim (ha w) (hb w)
theorem goodIn_ca {big a b : List Cond} {c : Cond} (ha : GoodIn big (c :: a)) (hb : GoodIn big b) : GoodIn big (c :: (a ++ b)) := fun w h => (List.mem_cons.mp h).elim (fun e => ha w (List.mem_cons.mpr (Or.inl e))) (fun h => (List.mem_append.mp h).elim (fun h => ha w (List.mem_cons.mpr (Or.inr h))) (hb w))
theorem goodIn_sub {big ws : List Cond} (hm : ∀ w ∈ ws, w ∈ big) (h : ws.all goodWord = true) : GoodIn big ws := fun w hw => ⟨hm w hw, good_of_word (List.all_eq_true.mp h w hw)⟩
/-! ===== END ===== -/
def RX0 : String := "SecondTelling$Course"
def TX0 : u_T := fun k => match k with
  | 0 => ("SecondTelling$Course", "story", "LSecondTelling$Story;", false)
  | 1 => ("SecondTelling$Course", "world", "LSecondTelling$World;", false)
  | 2 => ("SecondTelling$Course", "talking", "I", false)
  | 3 => ("SecondTelling$Course", "fitsAsked", "Z", false)
  | 4 => ("SecondTelling$Course", "facts", "[J", true)
  | 5 => ("SecondTelling$Course", "stack", "[J", true)
  | 6 => ("SecondTelling$Course", "bendings", "[I", true)
  | 7 => ("SecondTelling$Course", "things", "I", false)
  | 8 => ("SecondTelling$Course", "hushedWays", "I", false)
  | _ => ("SecondTelling$Course", "hushedTells", "I", false)
def tyX0 : Nat → FieldType := fun k => match k with
  | 0 => .object "SecondTelling$Story"
  | 1 => .object "SecondTelling$World"
  | 2 => .int
  | 3 => .boolean
  | 4 => .array .long
  | 5 => .array .long
  | 6 => .array .int
  | 7 => .int
  | 8 => .int
  | _ => .int
abbrev wsX00 : List Cond := u_ws RX0 TX0 10
theorem nmX0 : ∀ a, a < 10 → ∀ b, b < 10 → a ≠ b → (TX0 a).2.1 ≠ (TX0 b).2.1 := by decide +kernel
theorem tyX0_ok : ∀ k, k < 10 → parseFieldDescriptor (TX0 k).2.2.1 = some (tyX0 k) := by decide +kernel
abbrev cX0_init : ByteArray := prog_2_method_1_code
def yX0_init : MethodName := ⟨RX0, "<init>", "(LSecondTelling$Story;LSecondTelling$World;)V"⟩
abbrev cX0_asItGoes : ByteArray := prog_2_method_2_code
def yX0_asItGoes : MethodName := ⟨RX0, "asItGoes", "(LSecondTelling$Story;LSecondTelling$World;)V"⟩
abbrev cX0_byNumbers : ByteArray := prog_2_method_3_code
def yX0_byNumbers : MethodName := ⟨RX0, "byNumbers", "(LSecondTelling$Story;LSecondTelling$World;)V"⟩
abbrev cX0_bendCourse : ByteArray := prog_2_method_4_code
def yX0_bendCourse : MethodName := ⟨RX0, "bendCourse", "(II)V"⟩
abbrev cX0_aDay : ByteArray := prog_2_method_5_code
def yX0_aDay : MethodName := ⟨RX0, "aDay", "()V"⟩
abbrev cX0_seeAll : ByteArray := prog_2_method_6_code
def yX0_seeAll : MethodName := ⟨RX0, "seeAll", "()V"⟩
abbrev cX0_passAll : ByteArray := prog_2_method_7_code
def yX0_passAll : MethodName := ⟨RX0, "passAll", "()V"⟩
abbrev cX0_talks : ByteArray := prog_2_method_8_code
def yX0_talks : MethodName := ⟨RX0, "talks", "()Z"⟩
abbrev cX0_handOver : ByteArray := prog_2_method_9_code
def yX0_handOver : MethodName := ⟨RX0, "handOver", "(III)V"⟩
abbrev cX0_printTelling : ByteArray := prog_2_method_10_code
def yX0_printTelling : MethodName := ⟨RX0, "printTelling", "(II)Z"⟩
abbrev cX0_firstFitting : ByteArray := prog_2_method_11_code
def yX0_firstFitting : MethodName := ⟨RX0, "firstFitting", "(II)I"⟩
abbrev cX0_fits : ByteArray := prog_2_method_12_code
def yX0_fits : MethodName := ⟨RX0, "fits", "(IIII)Z"⟩
abbrev cX0_within : ByteArray := prog_2_method_13_code
def yX0_within : MethodName := ⟨RX0, "within", "(JI)I"⟩
abbrev cX0_setFacts : ByteArray := prog_2_method_14_code
def yX0_setFacts : MethodName := ⟨RX0, "setFacts", "(III)V"⟩
abbrev cX0_worth : ByteArray := prog_2_method_15_code
def yX0_worth : MethodName := ⟨RX0, "worth", "(I)J"⟩
abbrev cX0_join : ByteArray := prog_2_method_16_code
def yX0_join : MethodName := ⟨RX0, "join", "(IJJ)J"⟩
def RX1 : String := "SecondTelling$Deeds"
def TX1 : u_T := fun k => match k with
  | 0 => ("SecondTelling$Deeds", "size", "I", false)
  | 1 => ("SecondTelling$Deeds", "men", "[I", true)
  | 2 => ("SecondTelling$Deeds", "things", "[I", true)
  | 3 => ("SecondTelling$Deeds", "holds", "[I", true)
  | 4 => ("SecondTelling$Deeds", "hats", "[I", true)
  | 5 => ("SecondTelling$Deeds", "since", "[I", true)
  | 6 => ("SecondTelling$Deeds", "from", "[I", true)
  | 7 => ("SecondTelling$Deeds", "printed", "[I", true)
  | 8 => ("SecondTelling$Deeds", "newsDays", "[I", true)
  | _ => ("SecondTelling$Deeds", "spaces", "[I", true)
def tyX1 : Nat → FieldType := fun k => match k with
  | 0 => .int
  | 1 => .array .int
  | 2 => .array .int
  | 3 => .array .int
  | 4 => .array .int
  | 5 => .array .int
  | 6 => .array .int
  | 7 => .array .int
  | 8 => .array .int
  | _ => .array .int
abbrev wsX10 : List Cond := u_ws RX1 TX1 10
theorem nmX1 : ∀ a, a < 10 → ∀ b, b < 10 → a ≠ b → (TX1 a).2.1 ≠ (TX1 b).2.1 := by decide +kernel
theorem tyX1_ok : ∀ k, k < 10 → parseFieldDescriptor (TX1 k).2.2.1 = some (tyX1 k) := by decide +kernel
abbrev cX1_init : ByteArray := prog_3_method_1_code
def yX1_init : MethodName := ⟨RX1, "<init>", "()V"⟩
abbrev cX1_note : ByteArray := prog_3_method_2_code
def yX1_note : MethodName := ⟨RX1, "note", "(LSecondTelling$World;II)V"⟩
abbrev cX1_dropOldest : ByteArray := prog_3_method_3_code
def yX1_dropOldest : MethodName := ⟨RX1, "dropOldest", "()V"⟩
abbrev cX1_takeBack : ByteArray := prog_3_method_4_code
def yX1_takeBack : MethodName := ⟨RX1, "takeBack", "(LSecondTelling$World;)V"⟩
def RX2 : String := "SecondTelling$LawReader"
def TX2 : u_T := fun k => match k with
  | 0 => ("SecondTelling$LawReader", "tokens", "LSecondTelling$Tokens;", true)
  | 1 => ("SecondTelling$LawReader", "waiting", "[I", true)
  | 2 => ("SecondTelling$LawReader", "waits", "I", false)
  | 3 => ("SecondTelling$LawReader", "open", "I", false)
  | _ => ("SecondTelling$LawReader", "laws", "LSecondTelling$Laws;", false)
def tyX2 : Nat → FieldType := fun k => match k with
  | 0 => .object "SecondTelling$Tokens"
  | 1 => .array .int
  | 2 => .int
  | 3 => .int
  | _ => .object "SecondTelling$Laws"
abbrev wsX20 : List Cond := u_ws RX2 TX2 5
theorem nmX2 : ∀ a, a < 5 → ∀ b, b < 5 → a ≠ b → (TX2 a).2.1 ≠ (TX2 b).2.1 := by decide +kernel
theorem tyX2_ok : ∀ k, k < 5 → parseFieldDescriptor (TX2 k).2.2.1 = some (tyX2 k) := by decide +kernel
abbrev cX2_init : ByteArray := prog_4_method_1_code
def yX2_init : MethodName := ⟨RX2, "<init>", "(LSecondTelling$Tokens;LSecondTelling$Laws;)V"⟩
abbrev cX2_readLaw : ByteArray := prog_4_method_2_code
def yX2_readLaw : MethodName := ⟨RX2, "readLaw", "(LSecondTelling$Laws;I)I"⟩
abbrev cX2_takeValue : ByteArray := prog_4_method_3_code
def yX2_takeValue : MethodName := ⟨RX2, "takeValue", "()I"⟩
abbrev cX2_takeBehindValue : ByteArray := prog_4_method_4_code
def yX2_takeBehindValue : MethodName := ⟨RX2, "takeBehindValue", "()I"⟩
abbrev cX2_placeValue : ByteArray := prog_4_method_5_code
def yX2_placeValue : MethodName := ⟨RX2, "placeValue", "(II)I"⟩
abbrev cX2_waitAsKnot : ByteArray := prog_4_method_6_code
def yX2_waitAsKnot : MethodName := ⟨RX2, "waitAsKnot", "(I)I"⟩
abbrev cX2_push : ByteArray := prog_4_method_7_code
def yX2_push : MethodName := ⟨RX2, "push", "(I)V"⟩
abbrev cX2_lastWaiting : ByteArray := prog_4_method_8_code
def yX2_lastWaiting : MethodName := ⟨RX2, "lastWaiting", "()I"⟩
abbrev cX2_settle : ByteArray := prog_4_method_9_code
def yX2_settle : MethodName := ⟨RX2, "settle", "(I)V"⟩
abbrev cX2_rank : ByteArray := prog_4_method_10_code
def yX2_rank : MethodName := ⟨RX2, "rank", "(I)I"⟩
def RX3 : String := "SecondTelling$Laws"
def TX3 : u_T := fun k => match k with
  | 0 => ("SecondTelling$Laws", "knots", "I", false)
  | 1 => ("SecondTelling$Laws", "placed", "I", false)
  | 2 => ("SecondTelling$Laws", "kinds", "[I", true)
  | 3 => ("SecondTelling$Laws", "values", "[I", true)
  | 4 => ("SecondTelling$Laws", "starts", "[I", true)
  | _ => ("SecondTelling$Laws", "ends", "[I", true)
def tyX3 : Nat → FieldType := fun k => match k with
  | 0 => .int
  | 1 => .int
  | 2 => .array .int
  | 3 => .array .int
  | 4 => .array .int
  | _ => .array .int
abbrev wsX30 : List Cond := u_ws RX3 TX3 6
theorem nmX3 : ∀ a, a < 6 → ∀ b, b < 6 → a ≠ b → (TX3 a).2.1 ≠ (TX3 b).2.1 := by decide +kernel
theorem tyX3_ok : ∀ k, k < 6 → parseFieldDescriptor (TX3 k).2.2.1 = some (tyX3 k) := by decide +kernel
abbrev cX3_init : ByteArray := prog_5_method_1_code
def yX3_init : MethodName := ⟨RX3, "<init>", "()V"⟩
abbrev cX3_empty : ByteArray := prog_5_method_2_code
def yX3_empty : MethodName := ⟨RX3, "empty", "()V"⟩
abbrev cX3_isTold : ByteArray := prog_5_method_3_code
def yX3_isTold : MethodName := ⟨RX3, "isTold", "(I)Z"⟩
abbrev cX3_place : ByteArray := prog_5_method_4_code
def yX3_place : MethodName := ⟨RX3, "place", "(II)V"⟩
def RX4 : String := "SecondTelling$Reader"
def TX4 : u_T := fun k => match k with
  | 0 => ("SecondTelling$Reader", "tokens", "LSecondTelling$Tokens;", true)
  | 1 => ("SecondTelling$Reader", "lawReader", "LSecondTelling$LawReader;", true)
  | 2 => ("SecondTelling$Reader", "story", "LSecondTelling$Story;", false)
  | 3 => ("SecondTelling$Reader", "sees", "I", false)
  | 4 => ("SecondTelling$Reader", "settingsTold", "I", false)
  | 5 => ("SecondTelling$Reader", "namedAt", "I", false)
  | 6 => ("SecondTelling$Reader", "fault", "I", false)
  | _ => ("SecondTelling$Reader", "place", "I", false)
def tyX4 : Nat → FieldType := fun k => match k with
  | 0 => .object "SecondTelling$Tokens"
  | 1 => .object "SecondTelling$LawReader"
  | 2 => .object "SecondTelling$Story"
  | 3 => .int
  | 4 => .int
  | 5 => .int
  | 6 => .int
  | _ => .int
abbrev wsX40 : List Cond := u_ws RX4 TX4 8
theorem nmX4 : ∀ a, a < 8 → ∀ b, b < 8 → a ≠ b → (TX4 a).2.1 ≠ (TX4 b).2.1 := by decide +kernel
theorem tyX4_ok : ∀ k, k < 8 → parseFieldDescriptor (TX4 k).2.2.1 = some (tyX4 k) := by decide +kernel
abbrev cX4_init : ByteArray := prog_6_method_1_code
def yX4_init : MethodName := ⟨RX4, "<init>", "(LSecondTelling$Story;)V"⟩
abbrev cX4_readStory : ByteArray := prog_6_method_2_code
def yX4_readStory : MethodName := ⟨RX4, "readStory", "([BILSecondTelling$Story;)I"⟩
abbrev cX4_readLine : ByteArray := prog_6_method_3_code
def yX4_readLine : MethodName := ⟨RX4, "readLine", "()I"⟩
abbrev cX4_readMan : ByteArray := prog_6_method_4_code
def yX4_readMan : MethodName := ⟨RX4, "readMan", "()I"⟩
abbrev cX4_readThing : ByteArray := prog_6_method_5_code
def yX4_readThing : MethodName := ⟨RX4, "readThing", "()I"⟩
abbrev cX4_readSees : ByteArray := prog_6_method_6_code
def yX4_readSees : MethodName := ⟨RX4, "readSees", "()I"⟩
abbrev cX4_readWay : ByteArray := prog_6_method_7_code
def yX4_readWay : MethodName := ⟨RX4, "readWay", "()I"⟩
abbrev cX4_readTell : ByteArray := prog_6_method_8_code
def yX4_readTell : MethodName := ⟨RX4, "readTell", "()I"⟩
abbrev cX4_readSetting : ByteArray := prog_6_method_9_code
def yX4_readSetting : MethodName := ⟨RX4, "readSetting", "(I)I"⟩
abbrev cX4_readLaw : ByteArray := prog_6_method_10_code
def yX4_readLaw : MethodName := ⟨RX4, "readLaw", "()I"⟩
abbrev cX4_takeNewName : ByteArray := prog_6_method_11_code
def yX4_takeNewName : MethodName := ⟨RX4, "takeNewName", "([II)I"⟩
abbrev cX4_takeOldName : ByteArray := prog_6_method_12_code
def yX4_takeOldName : MethodName := ⟨RX4, "takeOldName", "([II)I"⟩
abbrev cX4_takeNumber : ByteArray := prog_6_method_13_code
def yX4_takeNumber : MethodName := ⟨RX4, "takeNumber", "(II)I"⟩
abbrev cX4_takeLineEnd : ByteArray := prog_6_method_14_code
def yX4_takeLineEnd : MethodName := ⟨RX4, "takeLineEnd", "()I"⟩
def RX5 : String := "SecondTelling$Seen"
def TX5 : u_T := fun k => match k with
  | 0 => ("SecondTelling$Seen", "size", "I", false)
  | 1 => ("SecondTelling$Seen", "knownBy", "I", false)
  | 2 => ("SecondTelling$Seen", "days", "[I", true)
  | 3 => ("SecondTelling$Seen", "men", "[I", true)
  | 4 => ("SecondTelling$Seen", "things", "[I", true)
  | 5 => ("SecondTelling$Seen", "hats", "[I", true)
  | 6 => ("SecondTelling$Seen", "so", "[Z", true)
  | 7 => ("SecondTelling$Seen", "strikes", "[I", true)
  | _ => ("SecondTelling$Seen", "counts", "[Z", true)
def tyX5 : Nat → FieldType := fun k => match k with
  | 0 => .int
  | 1 => .int
  | 2 => .array .int
  | 3 => .array .int
  | 4 => .array .int
  | 5 => .array .int
  | 6 => .array .boolean
  | 7 => .array .int
  | _ => .array .boolean
abbrev wsX50 : List Cond := u_ws RX5 TX5 9
theorem nmX5 : ∀ a, a < 9 → ∀ b, b < 9 → a ≠ b → (TX5 a).2.1 ≠ (TX5 b).2.1 := by decide +kernel
theorem tyX5_ok : ∀ k, k < 9 → parseFieldDescriptor (TX5 k).2.2.1 = some (tyX5 k) := by decide +kernel
abbrev cX5_init : ByteArray := prog_7_method_1_code
def yX5_init : MethodName := ⟨RX5, "<init>", "()V"⟩
abbrev cX5_addSight : ByteArray := prog_7_method_2_code
def yX5_addSight : MethodName := ⟨RX5, "addSight", "(IIIIZ)I"⟩
abbrev cX5_addStrike : ByteArray := prog_7_method_3_code
def yX5_addStrike : MethodName := ⟨RX5, "addStrike", "(I)I"⟩
abbrev cX5_knownCount : ByteArray := prog_7_method_4_code
def yX5_knownCount : MethodName := ⟨RX5, "knownCount", "()I"⟩
abbrev cX5_sift : ByteArray := prog_7_method_5_code
def yX5_sift : MethodName := ⟨RX5, "sift", "()V"⟩
abbrev cX5_lastDay : ByteArray := prog_7_method_6_code
def yX5_lastDay : MethodName := ⟨RX5, "lastDay", "()I"⟩
abbrev cX5_thingsKnown : ByteArray := prog_7_method_7_code
def yX5_thingsKnown : MethodName := ⟨RX5, "thingsKnown", "()I"⟩
abbrev cX5_areSo : ByteArray := prog_7_method_8_code
def yX5_areSo : MethodName := ⟨RX5, "areSo", "(ILSecondTelling$World;)Z"⟩
def RX6 : String := "SecondTelling$Story"
def TX6 : u_T := fun k => match k with
  | 0 => ("SecondTelling$Story", "people", "I", false)
  | 1 => ("SecondTelling$Story", "manNames", "[I", true)
  | 2 => ("SecondTelling$Story", "manBents", "[I", true)
  | 3 => ("SecondTelling$Story", "things", "I", false)
  | 4 => ("SecondTelling$Story", "thingNames", "[I", true)
  | 5 => ("SecondTelling$Story", "thingDays", "[I", true)
  | 6 => ("SecondTelling$Story", "thingHats", "[I", true)
  | 7 => ("SecondTelling$Story", "seers", "[I", true)
  | 8 => ("SecondTelling$Story", "ways", "I", false)
  | 9 => ("SecondTelling$Story", "wayFroms", "[I", true)
  | 10 => ("SecondTelling$Story", "wayTos", "[I", true)
  | 11 => ("SecondTelling$Story", "wayDays", "[I", true)
  | 12 => ("SecondTelling$Story", "tells", "I", false)
  | 13 => ("SecondTelling$Story", "tellMen", "[I", true)
  | 14 => ("SecondTelling$Story", "tellThings", "[I", true)
  | 15 => ("SecondTelling$Story", "tellDays", "[I", true)
  | 16 => ("SecondTelling$Story", "settings", "[I", true)
  | _ => ("SecondTelling$Story", "laws", "LSecondTelling$Laws;", true)
def tyX6 : Nat → FieldType := fun k => match k with
  | 0 => .int
  | 1 => .array .int
  | 2 => .array .int
  | 3 => .int
  | 4 => .array .int
  | 5 => .array .int
  | 6 => .array .int
  | 7 => .array .int
  | 8 => .int
  | 9 => .array .int
  | 10 => .array .int
  | 11 => .array .int
  | 12 => .int
  | 13 => .array .int
  | 14 => .array .int
  | 15 => .array .int
  | 16 => .array .int
  | _ => .object "SecondTelling$Laws"
abbrev wsX60 : List Cond := u_ws RX6 TX6 18
theorem nmX6 : ∀ a, a < 18 → ∀ b, b < 18 → a ≠ b → (TX6 a).2.1 ≠ (TX6 b).2.1 := by decide +kernel
theorem tyX6_ok : ∀ k, k < 18 → parseFieldDescriptor (TX6 k).2.2.1 = some (tyX6 k) := by decide +kernel
abbrev cX6_init : ByteArray := prog_8_method_1_code
def yX6_init : MethodName := ⟨RX6, "<init>", "()V"⟩
abbrev cX6_empty : ByteArray := prog_8_method_2_code
def yX6_empty : MethodName := ⟨RX6, "empty", "()V"⟩
abbrev cX6_placeOf : ByteArray := prog_8_method_3_code
def yX6_placeOf : MethodName := ⟨RX6, "placeOf", "(I[II)I"⟩
abbrev cX6_lastTell : ByteArray := prog_8_method_4_code
def yX6_lastTell : MethodName := ⟨RX6, "lastTell", "(I)I"⟩
abbrev cX6_reachOf : ByteArray := prog_8_method_5_code
def yX6_reachOf : MethodName := ⟨RX6, "reachOf", "(I)I"⟩
def RX7 : String := "SecondTelling$Tokens"
def TX7 : u_T := fun k => match k with
  | 0 => ("SecondTelling$Tokens", "language", "[I", true)
  | 1 => ("SecondTelling$Tokens", "bytes", "[B", false)
  | 2 => ("SecondTelling$Tokens", "size", "I", false)
  | 3 => ("SecondTelling$Tokens", "at", "I", false)
  | 4 => ("SecondTelling$Tokens", "kind", "I", false)
  | 5 => ("SecondTelling$Tokens", "value", "I", false)
  | _ => ("SecondTelling$Tokens", "place", "I", false)
def tyX7 : Nat → FieldType := fun k => match k with
  | 0 => .array .int
  | 1 => .array .byte
  | 2 => .int
  | 3 => .int
  | 4 => .int
  | 5 => .int
  | _ => .int
abbrev wsX70 : List Cond := u_ws RX7 TX7 7
theorem nmX7 : ∀ a, a < 7 → ∀ b, b < 7 → a ≠ b → (TX7 a).2.1 ≠ (TX7 b).2.1 := by decide +kernel
theorem tyX7_ok : ∀ k, k < 7 → parseFieldDescriptor (TX7 k).2.2.1 = some (tyX7 k) := by decide +kernel
abbrev cX7_init : ByteArray := prog_9_method_1_code
def yX7_init : MethodName := ⟨RX7, "<init>", "()V"⟩
abbrev cX7_begin : ByteArray := prog_9_method_2_code
def yX7_begin : MethodName := ⟨RX7, "begin", "([BI)V"⟩
abbrev cX7_next : ByteArray := prog_9_method_3_code
def yX7_next : MethodName := ⟨RX7, "next", "()V"⟩
abbrev cX7_takeWord : ByteArray := prog_9_method_4_code
def yX7_takeWord : MethodName := ⟨RX7, "takeWord", "()V"⟩
abbrev cX7_takeNumber : ByteArray := prog_9_method_5_code
def yX7_takeNumber : MethodName := ⟨RX7, "takeNumber", "()V"⟩
abbrev cX7_takeSign : ByteArray := prog_9_method_6_code
def yX7_takeSign : MethodName := ⟨RX7, "takeSign", "()V"⟩
abbrev cX7_follows : ByteArray := prog_9_method_7_code
def yX7_follows : MethodName := ⟨RX7, "follows", "(I)Z"⟩
abbrev cX7_signAlone : ByteArray := prog_9_method_8_code
def yX7_signAlone : MethodName := ⟨RX7, "signAlone", "(I)I"⟩
abbrev cX7_isLetter : ByteArray := prog_9_method_9_code
def yX7_isLetter : MethodName := ⟨RX7, "isLetter", "(I)Z"⟩
abbrev cX7_isDigit : ByteArray := prog_9_method_10_code
def yX7_isDigit : MethodName := ⟨RX7, "isDigit", "(I)Z"⟩
def RX8 : String := "SecondTelling$World"
def TX8 : u_T := fun k => match k with
  | 0 => ("SecondTelling$World", "day", "I", false)
  | 1 => ("SecondTelling$World", "number", "J", false)
  | 2 => ("SecondTelling$World", "space", "I", false)
  | 3 => ("SecondTelling$World", "idle", "I", false)
  | 4 => ("SecondTelling$World", "newsDays", "[I", true)
  | 5 => ("SecondTelling$World", "hold", "[I", true)
  | 6 => ("SecondTelling$World", "printed", "[I", true)
  | 7 => ("SecondTelling$World", "hats", "[I", true)
  | 8 => ("SecondTelling$World", "since", "[I", true)
  | 9 => ("SecondTelling$World", "from", "[I", true)
  | 10 => ("SecondTelling$World", "printedHats", "[I", true)
  | _ => ("SecondTelling$World", "printedChains", "[I", true)
def tyX8 : Nat → FieldType := fun k => match k with
  | 0 => .int
  | 1 => .long
  | 2 => .int
  | 3 => .int
  | 4 => .array .int
  | 5 => .array .int
  | 6 => .array .int
  | 7 => .array .int
  | 8 => .array .int
  | 9 => .array .int
  | 10 => .array .int
  | _ => .array .int
abbrev wsX80 : List Cond := u_ws RX8 TX8 12
theorem nmX8 : ∀ a, a < 12 → ∀ b, b < 12 → a ≠ b → (TX8 a).2.1 ≠ (TX8 b).2.1 := by decide +kernel
theorem tyX8_ok : ∀ k, k < 12 → parseFieldDescriptor (TX8 k).2.2.1 = some (tyX8 k) := by decide +kernel
abbrev cX8_init : ByteArray := prog_10_method_1_code
def yX8_init : MethodName := ⟨RX8, "<init>", "()V"⟩
abbrev cX8_cell : ByteArray := prog_10_method_2_code
def yX8_cell : MethodName := ⟨RX8, "cell", "(II)I"⟩
abbrev cX8_restart : ByteArray := prog_10_method_3_code
def yX8_restart : MethodName := ⟨RX8, "restart", "(I)V"⟩
abbrev cX8_becomeLike : ByteArray := prog_10_method_4_code
def yX8_becomeLike : MethodName := ⟨RX8, "becomeLike", "(LSecondTelling$World;)V"⟩
abbrev cX8_holds : ByteArray := prog_10_method_5_code
def yX8_holds : MethodName := ⟨RX8, "holds", "(II)Z"⟩
abbrev cX8_mayPrint : ByteArray := prog_10_method_6_code
def yX8_mayPrint : MethodName := ⟨RX8, "mayPrint", "(II)Z"⟩
abbrev cX8_holders : ByteArray := prog_10_method_7_code
def yX8_holders : MethodName := ⟨RX8, "holders", "(I)I"⟩
abbrev cX8_chain : ByteArray := prog_10_method_8_code
def yX8_chain : MethodName := ⟨RX8, "chain", "(II)I"⟩
abbrev cX8_apart : ByteArray := prog_10_method_9_code
def yX8_apart : MethodName := ⟨RX8, "apart", "(III)I"⟩
abbrev cX8_gainThing : ByteArray := prog_10_method_10_code
def yX8_gainThing : MethodName := ⟨RX8, "gainThing", "(IIII)V"⟩
abbrev cX8_newsCount : ByteArray := prog_10_method_11_code
def yX8_newsCount : MethodName := ⟨RX8, "newsCount", "()I"⟩
abbrev cX8_heldCount : ByteArray := prog_10_method_12_code
def yX8_heldCount : MethodName := ⟨RX8, "heldCount", "()I"⟩
abbrev cX8_printedCount : ByteArray := prog_10_method_13_code
def yX8_printedCount : MethodName := ⟨RX8, "printedCount", "()I"⟩
def RX9 : String := "SecondTelling"
def TX9 : u_T := fun k => match k with
  | 0 => ("SecondTelling", "tape", "[B", true)
  | 1 => ("SecondTelling", "taped", "I", false)
  | 2 => ("SecondTelling", "reader", "LSecondTelling$Reader;", true)
  | 3 => ("SecondTelling", "story", "LSecondTelling$Story;", false)
  | 4 => ("SecondTelling", "spare", "LSecondTelling$Story;", false)
  | 5 => ("SecondTelling", "now", "LSecondTelling$World;", true)
  | 6 => ("SecondTelling", "image", "LSecondTelling$World;", true)
  | 7 => ("SecondTelling", "trial", "LSecondTelling$World;", true)
  | 8 => ("SecondTelling", "imageKept", "Z", false)
  | 9 => ("SecondTelling", "course", "LSecondTelling$Course;", true)
  | 10 => ("SecondTelling", "deeds", "LSecondTelling$Deeds;", true)
  | 11 => ("SecondTelling", "sights", "LSecondTelling$Seen;", true)
  | 12 => ("SecondTelling", "suitors", "[I", true)
  | 13 => ("SecondTelling", "partners", "[I", true)
  | 14 => ("SecondTelling", "mostMatched", "[I", true)
  | _ => ("SecondTelling", "answers", "[I", true)
def tyX9 : Nat → FieldType := fun k => match k with
  | 0 => .array .byte
  | 1 => .int
  | 2 => .object "SecondTelling$Reader"
  | 3 => .object "SecondTelling$Story"
  | 4 => .object "SecondTelling$Story"
  | 5 => .object "SecondTelling$World"
  | 6 => .object "SecondTelling$World"
  | 7 => .object "SecondTelling$World"
  | 8 => .boolean
  | 9 => .object "SecondTelling$Course"
  | 10 => .object "SecondTelling$Deeds"
  | 11 => .object "SecondTelling$Seen"
  | 12 => .array .int
  | 13 => .array .int
  | 14 => .array .int
  | _ => .array .int
abbrev wsX90 : List Cond := u_ws RX9 TX9 16
theorem nmX9 : ∀ a, a < 16 → ∀ b, b < 16 → a ≠ b → (TX9 a).2.1 ≠ (TX9 b).2.1 := by decide +kernel
theorem tyX9_ok : ∀ k, k < 16 → parseFieldDescriptor (TX9 k).2.2.1 = some (tyX9 k) := by decide +kernel
abbrev cX9_init : ByteArray := prog_1_method_1_code
def yX9_init : MethodName := ⟨RX9, "<init>", "()V"⟩
abbrev cX9_feed : ByteArray := prog_1_method_2_code
def yX9_feed : MethodName := ⟨RX9, "feed", "(IIIII)I"⟩
abbrev cX9_putOnTape : ByteArray := prog_1_method_3_code
def yX9_putOnTape : MethodName := ⟨RX9, "putOnTape", "(I)V"⟩
abbrev cX9_text : ByteArray := prog_1_method_4_code
def yX9_text : MethodName := ⟨RX9, "text", "(I)I"⟩
abbrev cX9_fault : ByteArray := prog_1_method_5_code
def yX9_fault : MethodName := ⟨RX9, "fault", "(I)I"⟩
abbrev cX9_named : ByteArray := prog_1_method_6_code
def yX9_named : MethodName := ⟨RX9, "named", "(II)I"⟩
abbrev cX9_thing : ByteArray := prog_1_method_7_code
def yX9_thing : MethodName := ⟨RX9, "thing", "(II)I"⟩
abbrev cX9_has : ByteArray := prog_1_method_8_code
def yX9_has : MethodName := ⟨RX9, "has", "(III)I"⟩
abbrev cX9_bent : ByteArray := prog_1_method_9_code
def yX9_bent : MethodName := ⟨RX9, "bent", "(I)I"⟩
abbrev cX9_law : ByteArray := prog_1_method_10_code
def yX9_law : MethodName := ⟨RX9, "law", "(IIII)J"⟩
abbrev cX9_hear : ByteArray := prog_1_method_11_code
def yX9_hear : MethodName := ⟨RX9, "hear", "(III)I"⟩
abbrev cX9_tell : ByteArray := prog_1_method_12_code
def yX9_tell : MethodName := ⟨RX9, "tell", "(II)I"⟩
abbrev cX9_forget : ByteArray := prog_1_method_13_code
def yX9_forget : MethodName := ⟨RX9, "forget", "(II)Z"⟩
abbrev cX9_go : ByteArray := prog_1_method_14_code
def yX9_go : MethodName := ⟨RX9, "go", "(I)I"⟩
abbrev cX9_ahead : ByteArray := prog_1_method_15_code
def yX9_ahead : MethodName := ⟨RX9, "ahead", "(III)I"⟩
abbrev cX9_when : ByteArray := prog_1_method_16_code
def yX9_when : MethodName := ⟨RX9, "when", "(I)I"⟩
abbrev cX9_hears : ByteArray := prog_1_method_17_code
def yX9_hears : MethodName := ⟨RX9, "hears", "(II)I"⟩
abbrev cX9_joined : ByteArray := prog_1_method_18_code
def yX9_joined : MethodName := ⟨RX9, "joined", "(III)I"⟩
abbrev cX9_pairs : ByteArray := prog_1_method_19_code
def yX9_pairs : MethodName := ⟨RX9, "pairs", "(I)I"⟩
abbrev cX9_reach : ByteArray := prog_1_method_20_code
def yX9_reach : MethodName := ⟨RX9, "reach", "(I)I"⟩
abbrev cX9_hush : ByteArray := prog_1_method_21_code
def yX9_hush : MethodName := ⟨RX9, "hush", "(I)I"⟩
abbrev cX9_staysNoNews : ByteArray := prog_1_method_22_code
def yX9_staysNoNews : MethodName := ⟨RX9, "staysNoNews", "(II)Z"⟩
abbrev cX9_spread : ByteArray := prog_1_method_23_code
def yX9_spread : MethodName := ⟨RX9, "spread", "()I"⟩
abbrev cX9_reachOfAll : ByteArray := prog_1_method_24_code
def yX9_reachOfAll : MethodName := ⟨RX9, "reachOfAll", "(I)I"⟩
abbrev cX9_lone : ByteArray := prog_1_method_25_code
def yX9_lone : MethodName := ⟨RX9, "lone", "()I"⟩
abbrev cX9_match : ByteArray := prog_1_method_26_code
def yX9_match : MethodName := ⟨RX9, "match", "(I)I"⟩
abbrev cX9_findSuitors : ByteArray := prog_1_method_27_code
def yX9_findSuitors : MethodName := ⟨RX9, "findSuitors", "()V"⟩
abbrev cX9_countMatches : ByteArray := prog_1_method_28_code
def yX9_countMatches : MethodName := ⟨RX9, "countMatches", "()V"⟩
abbrev cX9_choosePartners : ByteArray := prog_1_method_29_code
def yX9_choosePartners : MethodName := ⟨RX9, "choosePartners", "()I"⟩
abbrev cX9_rests : ByteArray := prog_1_method_30_code
def yX9_rests : MethodName := ⟨RX9, "rests", "(III)I"⟩
abbrev cX9_rest : ByteArray := prog_1_method_31_code
def yX9_rest : MethodName := ⟨RX9, "rest", "(IIII)I"⟩
abbrev cX9_isRest : ByteArray := prog_1_method_32_code
def yX9_isRest : MethodName := ⟨RX9, "isRest", "(IIZ)Z"⟩
abbrev cX9_gain : ByteArray := prog_1_method_33_code
def yX9_gain : MethodName := ⟨RX9, "gain", "(IIZ)I"⟩
abbrev cX9_wouldFit : ByteArray := prog_1_method_34_code
def yX9_wouldFit : MethodName := ⟨RX9, "wouldFit", "(III)Z"⟩
abbrev cX9_silent : ByteArray := prog_1_method_35_code
def yX9_silent : MethodName := ⟨RX9, "silent", "(II)J"⟩
abbrev cX9_commonDivisor : ByteArray := prog_1_method_36_code
def yX9_commonDivisor : MethodName := ⟨RX9, "commonDivisor", "(I)I"⟩
abbrev cX9_see : ByteArray := prog_1_method_37_code
def yX9_see : MethodName := ⟨RX9, "see", "(IIIIZ)I"⟩
abbrev cX9_strike : ByteArray := prog_1_method_38_code
def yX9_strike : MethodName := ⟨RX9, "strike", "(I)I"⟩
abbrev cX9_known : ByteArray := prog_1_method_39_code
def yX9_known : MethodName := ⟨RX9, "known", "(I)Z"⟩
abbrev cX9_bents : ByteArray := prog_1_method_40_code
def yX9_bents : MethodName := ⟨RX9, "bents", "(I)I"⟩
abbrev cX9_bendingsLeft : ByteArray := prog_1_method_41_code
def yX9_bendingsLeft : MethodName := ⟨RX9, "bendingsLeft", "(I)I"⟩
abbrev cX9_ask : ByteArray := prog_1_method_42_code
def yX9_ask : MethodName := ⟨RX9, "ask", "(III)I"⟩
abbrev cX9_workOutAnswers : ByteArray := prog_1_method_43_code
def yX9_workOutAnswers : MethodName := ⟨RX9, "workOutAnswers", "(III)V"⟩
abbrev cX9_worstLeft : ByteArray := prog_1_method_44_code
def yX9_worstLeft : MethodName := ⟨RX9, "worstLeft", "(II)I"⟩
abbrev cX9_chance : ByteArray := prog_1_method_45_code
def yX9_chance : MethodName := ⟨RX9, "chance", "(IIII)I"⟩
abbrev cX9_tried : ByteArray := prog_1_method_46_code
def yX9_tried : MethodName := ⟨RX9, "tried", "(III)I"⟩
abbrev cX9_undo : ByteArray := prog_1_method_47_code
def yX9_undo : MethodName := ⟨RX9, "undo", "()I"⟩
abbrev cX9_keep : ByteArray := prog_1_method_48_code
def yX9_keep : MethodName := ⟨RX9, "keep", "()I"⟩
abbrev cX9_back : ByteArray := prog_1_method_49_code
def yX9_back : MethodName := ⟨RX9, "back", "()I"⟩
abbrev cX9_count : ByteArray := prog_1_method_50_code
def yX9_count : MethodName := ⟨RX9, "count", "(I)I"⟩
abbrev cX9_isMan : ByteArray := prog_1_method_51_code
def yX9_isMan : MethodName := ⟨RX9, "isMan", "(I)Z"⟩
abbrev cX9_isThing : ByteArray := prog_1_method_52_code
def yX9_isThing : MethodName := ⟨RX9, "isThing", "(I)Z"⟩
abbrev cX9_areTwo : ByteArray := prog_1_method_53_code
def yX9_areTwo : MethodName := ⟨RX9, "areTwo", "(II)Z"⟩
abbrev cX9_tryFromNow : ByteArray := prog_1_method_54_code
def yX9_tryFromNow : MethodName := ⟨RX9, "tryFromNow", "()V"⟩
abbrev cX9_tryFromText : ByteArray := prog_1_method_55_code
def yX9_tryFromText : MethodName := ⟨RX9, "tryFromText", "(II)V"⟩
def RX10 : String := "SecondTellingModel"
def TX10 : u_T := fun k => match k with
  | 0 => ("SecondTellingModel", "thrown", "I", false)
  | 1 => ("SecondTellingModel", "tape", "[I", true)
  | 2 => ("SecondTellingModel", "taped", "I", false)
  | 3 => ("SecondTellingModel", "number", "[I", true)
  | 4 => ("SecondTellingModel", "manName", "[I", true)
  | 5 => ("SecondTellingModel", "bentAs", "[I", true)
  | 6 => ("SecondTellingModel", "thingName", "[I", true)
  | 7 => ("SecondTellingModel", "thingDay", "[I", true)
  | 8 => ("SecondTellingModel", "thingHats", "[I", true)
  | 9 => ("SecondTellingModel", "seesWho", "[I", true)
  | 10 => ("SecondTellingModel", "seesWhat", "[I", true)
  | 11 => ("SecondTellingModel", "wayFrom", "[I", true)
  | 12 => ("SecondTellingModel", "wayTo", "[I", true)
  | 13 => ("SecondTellingModel", "wayDays", "[I", true)
  | 14 => ("SecondTellingModel", "tellWho", "[I", true)
  | 15 => ("SecondTellingModel", "tellWhat", "[I", true)
  | 16 => ("SecondTellingModel", "tellDay", "[I", true)
  | 17 => ("SecondTellingModel", "sumFrom", "[I", true)
  | 18 => ("SecondTellingModel", "sumTo", "[I", true)
  | 19 => ("SecondTellingModel", "knotSort", "[I", true)
  | 20 => ("SecondTellingModel", "knotValue", "[I", true)
  | 21 => ("SecondTellingModel", "told", "I", false)
  | 22 => ("SecondTellingModel", "lines", "I", false)
  | 23 => ("SecondTellingModel", "size", "I", false)
  | 24 => ("SecondTellingModel", "at", "I", false)
  | 25 => ("SecondTellingModel", "place", "I", false)
  | 26 => ("SecondTellingModel", "sort", "I", false)
  | 27 => ("SecondTellingModel", "value", "I", false)
  | 28 => ("SecondTellingModel", "fault", "I", false)
  | 29 => ("SecondTellingModel", "faultPlace", "I", false)
  | 30 => ("SecondTellingModel", "lastFault", "I", false)
  | 31 => ("SecondTellingModel", "lastPlace", "I", false)
  | 32 => ("SecondTellingModel", "open", "I", false)
  | 33 => ("SecondTellingModel", "counted", "I", false)
  | 34 => ("SecondTellingModel", "names", "[J", true)
  | 35 => ("SecondTellingModel", "worked", "[J", true)
  | 36 => ("SecondTellingModel", "workedMany", "I", false)
  | 37 => ("SecondTellingModel", "day", "[I", true)
  | 38 => ("SecondTellingModel", "drawn", "[I", true)
  | 39 => ("SecondTellingModel", "space", "[I", true)
  | 40 => ("SecondTellingModel", "idle", "[I", true)
  | 41 => ("SecondTellingModel", "hatsOf", "[I", true)
  | 42 => ("SecondTellingModel", "sinceOf", "[I", true)
  | 43 => ("SecondTellingModel", "fromOf", "[I", true)
  | 44 => ("SecondTellingModel", "printedHats", "[I", true)
  | 45 => ("SecondTellingModel", "printedChain", "[I", true)
  | 46 => ("SecondTellingModel", "newsOn", "[I", true)
  | 47 => ("SecondTellingModel", "hasImage", "Z", false)
  | 48 => ("SecondTellingModel", "undoMany", "I", false)
  | 49 => ("SecondTellingModel", "tryWhat", "I", false)
  | 50 => ("SecondTellingModel", "tryMan", "I", false)
  | 51 => ("SecondTellingModel", "bentOne", "I", false)
  | 52 => ("SecondTellingModel", "bentTried", "I", false)
  | 53 => ("SecondTellingModel", "hushed", "I", false)
  | 54 => ("SecondTellingModel", "wouldBe", "[I", true)
  | 55 => ("SecondTellingModel", "matchNow", "[I", true)
  | 56 => ("SecondTellingModel", "matchBest", "[I", true)
  | 57 => ("SecondTellingModel", "matchMost", "I", false)
  | 58 => ("SecondTellingModel", "notes", "I", false)
  | 59 => ("SecondTellingModel", "knownBy", "I", false)
  | 60 => ("SecondTellingModel", "noteDays", "[I", true)
  | 61 => ("SecondTellingModel", "noteOf", "[I", true)
  | 62 => ("SecondTellingModel", "noteHats", "[I", true)
  | 63 => ("SecondTellingModel", "noteIs", "[Z", true)
  | 64 => ("SecondTellingModel", "outs", "[I", true)
  | 65 => ("SecondTellingModel", "isOut", "[Z", true)
  | _ => ("SecondTellingModel", "wouldHave", "[I", true)
def tyX10 : Nat → FieldType := fun k => match k with
  | 0 => .int
  | 1 => .array .int
  | 2 => .int
  | 3 => .array .int
  | 4 => .array .int
  | 5 => .array .int
  | 6 => .array .int
  | 7 => .array .int
  | 8 => .array .int
  | 9 => .array .int
  | 10 => .array .int
  | 11 => .array .int
  | 12 => .array .int
  | 13 => .array .int
  | 14 => .array .int
  | 15 => .array .int
  | 16 => .array .int
  | 17 => .array .int
  | 18 => .array .int
  | 19 => .array .int
  | 20 => .array .int
  | 21 => .int
  | 22 => .int
  | 23 => .int
  | 24 => .int
  | 25 => .int
  | 26 => .int
  | 27 => .int
  | 28 => .int
  | 29 => .int
  | 30 => .int
  | 31 => .int
  | 32 => .int
  | 33 => .int
  | 34 => .array .long
  | 35 => .array .long
  | 36 => .int
  | 37 => .array .int
  | 38 => .array .int
  | 39 => .array .int
  | 40 => .array .int
  | 41 => .array .int
  | 42 => .array .int
  | 43 => .array .int
  | 44 => .array .int
  | 45 => .array .int
  | 46 => .array .int
  | 47 => .boolean
  | 48 => .int
  | 49 => .int
  | 50 => .int
  | 51 => .int
  | 52 => .int
  | 53 => .int
  | 54 => .array .int
  | 55 => .array .int
  | 56 => .array .int
  | 57 => .int
  | 58 => .int
  | 59 => .int
  | 60 => .array .int
  | 61 => .array .int
  | 62 => .array .int
  | 63 => .array .boolean
  | 64 => .array .int
  | 65 => .array .boolean
  | _ => .array .int
abbrev wsX100 : List Cond := u_ws RX10 TX10 67
theorem nmX10 : ∀ a, a < 67 → ∀ b, b < 67 → a ≠ b → (TX10 a).2.1 ≠ (TX10 b).2.1 := by decide +kernel
theorem tyX10_ok : ∀ k, k < 67 → parseFieldDescriptor (TX10 k).2.2.1 = some (tyX10 k) := by decide +kernel
abbrev cX10_init : ByteArray := prog_12_method_1_code
def yX10_init : MethodName := ⟨RX10, "<init>", "()V"⟩
abbrev cX10_thrown : ByteArray := prog_12_method_2_code
def yX10_thrown : MethodName := ⟨RX10, "thrown", "()I"⟩
abbrev cX10_feed : ByteArray := prog_12_method_3_code
def yX10_feed : MethodName := ⟨RX10, "feed", "(IIIII)I"⟩
abbrev cX10_here : ByteArray := prog_12_method_4_code
def yX10_here : MethodName := ⟨RX10, "here", "()I"⟩
abbrev cX10_isSmall : ByteArray := prog_12_method_5_code
def yX10_isSmall : MethodName := ⟨RX10, "isSmall", "(I)Z"⟩
abbrev cX10_isDigit : ByteArray := prog_12_method_6_code
def yX10_isDigit : MethodName := ⟨RX10, "isDigit", "(I)Z"⟩
abbrev cX10_token : ByteArray := prog_12_method_7_code
def yX10_token : MethodName := ⟨RX10, "token", "()V"⟩
abbrev cX10_sign : ByteArray := prog_12_method_8_code
def yX10_sign : MethodName := ⟨RX10, "sign", "(I)V"⟩
abbrev cX10_word : ByteArray := prog_12_method_9_code
def yX10_word : MethodName := ⟨RX10, "word", "()I"⟩
abbrev cX10_name : ByteArray := prog_12_method_10_code
def yX10_name : MethodName := ⟨RX10, "name", "()V"⟩
abbrev cX10_wrong : ByteArray := prog_12_method_11_code
def yX10_wrong : MethodName := ⟨RX10, "wrong", "(I)V"⟩
abbrev cX10_isWord : ByteArray := prog_12_method_12_code
def yX10_isWord : MethodName := ⟨RX10, "isWord", "(I)Z"⟩
abbrev cX10_isSign : ByteArray := prog_12_method_13_code
def yX10_isSign : MethodName := ⟨RX10, "isSign", "(I)Z"⟩
abbrev cX10_goOn : ByteArray := prog_12_method_14_code
def yX10_goOn : MethodName := ⟨RX10, "goOn", "()V"⟩
abbrev cX10_numeral : ByteArray := prog_12_method_15_code
def yX10_numeral : MethodName := ⟨RX10, "numeral", "(II)I"⟩
abbrev cX10_found : ByteArray := prog_12_method_16_code
def yX10_found : MethodName := ⟨RX10, "found", "([IIII)I"⟩
abbrev cX10_fresh : ByteArray := prog_12_method_17_code
def yX10_fresh : MethodName := ⟨RX10, "fresh", "([III)I"⟩
abbrev cX10_fresher : ByteArray := prog_12_method_18_code
def yX10_fresher : MethodName := ⟨RX10, "fresher", "(I)I"⟩
abbrev cX10_reads : ByteArray := prog_12_method_19_code
def yX10_reads : MethodName := ⟨RX10, "reads", "(II)V"⟩
abbrev cX10_atHand : ByteArray := prog_12_method_20_code
def yX10_atHand : MethodName := ⟨RX10, "atHand", "([III)I"⟩
abbrev cX10_manAtHand : ByteArray := prog_12_method_21_code
def yX10_manAtHand : MethodName := ⟨RX10, "manAtHand", "()I"⟩
abbrev cX10_manAhead : ByteArray := prog_12_method_22_code
def yX10_manAhead : MethodName := ⟨RX10, "manAhead", "()I"⟩
abbrev cX10_thingAhead : ByteArray := prog_12_method_23_code
def yX10_thingAhead : MethodName := ⟨RX10, "thingAhead", "()I"⟩
abbrev cX10_isFull : ByteArray := prog_12_method_24_code
def yX10_isFull : MethodName := ⟨RX10, "isFull", "(I)Z"⟩
abbrev cX10_line : ByteArray := prog_12_method_25_code
def yX10_line : MethodName := ⟨RX10, "line", "()V"⟩
abbrev cX10_seesLine : ByteArray := prog_12_method_26_code
def yX10_seesLine : MethodName := ⟨RX10, "seesLine", "()V"⟩
abbrev cX10_lawLine : ByteArray := prog_12_method_27_code
def yX10_lawLine : MethodName := ⟨RX10, "lawLine", "()V"⟩
abbrev cX10_puts : ByteArray := prog_12_method_28_code
def yX10_puts : MethodName := ⟨RX10, "puts", "(II)V"⟩
abbrev cX10_knot : ByteArray := prog_12_method_29_code
def yX10_knot : MethodName := ⟨RX10, "knot", "()V"⟩
abbrev cX10_expression : ByteArray := prog_12_method_30_code
def yX10_expression : MethodName := ⟨RX10, "expression", "()V"⟩
abbrev cX10_conjunction : ByteArray := prog_12_method_31_code
def yX10_conjunction : MethodName := ⟨RX10, "conjunction", "()V"⟩
abbrev cX10_negation : ByteArray := prog_12_method_32_code
def yX10_negation : MethodName := ⟨RX10, "negation", "()V"⟩
abbrev cX10_sum : ByteArray := prog_12_method_33_code
def yX10_sum : MethodName := ⟨RX10, "sum", "()V"⟩
abbrev cX10_product : ByteArray := prog_12_method_34_code
def yX10_product : MethodName := ⟨RX10, "product", "()V"⟩
abbrev cX10_primary : ByteArray := prog_12_method_35_code
def yX10_primary : MethodName := ⟨RX10, "primary", "()V"⟩
abbrev cX10_half : ByteArray := prog_12_method_36_code
def yX10_half : MethodName := ⟨RX10, "half", "([I)V"⟩
abbrev cX10_text : ByteArray := prog_12_method_37_code
def yX10_text : MethodName := ⟨RX10, "text", "(I)I"⟩
abbrev cX10_fault : ByteArray := prog_12_method_38_code
def yX10_fault : MethodName := ⟨RX10, "fault", "(I)I"⟩
abbrev cX10_named : ByteArray := prog_12_method_39_code
def yX10_named : MethodName := ⟨RX10, "named", "(II)I"⟩
abbrev cX10_is : ByteArray := prog_12_method_40_code
def yX10_is : MethodName := ⟨RX10, "is", "(Z)J"⟩
abbrev cX10_works : ByteArray := prog_12_method_41_code
def yX10_works : MethodName := ⟨RX10, "works", "(I)Z"⟩
abbrev cX10_goes : ByteArray := prog_12_method_42_code
def yX10_goes : MethodName := ⟨RX10, "goes", "(I)Z"⟩
abbrev cX10_hasLaw : ByteArray := prog_12_method_43_code
def yX10_hasLaw : MethodName := ⟨RX10, "hasLaw", "(I)Z"⟩
abbrev cX10_starts : ByteArray := prog_12_method_44_code
def yX10_starts : MethodName := ⟨RX10, "starts", "(I)V"⟩
abbrev cX10_begins : ByteArray := prog_12_method_45_code
def yX10_begins : MethodName := ⟨RX10, "begins", "()V"⟩
abbrev cX10_copies : ByteArray := prog_12_method_46_code
def yX10_copies : MethodName := ⟨RX10, "copies", "(II)V"⟩
abbrev cX10_isMan : ByteArray := prog_12_method_47_code
def yX10_isMan : MethodName := ⟨RX10, "isMan", "(I)Z"⟩
abbrev cX10_isThing : ByteArray := prog_12_method_48_code
def yX10_isThing : MethodName := ⟨RX10, "isThing", "(I)Z"⟩
abbrev cX10_slot : ByteArray := prog_12_method_49_code
def yX10_slot : MethodName := ⟨RX10, "slot", "(III)I"⟩
abbrev cX10_doesHave : ByteArray := prog_12_method_50_code
def yX10_doesHave : MethodName := ⟨RX10, "doesHave", "(III)Z"⟩
abbrev cX10_isPrinted : ByteArray := prog_12_method_51_code
def yX10_isPrinted : MethodName := ⟨RX10, "isPrinted", "(III)Z"⟩
abbrev cX10_isNews : ByteArray := prog_12_method_52_code
def yX10_isNews : MethodName := ⟨RX10, "isNews", "(II)Z"⟩
abbrev cX10_chainOf : ByteArray := prog_12_method_53_code
def yX10_chainOf : MethodName := ⟨RX10, "chainOf", "(III)I"⟩
abbrev cX10_bitsOf : ByteArray := prog_12_method_54_code
def yX10_bitsOf : MethodName := ⟨RX10, "bitsOf", "(I)I"⟩
abbrev cX10_whoHas : ByteArray := prog_12_method_55_code
def yX10_whoHas : MethodName := ⟨RX10, "whoHas", "(II)I"⟩
abbrev cX10_whoPrinted : ByteArray := prog_12_method_56_code
def yX10_whoPrinted : MethodName := ⟨RX10, "whoPrinted", "(II)I"⟩
abbrev cX10_bentOf : ByteArray := prog_12_method_57_code
def yX10_bentOf : MethodName := ⟨RX10, "bentOf", "(I)I"⟩
abbrev cX10_calls : ByteArray := prog_12_method_58_code
def yX10_calls : MethodName := ⟨RX10, "calls", "(IIII)V"⟩
abbrev cX10_within : ByteArray := prog_12_method_59_code
def yX10_within : MethodName := ⟨RX10, "within", "(III)I"⟩
abbrev cX10_doesFit : ByteArray := prog_12_method_60_code
def yX10_doesFit : MethodName := ⟨RX10, "doesFit", "(IIIII)Z"⟩
abbrev cX10_firstFit : ByteArray := prog_12_method_61_code
def yX10_firstFit : MethodName := ⟨RX10, "firstFit", "(III)I"⟩
abbrev cX10_changed : ByteArray := prog_12_method_62_code
def yX10_changed : MethodName := ⟨RX10, "changed", "(III)I"⟩
abbrev cX10_hearsNow : ByteArray := prog_12_method_63_code
def yX10_hearsNow : MethodName := ⟨RX10, "hearsNow", "(IIII)V"⟩
abbrev cX10_tells : ByteArray := prog_12_method_64_code
def yX10_tells : MethodName := ⟨RX10, "tells", "(III)Z"⟩
abbrev cX10_doesTalk : ByteArray := prog_12_method_65_code
def yX10_doesTalk : MethodName := ⟨RX10, "doesTalk", "(IZ)Z"⟩
abbrev cX10_isShut : ByteArray := prog_12_method_66_code
def yX10_isShut : MethodName := ⟨RX10, "isShut", "(I)Z"⟩
abbrev cX10_talks : ByteArray := prog_12_method_67_code
def yX10_talks : MethodName := ⟨RX10, "talks", "(IIZ)V"⟩
abbrev cX10_passes : ByteArray := prog_12_method_68_code
def yX10_passes : MethodName := ⟨RX10, "passes", "(IZ)V"⟩
abbrev cX10_goesOn : ByteArray := prog_12_method_69_code
def yX10_goesOn : MethodName := ⟨RX10, "goesOn", "(I)V"⟩
abbrev cX10_newsMany : ByteArray := prog_12_method_70_code
def yX10_newsMany : MethodName := ⟨RX10, "newsMany", "(I)I"⟩
abbrev cX10_allOf : ByteArray := prog_12_method_71_code
def yX10_allOf : MethodName := ⟨RX10, "allOf", "(Z)I"⟩
abbrev cX10_thing : ByteArray := prog_12_method_72_code
def yX10_thing : MethodName := ⟨RX10, "thing", "(II)I"⟩
abbrev cX10_has : ByteArray := prog_12_method_73_code
def yX10_has : MethodName := ⟨RX10, "has", "(III)I"⟩
abbrev cX10_bent : ByteArray := prog_12_method_74_code
def yX10_bent : MethodName := ⟨RX10, "bent", "(I)I"⟩
abbrev cX10_law : ByteArray := prog_12_method_75_code
def yX10_law : MethodName := ⟨RX10, "law", "(IIII)J"⟩
abbrev cX10_keepNow : ByteArray := prog_12_method_76_code
def yX10_keepNow : MethodName := ⟨RX10, "keepNow", "()V"⟩
abbrev cX10_hear : ByteArray := prog_12_method_77_code
def yX10_hear : MethodName := ⟨RX10, "hear", "(III)I"⟩
abbrev cX10_tell : ByteArray := prog_12_method_78_code
def yX10_tell : MethodName := ⟨RX10, "tell", "(II)I"⟩
abbrev cX10_forget : ByteArray := prog_12_method_79_code
def yX10_forget : MethodName := ⟨RX10, "forget", "(II)Z"⟩
abbrev cX10_go : ByteArray := prog_12_method_80_code
def yX10_go : MethodName := ⟨RX10, "go", "(I)I"⟩
abbrev cX10_ahead : ByteArray := prog_12_method_81_code
def yX10_ahead : MethodName := ⟨RX10, "ahead", "(III)I"⟩
abbrev cX10_when : ByteArray := prog_12_method_82_code
def yX10_when : MethodName := ⟨RX10, "when", "(I)I"⟩
abbrev cX10_hears : ByteArray := prog_12_method_83_code
def yX10_hears : MethodName := ⟨RX10, "hears", "(II)I"⟩
abbrev cX10_areTwo : ByteArray := prog_12_method_84_code
def yX10_areTwo : MethodName := ⟨RX10, "areTwo", "(III)Z"⟩
abbrev cX10_joined : ByteArray := prog_12_method_85_code
def yX10_joined : MethodName := ⟨RX10, "joined", "(III)I"⟩
abbrev cX10_doPair : ByteArray := prog_12_method_86_code
def yX10_doPair : MethodName := ⟨RX10, "doPair", "(III)Z"⟩
abbrev cX10_pairs : ByteArray := prog_12_method_87_code
def yX10_pairs : MethodName := ⟨RX10, "pairs", "(I)I"⟩
abbrev cX10_reachOf : ByteArray := prog_12_method_88_code
def yX10_reachOf : MethodName := ⟨RX10, "reachOf", "(I)I"⟩
abbrev cX10_reach : ByteArray := prog_12_method_89_code
def yX10_reach : MethodName := ⟨RX10, "reach", "(I)I"⟩
abbrev cX10_doesHush : ByteArray := prog_12_method_90_code
def yX10_doesHush : MethodName := ⟨RX10, "doesHush", "(II)Z"⟩
abbrev cX10_hush : ByteArray := prog_12_method_91_code
def yX10_hush : MethodName := ⟨RX10, "hush", "(I)I"⟩
abbrev cX10_spread : ByteArray := prog_12_method_92_code
def yX10_spread : MethodName := ⟨RX10, "spread", "()I"⟩
abbrev cX10_lone : ByteArray := prog_12_method_93_code
def yX10_lone : MethodName := ⟨RX10, "lone", "()I"⟩
abbrev cX10_matches : ByteArray := prog_12_method_94_code
def yX10_matches : MethodName := ⟨RX10, "matches", "(III)V"⟩
abbrev cX10_match : ByteArray := prog_12_method_95_code
def yX10_match : MethodName := ⟨RX10, "match", "(I)I"⟩
abbrev cX10_hasOf : ByteArray := prog_12_method_96_code
def yX10_hasOf : MethodName := ⟨RX10, "hasOf", "(ZII)I"⟩
abbrev cX10_isRest : ByteArray := prog_12_method_97_code
def yX10_isRest : MethodName := ⟨RX10, "isRest", "(ZI)Z"⟩
abbrev cX10_restOf : ByteArray := prog_12_method_98_code
def yX10_restOf : MethodName := ⟨RX10, "restOf", "(IIII)I"⟩
abbrev cX10_rests : ByteArray := prog_12_method_99_code
def yX10_rests : MethodName := ⟨RX10, "rests", "(III)I"⟩
abbrev cX10_rest : ByteArray := prog_12_method_100_code
def yX10_rest : MethodName := ⟨RX10, "rest", "(IIII)I"⟩
abbrev cX10_common : ByteArray := prog_12_method_101_code
def yX10_common : MethodName := ⟨RX10, "common", "(JJ)J"⟩
abbrev cX10_silent : ByteArray := prog_12_method_102_code
def yX10_silent : MethodName := ⟨RX10, "silent", "(II)J"⟩
abbrev cX10_see : ByteArray := prog_12_method_103_code
def yX10_see : MethodName := ⟨RX10, "see", "(IIIIZ)I"⟩
abbrev cX10_strike : ByteArray := prog_12_method_104_code
def yX10_strike : MethodName := ⟨RX10, "strike", "(I)I"⟩
abbrev cX10_known : ByteArray := prog_12_method_105_code
def yX10_known : MethodName := ⟨RX10, "known", "(I)Z"⟩
abbrev cX10_knownMany : ByteArray := prog_12_method_106_code
def yX10_knownMany : MethodName := ⟨RX10, "knownMany", "()I"⟩
abbrev cX10_isSo : ByteArray := prog_12_method_107_code
def yX10_isSo : MethodName := ⟨RX10, "isSo", "(I)Z"⟩
abbrev cX10_fitsBent : ByteArray := prog_12_method_108_code
def yX10_fitsBent : MethodName := ⟨RX10, "fitsBent", "(I)Z"⟩
abbrev cX10_bentsOf : ByteArray := prog_12_method_109_code
def yX10_bentsOf : MethodName := ⟨RX10, "bentsOf", "(I)I"⟩
abbrev cX10_bents : ByteArray := prog_12_method_110_code
def yX10_bents : MethodName := ⟨RX10, "bents", "(I)I"⟩
abbrev cX10_worstOf : ByteArray := prog_12_method_111_code
def yX10_worstOf : MethodName := ⟨RX10, "worstOf", "(II)I"⟩
abbrev cX10_ask : ByteArray := prog_12_method_112_code
def yX10_ask : MethodName := ⟨RX10, "ask", "(III)I"⟩
abbrev cX10_chance : ByteArray := prog_12_method_113_code
def yX10_chance : MethodName := ⟨RX10, "chance", "(IIII)I"⟩
abbrev cX10_tried : ByteArray := prog_12_method_114_code
def yX10_tried : MethodName := ⟨RX10, "tried", "(III)I"⟩
abbrev cX10_undo : ByteArray := prog_12_method_115_code
def yX10_undo : MethodName := ⟨RX10, "undo", "()I"⟩
abbrev cX10_keep : ByteArray := prog_12_method_116_code
def yX10_keep : MethodName := ⟨RX10, "keep", "()I"⟩
abbrev cX10_back : ByteArray := prog_12_method_117_code
def yX10_back : MethodName := ⟨RX10, "back", "()I"⟩
abbrev cX10_count : ByteArray := prog_12_method_118_code
def yX10_count : MethodName := ⟨RX10, "count", "(I)I"⟩
def RJx145de : String := "java/io/Serializable"
def TJx145de : u_T := fun k => match k with
  | _ => ("", "", "", false)
def tyJx145de : Nat → FieldType := fun k => match k with
  | _ => .int
abbrev wsJx145de0 : List Cond := u_ws RJx145de TJx145de 0
theorem nmJx145de : ∀ a, a < 0 → ∀ b, b < 0 → a ≠ b → (TJx145de a).2.1 ≠ (TJx145de b).2.1 := by decide +kernel
theorem tyJx145de_ok : ∀ k, k < 0 → parseFieldDescriptor (TJx145de k).2.2.1 = some (tyJx145de k) := by decide +kernel
def RJx9f9b0 : String := "java/lang/CharSequence"
def TJx9f9b0 : u_T := fun k => match k with
  | _ => ("", "", "", false)
def tyJx9f9b0 : Nat → FieldType := fun k => match k with
  | _ => .int
abbrev wsJx9f9b00 : List Cond := u_ws RJx9f9b0 TJx9f9b0 0
theorem nmJx9f9b0 : ∀ a, a < 0 → ∀ b, b < 0 → a ≠ b → (TJx9f9b0 a).2.1 ≠ (TJx9f9b0 b).2.1 := by decide +kernel
theorem tyJx9f9b0_ok : ∀ k, k < 0 → parseFieldDescriptor (TJx9f9b0 k).2.2.1 = some (tyJx9f9b0 k) := by decide +kernel
def RJxb160c : String := "java/lang/Comparable"
def TJxb160c : u_T := fun k => match k with
  | _ => ("", "", "", false)
def tyJxb160c : Nat → FieldType := fun k => match k with
  | _ => .int
abbrev wsJxb160c0 : List Cond := u_ws RJxb160c TJxb160c 0
theorem nmJxb160c : ∀ a, a < 0 → ∀ b, b < 0 → a ≠ b → (TJxb160c a).2.1 ≠ (TJxb160c b).2.1 := by decide +kernel
theorem tyJxb160c_ok : ∀ k, k < 0 → parseFieldDescriptor (TJxb160c k).2.2.1 = some (tyJxb160c k) := by decide +kernel
def RJ6 : String := "java/lang/Integer"
def TJ6 : u_T := fun k => match k with
  | _ => ("", "", "", false)
def tyJ6 : Nat → FieldType := fun k => match k with
  | _ => .int
abbrev wsJ60 : List Cond := u_ws RJ6 TJ6 0
theorem nmJ6 : ∀ a, a < 0 → ∀ b, b < 0 → a ≠ b → (TJ6 a).2.1 ≠ (TJ6 b).2.1 := by decide +kernel
theorem tyJ6_ok : ∀ k, k < 0 → parseFieldDescriptor (TJ6 k).2.2.1 = some (tyJ6 k) := by decide +kernel
abbrev cJ6_bitCount_0f7a4 : ByteArray := prog_18_method_49_code
def yJ6_bitCount_0f7a4 : MethodName := ⟨RJ6, "bitCount", "(I)I"⟩
def RJ9 : String := "java/lang/Math"
def TJ9 : u_T := fun k => match k with
  | _ => ("", "", "", false)
def tyJ9 : Nat → FieldType := fun k => match k with
  | _ => .int
abbrev wsJ90 : List Cond := u_ws RJ9 TJ9 0
theorem nmJ9 : ∀ a, a < 0 → ∀ b, b < 0 → a ≠ b → (TJ9 a).2.1 ≠ (TJ9 b).2.1 := by decide +kernel
theorem tyJ9_ok : ∀ k, k < 0 → parseFieldDescriptor (TJ9 k).2.2.1 = some (tyJ9 k) := by decide +kernel
abbrev cJ9_abs_0f7a4 : ByteArray := prog_19_method_59_code
def yJ9_abs_0f7a4 : MethodName := ⟨RJ9, "abs", "(I)I"⟩
abbrev cJ9_abs_067f4 : ByteArray := prog_19_method_61_code
def yJ9_abs_067f4 : MethodName := ⟨RJ9, "abs", "(J)J"⟩
abbrev cJ9_max_7cf53 : ByteArray := prog_19_method_65_code
def yJ9_max_7cf53 : MethodName := ⟨RJ9, "max", "(II)I"⟩
abbrev cJ9_max_f86c9 : ByteArray := prog_19_method_66_code
def yJ9_max_f86c9 : MethodName := ⟨RJ9, "max", "(JJ)J"⟩
abbrev cJ9_min_7cf53 : ByteArray := prog_19_method_69_code
def yJ9_min_7cf53 : MethodName := ⟨RJ9, "min", "(II)I"⟩
abbrev cJ9_min_f86c9 : ByteArray := prog_19_method_70_code
def yJ9_min_f86c9 : MethodName := ⟨RJ9, "min", "(JJ)J"⟩
def RJ0 : String := "java/lang/String"
def TJ0 : u_T := fun k => match k with
  | _ => ("", "", "", false)
def tyJ0 : Nat → FieldType := fun k => match k with
  | _ => .int
abbrev wsJ00 : List Cond := u_ws RJ0 TJ0 0
theorem nmJ0 : ∀ a, a < 0 → ∀ b, b < 0 → a ≠ b → (TJ0 a).2.1 ≠ (TJ0 b).2.1 := by decide +kernel
theorem tyJ0_ok : ∀ k, k < 0 → parseFieldDescriptor (TJ0 k).2.2.1 = some (tyJ0 k) := by decide +kernel
abbrev cJ0_length_8abf5 : ByteArray := prog_21_method_54_code
def yJ0_length_8abf5 : MethodName := ⟨RJ0, "length", "()I"⟩
abbrev cJ0_charAt_5068e : ByteArray := prog_21_method_56_code
def yJ0_charAt_5068e : MethodName := ⟨RJ0, "charAt", "(I)C"⟩
abbrev cJ0_coder_7d493 : ByteArray := prog_21_method_152_code
def yJ0_coder_7d493 : MethodName := ⟨RJ0, "coder", "()B"⟩
abbrev cJ0_isLatin1_aae02 : ByteArray := prog_21_method_154_code
def yJ0_isLatin1_aae02 : MethodName := ⟨RJ0, "isLatin1", "()Z"⟩
abbrev cJ0_checkIndex_df160 : ByteArray := prog_21_method_155_code
def yJ0_checkIndex_df160 : MethodName := ⟨RJ0, "checkIndex", "(II)V"⟩
def RJ1 : String := "java/lang/StringLatin1"
def TJ1 : u_T := fun k => match k with
  | _ => ("", "", "", false)
def tyJ1 : Nat → FieldType := fun k => match k with
  | _ => .int
abbrev wsJ10 : List Cond := u_ws RJ1 TJ1 0
theorem nmJ1 : ∀ a, a < 0 → ∀ b, b < 0 → a ≠ b → (TJ1 a).2.1 ≠ (TJ1 b).2.1 := by decide +kernel
theorem tyJ1_ok : ∀ k, k < 0 → parseFieldDescriptor (TJ1 k).2.2.1 = some (tyJ1 k) := by decide +kernel
abbrev cJ1_charAt_3b067 : ByteArray := prog_22_method_2_code
def yJ1_charAt_3b067 : MethodName := ⟨RJ1, "charAt", "([BI)C"⟩
def RJ2 : String := "java/lang/StringUTF16"
def TJ2 : u_T := fun k => match k with
  | _ => ("", "", "", false)
def tyJ2 : Nat → FieldType := fun k => match k with
  | _ => .int
abbrev wsJ20 : List Cond := u_ws RJ2 TJ2 0
theorem nmJ2 : ∀ a, a < 0 → ∀ b, b < 0 → a ≠ b → (TJ2 a).2.1 ≠ (TJ2 b).2.1 := by decide +kernel
theorem tyJ2_ok : ∀ k, k < 0 → parseFieldDescriptor (TJ2 k).2.2.1 = some (tyJ2 k) := by decide +kernel
abbrev cJ2_getChar_3b067 : ByteArray := prog_23_method_5_code
def yJ2_getChar_3b067 : MethodName := ⟨RJ2, "getChar", "([BI)C"⟩
abbrev cJ2_length_9d52b : ByteArray := prog_23_method_6_code
def yJ2_length_9d52b : MethodName := ⟨RJ2, "length", "([B)I"⟩
abbrev cJ2_charAt_3b067 : ByteArray := prog_23_method_83_code
def yJ2_charAt_3b067 : MethodName := ⟨RJ2, "charAt", "([BI)C"⟩
abbrev cJ2_checkIndex_2214a : ByteArray := prog_23_method_91_code
def yJ2_checkIndex_2214a : MethodName := ⟨RJ2, "checkIndex", "(I[B)V"⟩
def RJ10 : String := "java/lang/System"
def TJ10 : u_T := fun k => match k with
  | _ => ("", "", "", false)
def tyJ10 : Nat → FieldType := fun k => match k with
  | _ => .int
abbrev wsJ100 : List Cond := u_ws RJ10 TJ10 0
theorem nmJ10 : ∀ a, a < 0 → ∀ b, b < 0 → a ≠ b → (TJ10 a).2.1 ≠ (TJ10 b).2.1 := by decide +kernel
theorem tyJ10_ok : ∀ k, k < 0 → parseFieldDescriptor (TJ10 k).2.2.1 = some (tyJ10 k) := by decide +kernel
def RJxfd54e : String := "java/lang/constant/Constable"
def TJxfd54e : u_T := fun k => match k with
  | _ => ("", "", "", false)
def tyJxfd54e : Nat → FieldType := fun k => match k with
  | _ => .int
abbrev wsJxfd54e0 : List Cond := u_ws RJxfd54e TJxfd54e 0
theorem nmJxfd54e : ∀ a, a < 0 → ∀ b, b < 0 → a ≠ b → (TJxfd54e a).2.1 ≠ (TJxfd54e b).2.1 := by decide +kernel
theorem tyJxfd54e_ok : ∀ k, k < 0 → parseFieldDescriptor (TJxfd54e k).2.2.1 = some (tyJxfd54e k) := by decide +kernel
def RJx3cf43 : String := "java/lang/constant/ConstantDesc"
def TJx3cf43 : u_T := fun k => match k with
  | _ => ("", "", "", false)
def tyJx3cf43 : Nat → FieldType := fun k => match k with
  | _ => .int
abbrev wsJx3cf430 : List Cond := u_ws RJx3cf43 TJx3cf43 0
theorem nmJx3cf43 : ∀ a, a < 0 → ∀ b, b < 0 → a ≠ b → (TJx3cf43 a).2.1 ≠ (TJx3cf43 b).2.1 := by decide +kernel
theorem tyJx3cf43_ok : ∀ k, k < 0 → parseFieldDescriptor (TJx3cf43 k).2.2.1 = some (tyJx3cf43 k) := by decide +kernel
def RJ3 : String := "jdk/internal/util/Preconditions"
def TJ3 : u_T := fun k => match k with
  | _ => ("", "", "", false)
def tyJ3 : Nat → FieldType := fun k => match k with
  | _ => .int
abbrev wsJ30 : List Cond := u_ws RJ3 TJ3 0
theorem nmJ3 : ∀ a, a < 0 → ∀ b, b < 0 → a ≠ b → (TJ3 a).2.1 ≠ (TJ3 b).2.1 := by decide +kernel
theorem tyJ3_ok : ∀ k, k < 0 → parseFieldDescriptor (TJ3 k).2.2.1 = some (tyJ3 k) := by decide +kernel
abbrev cJ3_checkIndex_8e157 : ByteArray := prog_29_method_11_code
def yJ3_checkIndex_8e157 : MethodName := ⟨RJ3, "checkIndex", "(IILjava/util/function/BiFunction;)I"⟩
def RL : String := "SecondTellingLaw"
abbrev cL_thing : ByteArray := method_3_code
def yL_thing : MethodName := ⟨RL, "thing", "(LSecondTelling;II[J)I"⟩
abbrev cL_law : ByteArray := code
def yL_law : MethodName := ⟨RL, "law", "([I)Z"⟩
