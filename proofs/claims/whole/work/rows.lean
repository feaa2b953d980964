section
-- ===== PART A: goes FIRST, ahead of the names: the tables' words, and 'selects' of the private methods out of them =====
/-- a private method of a class that the tables say can be made, by its rows of tables_1 -/
def lw_okq (q : MethodName × Nat) : Prop := (q.1.cls ≠ "java/lang/invoke/MethodHandle" ∧ q.1.cls ≠ "java/lang/invoke/VarHandle") ∧ Cond.instantiable q.1.cls q.2 ∈ tables_1 ∧ Cond.privateMethod q.1 ∈ tables_1 ∧ Cond.instanceMethod q.1 ∈ tables_1
theorem lw_p0 : lw_okq (⟨"PuddleStairs$Water", "dryUp", "()V"⟩, 5) := ⟨⟨by decide +kernel, by decide +kernel⟩, List.mem_of_getElem? (i := 23) (by decide +kernel), List.mem_of_getElem? (i := 228) (by decide +kernel), List.mem_of_getElem? (i := 229) (by decide +kernel)⟩
theorem lw_p1 : lw_okq (⟨"PuddleStairs$Water", "runDown", "()I"⟩, 5) := ⟨⟨by decide +kernel, by decide +kernel⟩, List.mem_of_getElem? (i := 23) (by decide +kernel), List.mem_of_getElem? (i := 232) (by decide +kernel), List.mem_of_getElem? (i := 233) (by decide +kernel)⟩
theorem lw_p2 : lw_okq (⟨"java/lang/Throwable", "fillInStackTrace", "(I)Ljava/lang/Throwable;"⟩, 6) := ⟨⟨by decide +kernel, by decide +kernel⟩, List.mem_of_getElem? (i := 307) (by decide +kernel), List.mem_of_getElem? (i := 305) (by decide +kernel), List.mem_of_getElem? (i := 306) (by decide +kernel)⟩
theorem lw_p3 : lw_okq (⟨"PuddleStairs", "digestedFlights", "(J)J"⟩, 7) := ⟨⟨by decide +kernel, by decide +kernel⟩, List.mem_of_getElem? (i := 15) (by decide +kernel), List.mem_of_getElem? (i := 350) (by decide +kernel), List.mem_of_getElem? (i := 351) (by decide +kernel)⟩
theorem lw_p4 : lw_okq (⟨"PuddleStairs", "checkFlight", "(I)V"⟩, 7) := ⟨⟨by decide +kernel, by decide +kernel⟩, List.mem_of_getElem? (i := 15) (by decide +kernel), List.mem_of_getElem? (i := 358) (by decide +kernel), List.mem_of_getElem? (i := 359) (by decide +kernel)⟩
theorem lw_p5 : lw_okq (⟨"PuddleStairs", "digestedSteps", "(J)J"⟩, 7) := ⟨⟨by decide +kernel, by decide +kernel⟩, List.mem_of_getElem? (i := 15) (by decide +kernel), List.mem_of_getElem? (i := 406) (by decide +kernel), List.mem_of_getElem? (i := 407) (by decide +kernel)⟩
theorem lw_p6 : lw_okq (⟨"PuddleStairs", "checkStep", "(I)V"⟩, 7) := ⟨⟨by decide +kernel, by decide +kernel⟩, List.mem_of_getElem? (i := 15) (by decide +kernel), List.mem_of_getElem? (i := 414) (by decide +kernel), List.mem_of_getElem? (i := 415) (by decide +kernel)⟩
theorem lw_p7 : lw_okq (⟨"PuddleStairs", "digestedMarks", "(J)J"⟩, 7) := ⟨⟨by decide +kernel, by decide +kernel⟩, List.mem_of_getElem? (i := 15) (by decide +kernel), List.mem_of_getElem? (i := 422) (by decide +kernel), List.mem_of_getElem? (i := 423) (by decide +kernel)⟩
theorem lw_p8 : lw_okq (⟨"PuddleStairs", "checkMark", "(I)V"⟩, 7) := ⟨⟨by decide +kernel, by decide +kernel⟩, List.mem_of_getElem? (i := 15) (by decide +kernel), List.mem_of_getElem? (i := 430) (by decide +kernel), List.mem_of_getElem? (i := 431) (by decide +kernel)⟩
theorem lw_p9 : lw_okq (⟨"PuddleStairs", "checkPuddle", "(II)V"⟩, 7) := ⟨⟨by decide +kernel, by decide +kernel⟩, List.mem_of_getElem? (i := 15) (by decide +kernel), List.mem_of_getElem? (i := 462) (by decide +kernel), List.mem_of_getElem? (i := 463) (by decide +kernel)⟩
theorem lw_p10 : lw_okq (⟨"PuddleStairs", "keepDeed", "()V"⟩, 7) := ⟨⟨by decide +kernel, by decide +kernel⟩, List.mem_of_getElem? (i := 15) (by decide +kernel), List.mem_of_getElem? (i := 466) (by decide +kernel), List.mem_of_getElem? (i := 467) (by decide +kernel)⟩
theorem lw_p11 : lw_okq (⟨"PuddleStairs", "checkPart", "(IIII)V"⟩, 7) := ⟨⟨by decide +kernel, by decide +kernel⟩, List.mem_of_getElem? (i := 15) (by decide +kernel), List.mem_of_getElem? (i := 487) (by decide +kernel), List.mem_of_getElem? (i := 488) (by decide +kernel)⟩
theorem lw_p12 : lw_okq (⟨"PuddleStairsModel", "anew", "()V"⟩, 14) := ⟨⟨by decide +kernel, by decide +kernel⟩, List.mem_of_getElem? (i := 711) (by decide +kernel), List.mem_of_getElem? (i := 717) (by decide +kernel), List.mem_of_getElem? (i := 718) (by decide +kernel)⟩
theorem lw_p13 : lw_okq (⟨"PuddleStairsModel", "no", "(I)I"⟩, 14) := ⟨⟨by decide +kernel, by decide +kernel⟩, List.mem_of_getElem? (i := 711) (by decide +kernel), List.mem_of_getElem? (i := 775) (by decide +kernel), List.mem_of_getElem? (i := 776) (by decide +kernel)⟩
theorem lw_p14 : lw_okq (⟨"PuddleStairsModel", "all", "()I"⟩, 14) := ⟨⟨by decide +kernel, by decide +kernel⟩, List.mem_of_getElem? (i := 711) (by decide +kernel), List.mem_of_getElem? (i := 779) (by decide +kernel), List.mem_of_getElem? (i := 780) (by decide +kernel)⟩
theorem lw_p15 : lw_okq (⟨"PuddleStairsModel", "isFlight", "(I)Z"⟩, 14) := ⟨⟨by decide +kernel, by decide +kernel⟩, List.mem_of_getElem? (i := 711) (by decide +kernel), List.mem_of_getElem? (i := 787) (by decide +kernel), List.mem_of_getElem? (i := 788) (by decide +kernel)⟩
def lw_privs_1 : List (MethodName × Nat) := [(⟨"PuddleStairs$Water", "dryUp", "()V"⟩, 5), (⟨"PuddleStairs$Water", "runDown", "()I"⟩, 5), (⟨"java/lang/Throwable", "fillInStackTrace", "(I)Ljava/lang/Throwable;"⟩, 6), (⟨"PuddleStairs", "digestedFlights", "(J)J"⟩, 7), (⟨"PuddleStairs", "checkFlight", "(I)V"⟩, 7), (⟨"PuddleStairs", "digestedSteps", "(J)J"⟩, 7), (⟨"PuddleStairs", "checkStep", "(I)V"⟩, 7), (⟨"PuddleStairs", "digestedMarks", "(J)J"⟩, 7), (⟨"PuddleStairs", "checkMark", "(I)V"⟩, 7), (⟨"PuddleStairs", "checkPuddle", "(II)V"⟩, 7), (⟨"PuddleStairs", "keepDeed", "()V"⟩, 7), (⟨"PuddleStairs", "checkPart", "(IIII)V"⟩, 7), (⟨"PuddleStairsModel", "anew", "()V"⟩, 14), (⟨"PuddleStairsModel", "no", "(I)I"⟩, 14), (⟨"PuddleStairsModel", "all", "()I"⟩, 14), (⟨"PuddleStairsModel", "isFlight", "(I)Z"⟩, 14)]
theorem lw_r1 : ∀ q ∈ lw_privs_1, lw_okq q := List.forall_mem_cons.mpr ⟨lw_p0, List.forall_mem_cons.mpr ⟨lw_p1, List.forall_mem_cons.mpr ⟨lw_p2, List.forall_mem_cons.mpr ⟨lw_p3, List.forall_mem_cons.mpr ⟨lw_p4, List.forall_mem_cons.mpr ⟨lw_p5, List.forall_mem_cons.mpr ⟨lw_p6, List.forall_mem_cons.mpr ⟨lw_p7, List.forall_mem_cons.mpr ⟨lw_p8, List.forall_mem_cons.mpr ⟨lw_p9, List.forall_mem_cons.mpr ⟨lw_p10, List.forall_mem_cons.mpr ⟨lw_p11, List.forall_mem_cons.mpr ⟨lw_p12, List.forall_mem_cons.mpr ⟨lw_p13, List.forall_mem_cons.mpr ⟨lw_p14, List.forall_mem_cons.mpr ⟨lw_p15, fun _ h => absurd h List.not_mem_nil⟩⟩⟩⟩⟩⟩⟩⟩⟩⟩⟩⟩⟩⟩⟩⟩
theorem lw_p16 : lw_okq (⟨"PuddleStairsModel", "isStep", "(I)Z"⟩, 14) := ⟨⟨by decide +kernel, by decide +kernel⟩, List.mem_of_getElem? (i := 711) (by decide +kernel), List.mem_of_getElem? (i := 791) (by decide +kernel), List.mem_of_getElem? (i := 792) (by decide +kernel)⟩
theorem lw_p17 : lw_okq (⟨"PuddleStairsModel", "keep", "()V"⟩, 14) := ⟨⟨by decide +kernel, by decide +kernel⟩, List.mem_of_getElem? (i := 711) (by decide +kernel), List.mem_of_getElem? (i := 795) (by decide +kernel), List.mem_of_getElem? (i := 796) (by decide +kernel)⟩
theorem lw_p18 : lw_okq (⟨"PuddleStairsModel", "part", "(IIII)I"⟩, 14) := ⟨⟨by decide +kernel, by decide +kernel⟩, List.mem_of_getElem? (i := 711) (by decide +kernel), List.mem_of_getElem? (i := 806) (by decide +kernel), List.mem_of_getElem? (i := 807) (by decide +kernel)⟩
theorem lw_p19 : lw_okq (⟨"PuddleStairsModel", "change", "(II)I"⟩, 14) := ⟨⟨by decide +kernel, by decide +kernel⟩, List.mem_of_getElem? (i := 711) (by decide +kernel), List.mem_of_getElem? (i := 814) (by decide +kernel), List.mem_of_getElem? (i := 815) (by decide +kernel)⟩
theorem lw_p20 : lw_okq (⟨"PuddleStairsModel", "hourOn", "([II)I"⟩, 14) := ⟨⟨by decide +kernel, by decide +kernel⟩, List.mem_of_getElem? (i := 711) (by decide +kernel), List.mem_of_getElem? (i := 832) (by decide +kernel), List.mem_of_getElem? (i := 833) (by decide +kernel)⟩
theorem lw_p21 : lw_okq (⟨"PuddleStairsModel", "isMark", "(I)Z"⟩, 14) := ⟨⟨by decide +kernel, by decide +kernel⟩, List.mem_of_getElem? (i := 711) (by decide +kernel), List.mem_of_getElem? (i := 844) (by decide +kernel), List.mem_of_getElem? (i := 845) (by decide +kernel)⟩
theorem lw_p22 : lw_okq (⟨"PuddleStairsModel", "bring", "([II)I"⟩, 14) := ⟨⟨by decide +kernel, by decide +kernel⟩, List.mem_of_getElem? (i := 711) (by decide +kernel), List.mem_of_getElem? (i := 848) (by decide +kernel), List.mem_of_getElem? (i := 849) (by decide +kernel)⟩
theorem lw_p23 : lw_okq (⟨"PuddleStairsModel", "ok", "(I)I"⟩, 14) := ⟨⟨by decide +kernel, by decide +kernel⟩, List.mem_of_getElem? (i := 711) (by decide +kernel), List.mem_of_getElem? (i := 868) (by decide +kernel), List.mem_of_getElem? (i := 869) (by decide +kernel)⟩
theorem lw_p24 : lw_okq (⟨"PuddleStairsModel", "okay", "(J)J"⟩, 14) := ⟨⟨by decide +kernel, by decide +kernel⟩, List.mem_of_getElem? (i := 711) (by decide +kernel), List.mem_of_getElem? (i := 900) (by decide +kernel), List.mem_of_getElem? (i := 901) (by decide +kernel)⟩
theorem lw_p25 : lw_okq (⟨"PuddleStairsModel", "at", "(II)I"⟩, 14) := ⟨⟨by decide +kernel, by decide +kernel⟩, List.mem_of_getElem? (i := 711) (by decide +kernel), List.mem_of_getElem? (i := 908) (by decide +kernel), List.mem_of_getElem? (i := 909) (by decide +kernel)⟩
theorem lw_p26 : lw_okq (⟨"PuddleStairsModel", "added", "(IIII)J"⟩, 14) := ⟨⟨by decide +kernel, by decide +kernel⟩, List.mem_of_getElem? (i := 711) (by decide +kernel), List.mem_of_getElem? (i := 916) (by decide +kernel), List.mem_of_getElem? (i := 917) (by decide +kernel)⟩
theorem lw_p27 : lw_okq (⟨"PuddleStairsModel", "ofFlight", "(I)J"⟩, 14) := ⟨⟨by decide +kernel, by decide +kernel⟩, List.mem_of_getElem? (i := 711) (by decide +kernel), List.mem_of_getElem? (i := 928) (by decide +kernel), List.mem_of_getElem? (i := 929) (by decide +kernel)⟩
theorem lw_p28 : lw_okq (⟨"PuddleStairsModel", "ofStep", "(I)J"⟩, 14) := ⟨⟨by decide +kernel, by decide +kernel⟩, List.mem_of_getElem? (i := 711) (by decide +kernel), List.mem_of_getElem? (i := 936) (by decide +kernel), List.mem_of_getElem? (i := 937) (by decide +kernel)⟩
theorem lw_p29 : lw_okq (⟨"PuddleStairsModel", "sumOfAll", "()J"⟩, 14) := ⟨⟨by decide +kernel, by decide +kernel⟩, List.mem_of_getElem? (i := 711) (by decide +kernel), List.mem_of_getElem? (i := 944) (by decide +kernel), List.mem_of_getElem? (i := 945) (by decide +kernel)⟩
theorem lw_p30 : lw_okq (⟨"PuddleStairsModel", "reaching", "(II)I"⟩, 14) := ⟨⟨by decide +kernel, by decide +kernel⟩, List.mem_of_getElem? (i := 711) (by decide +kernel), List.mem_of_getElem? (i := 952) (by decide +kernel), List.mem_of_getElem? (i := 953) (by decide +kernel)⟩
theorem lw_p31 : lw_okq (⟨"PuddleStairsModel", "run", "(I)J"⟩, 14) := ⟨⟨by decide +kernel, by decide +kernel⟩, List.mem_of_getElem? (i := 711) (by decide +kernel), List.mem_of_getElem? (i := 960) (by decide +kernel), List.mem_of_getElem? (i := 961) (by decide +kernel)⟩
def lw_privs_2 : List (MethodName × Nat) := [(⟨"PuddleStairsModel", "isStep", "(I)Z"⟩, 14), (⟨"PuddleStairsModel", "keep", "()V"⟩, 14), (⟨"PuddleStairsModel", "part", "(IIII)I"⟩, 14), (⟨"PuddleStairsModel", "change", "(II)I"⟩, 14), (⟨"PuddleStairsModel", "hourOn", "([II)I"⟩, 14), (⟨"PuddleStairsModel", "isMark", "(I)Z"⟩, 14), (⟨"PuddleStairsModel", "bring", "([II)I"⟩, 14), (⟨"PuddleStairsModel", "ok", "(I)I"⟩, 14), (⟨"PuddleStairsModel", "okay", "(J)J"⟩, 14), (⟨"PuddleStairsModel", "at", "(II)I"⟩, 14), (⟨"PuddleStairsModel", "added", "(IIII)J"⟩, 14), (⟨"PuddleStairsModel", "ofFlight", "(I)J"⟩, 14), (⟨"PuddleStairsModel", "ofStep", "(I)J"⟩, 14), (⟨"PuddleStairsModel", "sumOfAll", "()J"⟩, 14), (⟨"PuddleStairsModel", "reaching", "(II)I"⟩, 14), (⟨"PuddleStairsModel", "run", "(I)J"⟩, 14)]
theorem lw_r2 : ∀ q ∈ lw_privs_2, lw_okq q := List.forall_mem_cons.mpr ⟨lw_p16, List.forall_mem_cons.mpr ⟨lw_p17, List.forall_mem_cons.mpr ⟨lw_p18, List.forall_mem_cons.mpr ⟨lw_p19, List.forall_mem_cons.mpr ⟨lw_p20, List.forall_mem_cons.mpr ⟨lw_p21, List.forall_mem_cons.mpr ⟨lw_p22, List.forall_mem_cons.mpr ⟨lw_p23, List.forall_mem_cons.mpr ⟨lw_p24, List.forall_mem_cons.mpr ⟨lw_p25, List.forall_mem_cons.mpr ⟨lw_p26, List.forall_mem_cons.mpr ⟨lw_p27, List.forall_mem_cons.mpr ⟨lw_p28, List.forall_mem_cons.mpr ⟨lw_p29, List.forall_mem_cons.mpr ⟨lw_p30, List.forall_mem_cons.mpr ⟨lw_p31, fun _ h => absurd h List.not_mem_nil⟩⟩⟩⟩⟩⟩⟩⟩⟩⟩⟩⟩⟩⟩⟩⟩
theorem lw_p32 : lw_okq (⟨"PuddleStairsModel", "dryPart", "(IIII)I"⟩, 14) := ⟨⟨by decide +kernel, by decide +kernel⟩, List.mem_of_getElem? (i := 711) (by decide +kernel), List.mem_of_getElem? (i := 969) (by decide +kernel), List.mem_of_getElem? (i := 970) (by decide +kernel)⟩
theorem lw_p33 : lw_okq (⟨"PuddleStairsModel", "dryNow", "()I"⟩, 14) := ⟨⟨by decide +kernel, by decide +kernel⟩, List.mem_of_getElem? (i := 711) (by decide +kernel), List.mem_of_getElem? (i := 977) (by decide +kernel), List.mem_of_getElem? (i := 978) (by decide +kernel)⟩
theorem lw_p34 : lw_okq (⟨"PuddleStairsModel", "longest", "(I)I"⟩, 14) := ⟨⟨by decide +kernel, by decide +kernel⟩, List.mem_of_getElem? (i := 711) (by decide +kernel), List.mem_of_getElem? (i := 989) (by decide +kernel), List.mem_of_getElem? (i := 990) (by decide +kernel)⟩
theorem lw_p35 : lw_okq (⟨"PuddleStairsModel", "driest", "()I"⟩, 14) := ⟨⟨by decide +kernel, by decide +kernel⟩, List.mem_of_getElem? (i := 711) (by decide +kernel), List.mem_of_getElem? (i := 997) (by decide +kernel), List.mem_of_getElem? (i := 998) (by decide +kernel)⟩
theorem lw_p36 : lw_okq (⟨"PuddleStairsModel", "highest", "(I)I"⟩, 14) := ⟨⟨by decide +kernel, by decide +kernel⟩, List.mem_of_getElem? (i := 711) (by decide +kernel), List.mem_of_getElem? (i := 1009) (by decide +kernel), List.mem_of_getElem? (i := 1010) (by decide +kernel)⟩
theorem lw_p37 : lw_okq (⟨"PuddleStairsModel", "below", "(I)I"⟩, 14) := ⟨⟨by decide +kernel, by decide +kernel⟩, List.mem_of_getElem? (i := 711) (by decide +kernel), List.mem_of_getElem? (i := 1017) (by decide +kernel), List.mem_of_getElem? (i := 1018) (by decide +kernel)⟩
theorem lw_p38 : lw_okq (⟨"PuddleStairsModel", "pairs", "()I"⟩, 14) := ⟨⟨by decide +kernel, by decide +kernel⟩, List.mem_of_getElem? (i := 711) (by decide +kernel), List.mem_of_getElem? (i := 1029) (by decide +kernel), List.mem_of_getElem? (i := 1030) (by decide +kernel)⟩
theorem lw_p39 : lw_okq (⟨"PuddleStairsModel", "changed", "(I)I"⟩, 14) := ⟨⟨by decide +kernel, by decide +kernel⟩, List.mem_of_getElem? (i := 711) (by decide +kernel), List.mem_of_getElem? (i := 1041) (by decide +kernel), List.mem_of_getElem? (i := 1042) (by decide +kernel)⟩
theorem lw_p40 : lw_okq (⟨"PuddleStairsModel", "later", "(I)J"⟩, 14) := ⟨⟨by decide +kernel, by decide +kernel⟩, List.mem_of_getElem? (i := 711) (by decide +kernel), List.mem_of_getElem? (i := 1049) (by decide +kernel), List.mem_of_getElem? (i := 1050) (by decide +kernel)⟩
theorem lw_p41 : lw_okq (⟨"PuddleStairsModel", "goneBehind", "(II)I"⟩, 14) := ⟨⟨by decide +kernel, by decide +kernel⟩, List.mem_of_getElem? (i := 711) (by decide +kernel), List.mem_of_getElem? (i := 1053) (by decide +kernel), List.mem_of_getElem? (i := 1054) (by decide +kernel)⟩
theorem lw_p42 : lw_okq (⟨"PuddleStairsModel", "look", "()V"⟩, 14) := ⟨⟨by decide +kernel, by decide +kernel⟩, List.mem_of_getElem? (i := 711) (by decide +kernel), List.mem_of_getElem? (i := 1057) (by decide +kernel), List.mem_of_getElem? (i := 1058) (by decide +kernel)⟩
theorem lw_p43 : lw_okq (⟨"PuddleStairsModel", "untilDry", "()I"⟩, 14) := ⟨⟨by decide +kernel, by decide +kernel⟩, List.mem_of_getElem? (i := 711) (by decide +kernel), List.mem_of_getElem? (i := 1069) (by decide +kernel), List.mem_of_getElem? (i := 1070) (by decide +kernel)⟩
theorem lw_p44 : lw_okq (⟨"PuddleStairsModel", "isDry", "([I)Z"⟩, 14) := ⟨⟨by decide +kernel, by decide +kernel⟩, List.mem_of_getElem? (i := 711) (by decide +kernel), List.mem_of_getElem? (i := 1073) (by decide +kernel), List.mem_of_getElem? (i := 1074) (by decide +kernel)⟩
theorem lw_p45 : lw_okq (⟨"PuddleStairsModel", "wanted", "(I)I"⟩, 14) := ⟨⟨by decide +kernel, by decide +kernel⟩, List.mem_of_getElem? (i := 711) (by decide +kernel), List.mem_of_getElem? (i := 1081) (by decide +kernel), List.mem_of_getElem? (i := 1082) (by decide +kernel)⟩
theorem lw_p46 : lw_okq (⟨"PuddleStairsModel", "swapFor", "(I)I"⟩, 14) := ⟨⟨by decide +kernel, by decide +kernel⟩, List.mem_of_getElem? (i := 711) (by decide +kernel), List.mem_of_getElem? (i := 1093) (by decide +kernel), List.mem_of_getElem? (i := 1094) (by decide +kernel)⟩
def lw_privs_3 : List (MethodName × Nat) := [(⟨"PuddleStairsModel", "dryPart", "(IIII)I"⟩, 14), (⟨"PuddleStairsModel", "dryNow", "()I"⟩, 14), (⟨"PuddleStairsModel", "longest", "(I)I"⟩, 14), (⟨"PuddleStairsModel", "driest", "()I"⟩, 14), (⟨"PuddleStairsModel", "highest", "(I)I"⟩, 14), (⟨"PuddleStairsModel", "below", "(I)I"⟩, 14), (⟨"PuddleStairsModel", "pairs", "()I"⟩, 14), (⟨"PuddleStairsModel", "changed", "(I)I"⟩, 14), (⟨"PuddleStairsModel", "later", "(I)J"⟩, 14), (⟨"PuddleStairsModel", "goneBehind", "(II)I"⟩, 14), (⟨"PuddleStairsModel", "look", "()V"⟩, 14), (⟨"PuddleStairsModel", "untilDry", "()I"⟩, 14), (⟨"PuddleStairsModel", "isDry", "([I)Z"⟩, 14), (⟨"PuddleStairsModel", "wanted", "(I)I"⟩, 14), (⟨"PuddleStairsModel", "swapFor", "(I)I"⟩, 14)]
theorem lw_r3 : ∀ q ∈ lw_privs_3, lw_okq q := List.forall_mem_cons.mpr ⟨lw_p32, List.forall_mem_cons.mpr ⟨lw_p33, List.forall_mem_cons.mpr ⟨lw_p34, List.forall_mem_cons.mpr ⟨lw_p35, List.forall_mem_cons.mpr ⟨lw_p36, List.forall_mem_cons.mpr ⟨lw_p37, List.forall_mem_cons.mpr ⟨lw_p38, List.forall_mem_cons.mpr ⟨lw_p39, List.forall_mem_cons.mpr ⟨lw_p40, List.forall_mem_cons.mpr ⟨lw_p41, List.forall_mem_cons.mpr ⟨lw_p42, List.forall_mem_cons.mpr ⟨lw_p43, List.forall_mem_cons.mpr ⟨lw_p44, List.forall_mem_cons.mpr ⟨lw_p45, List.forall_mem_cons.mpr ⟨lw_p46, fun _ h => absurd h List.not_mem_nil⟩⟩⟩⟩⟩⟩⟩⟩⟩⟩⟩⟩⟩⟩⟩
def lw_privs : List (MethodName × Nat) := lw_privs_1 ++ (lw_privs_2 ++ (lw_privs_3))
def lw_tbl : List Cond := k2_sels lw_privs ++ tables_1
theorem lw_privs_ok : ∀ q ∈ lw_privs, lw_okq q := by
  show ∀ q ∈ lw_privs_1 ++ (lw_privs_2 ++ (lw_privs_3)), lw_okq q
  exact List.forall_mem_append.mpr ⟨lw_r1, List.forall_mem_append.mpr ⟨lw_r2, lw_r3⟩⟩
/-- the streams that the claim lets the run draw from -/
abbrev lw_cs : List Choice := [Jvm.Choice.named "NaN.bits"]
theorem lw_bits : nanBits ∈ lw_cs := by first | decide | exact List.mem_cons_self | simp [lw_cs, nanBits]
def va_AOA (t : FieldType) (U : State) : Prop := (Cond.arrayOver (.array t)).before #[] U = true
theorem va_AOA.of {t : FieldType} {A : Array Value} {U : State} (h : (Cond.arrayOver (.array t)).before A U = true) : va_AOA t U := h
theorem va_AOA.use {t : FieldType} {A : Array Value} {U : State} (h : va_AOA t U) : (Cond.arrayOver (.array t)).before A U = true := h
/-! ===== BEGIN words of one list among another's, by their places ===== -/
theorem goodIn_r {big : List Cond} (ws : List Cond) (ps : List Nat) (hp : ws = ps.filterMap (fun i => big[i]?)) (h : ws.all goodWord = true) : GoodIn big ws := by
  intro w hw
  have h1 := List.all_eq_true.mp h w hw
  rw [hp] at hw
  obtain ⟨i, -, hi⟩ := List.mem_filterMap.mp hw
  have hm : w ∈ big := by first | exact List.mem_of_getElem? hi | exact List.getElem?_mem hi
  exact ⟨hm, good_of_word h1⟩
theorem goodIn_app {big a b : List Cond} (ha : GoodIn big a) (hb : GoodIn big b) : GoodIn big (a ++ b) := fun w h => (List.mem_append.mp h).elim (ha w) (hb w)
theorem goodIn_ca {big a b : List Cond} {c : Cond} (ha : GoodIn big (c :: a)) (hb : GoodIn big b) : GoodIn big (c :: (a ++ b)) := fun w h => (List.mem_cons.mp h).elim (fun e => ha w (List.mem_cons.mpr (Or.inl e))) (fun h => (List.mem_append.mp h).elim (fun h => ha w (List.mem_cons.mpr (Or.inr h))) (hb w))
theorem goodIn_sub {big ws : List Cond} (hm : ∀ w ∈ ws, w ∈ big) (h : ws.all goodWord = true) : GoodIn big ws := fun w hw => ⟨hm w hw, good_of_word (List.all_eq_true.mp h w hw)⟩
/-! ===== END ===== -/

/-! ===== BEGIN new T[n][m]: the outer array a place, the inner ones among the pooled ===== -/
/-- f, but v at every address of l -/
def vr_up {α : Type} (f : Nat → α) (l : List Nat) (v : α) : Nat → α := fun a => if a ∈ l then v else f a
theorem vr_up_in {α : Type} {f : Nat → α} {l : List Nat} {v : α} {a : Nat} (h : a ∈ l) : vr_up f l v a = v := if_pos h
theorem vr_up_ne {α : Type} {f : Nat → α} {l : List Nat} {v : α} {a : Nat} (h : a ∉ l) : vr_up f l v a = f a := if_neg h
theorem vr_rows {L l : List Nat} {f : Nat → va_E} {e : va_E} (h : ∀ a, a ∈ l → a ∉ L) : va_pl L f ++ l.map (fun a => (a, e)) = va_pl (L ++ l) (vr_up f l e) := by
  unfold va_pl
  rw [List.map_append]
  congr 1
  · apply List.map_congr_left
    intro a ha
    rw [vr_up_ne (fun q => h a q ha)]
  · apply List.map_congr_left
    intro a ha
    rw [vr_up_in ha]
theorem vr_lay {X rows : va_W} {x : Nat × va_E} {pl : va_W} {D : va_G} {cl : List vw_C} {H : Heap} (hP : va_P D cl (((X ++ pl) ++ [x]) ++ rows) H) : va_P D cl ((X ++ [x]) ++ (pl ++ rows)) H := by
  rw [List.append_assoc (X ++ pl)] at hP
  have h := va_P.swap hP
  rw [← List.append_assoc X] at h
  have h2 := va_P.swap h
  rw [List.append_assoc (X ++ [x])] at h2
  exact h2
theorem vr_layD {X rows : va_W} {x : Nat × va_E} {pl : va_W} {A : Nat → Prop} (hD : va_D A (((X ++ pl) ++ [x]) ++ rows)) : va_D A ((X ++ [x]) ++ (pl ++ rows)) := by
  rw [List.append_assoc (X ++ pl)] at hD
  have h := va_D.swap hD
  rw [← List.append_assoc X] at h
  have h2 := va_D.swap h
  rw [List.append_assoc (X ++ [x])] at h2
  exact h2
theorem vr_outer (c : ClassId) (N h0 : Nat) : ∀ i : Nat, Jvm.Free.Multi.outerC c N h0 i = arrV c N (fun j => va_rf (if j < i then some (h0 + 1 + j) else none))
  | 0 => by
    show ({ cls := c, slots := Array.replicate N .null, vm := .none } : Cell) = _
    rw [arrV_new]
    refine congrArg (arrV c N) (funext fun j => ?_)
    simp [va_rf]
  | i + 1 => by
    show (Jvm.Free.Multi.outerC c N h0 i).setSlot i (.ref (h0 + 1 + i)) = _
    rw [vr_outer c N h0 i, arrV_store]
    refine congrArg (arrV c N) (funext fun j => ?_)
    by_cases e : j = i
    · subst e
      simp [updV, va_rf]
    · by_cases h : j < i
      · simp [updV, e, h, Nat.lt_succ_of_lt h]
      · simp [updV, e, h, show ¬ j < i + 1 by omega]
section VGM
variable {p : Program} {l : Launch} {e : Env} {R : Room} {s : State} {m : MethodId} {args : Array Value} {below : List Frame} {meth : Method} {c : Code} {H : Heap} {locs : List Loc} {cells slots : Nat} {Q : State → Prop}
variable {cc : ByteArray} {pc : Nat} {ls : Array Slot} {rest : List Value} {D : va_G} {cl : List vw_C} {A : Nat → Prop} {a : Nat} {tys : List (ClassId × FieldType)} {ws : va_W} {H0 : Heap}
theorem va_mna {X : va_W} {L : List Nat} {f : Nat → va_E} {cc : ByteArray} (hexec : p.tables.exec = Jvm.exec) (hb : c.code = cc) {own : String} {index : Nat} {ty : FieldType} {cy : ClassId} (hown : s.vm.findClass own = some m.cls) (hclink : (Cond.classLink own index ("[" ++ (FieldType.array ty).toString)).before args s = true) (hover : va_AOA ty s) (harr : (Cond.arrayClass ty).before args s = true) (hcy : s.vm.findClass (FieldType.array ty).toString = some cy)
    (hK : va_K D cl tys s) (hP : va_P D cl (X ++ va_pl L f) H) (hD : va_D A (X ++ va_pl L f)) (hS : va_S A H0 H locs) (hA : ∀ q, H0.size ≤ q → A q) {n k : Int32} {N' K' : Nat} {z : vp_A} (hn : ¬ n < 0) (hk : ¬ k < 0) (hN : n.toNatClampNeg = N') (hM : k.toNatClampNeg = K')
    (hb1 : N' * 4 ≤ 536870912) (hb2 : K' * componentBytes ty ≤ 536870912) (hb3 : K' ≤ 536870912) (hdf : fits ty (defaultValue ty) = true) (hdd : (defaultValue ty).isDefault = true) (hcells : cells + (1 + N') ≤ R.cells) (hslots : slots + (N' + N' * K') ≤ R.slots) (hz : ∀ c : ClassId, Jvm.Free.Multi.innerC c K' (defaultValue ty) = vp_cell c z) (hdg : decode cc pc = .ok (.multianewarray index 2, 4))
    (kk : ∀ (q : Nat) (r : Nat → Nat) (cA : ClassId) (H1 : Heap), (∀ i j : Nat, i < N' → j < N' → r i = r j → i = j) → (∀ i : Nat, i < N' → r i ∉ L) → va_K D cl (tys ++ [(cA, .array ty)]) s →
      va_P D cl ((X ++ [(q, .inl (cA, N', .inr (.inr (.inr (.inr (fun i => if i < N' then some (r i) else none))))))]) ++ va_pl (L ++ (List.range N').map r) (vr_up f ((List.range N').map r) (.inl (cy, z)))) H1 → va_D A ((X ++ [(q, .inl (cA, N', .inr (.inr (.inr (.inr (fun i => if i < N' then some (r i) else none))))))]) ++ va_pl (L ++ (List.range N').map r) (vr_up f ((List.range N').map r) (.inl (cy, z)))) → va_S A H0 H1 locs →
      W p l e R s m args below meth c H1 locs (cells + 1 + N') (slots + N' + N' * K') Q (F0 m (pc + 4) ls (.ref q :: rest))) : W p l e R s m args below meth c H locs cells slots Q (F0 m pc ls (.int k :: .int n :: rest)) := by
  subst hN
  subst hM
  intro T hT Xs
  obtain ⟨vm₁, cA, comp, -, fA, fC, hO, -, X', step⟩ := Xs.multianewarray2F hexec hown hclink (va_AOA.use hover) harr (g := F0 m pc ls (.int k :: .int n :: rest)) rfl (by rw [hb]; exact hdg) rfl hn hk hb1 hb2 hb3 hdf hdd hcells hslots
  have ec : some cy = some comp := hcy.symm.trans fC
  cases ec
  generalize hF : Jvm.Free.Multi.fill (T.setVm vm₁) cA cy n.toNatClampNeg k.toNatClampNeg (defaultValue ty) n.toNatClampNeg = F at X' step
  have hTh : (T.setVm vm₁).heap = H := hT
  obtain ⟨f1, f2, -, -⟩ := Jvm.Free.Multi.fill_facts (T.setVm vm₁) cA cy n.toNatClampNeg k.toNatClampNeg (defaultValue ty) n.toNatClampNeg
  rw [hF, hTh] at f1 f2
  have hold : ∀ x : Nat, x < H.size → F.heap[x]? = H[x]? := fun x hx => by
    have := Jvm.Free.Multi.fill_old (T.setVm vm₁) cA cy n.toNatClampNeg k.toNatClampNeg (defaultValue ty) (a := x) (by rw [hTh]; exact hx) n.toNatClampNeg
    rw [hF, hTh] at this
    exact this
  have hrow : ∀ j : Nat, j < n.toNatClampNeg → F.heap[H.size + 1 + j]? = some (vp_cell cy z) := fun j hj => by
    have := Jvm.Free.Multi.fill_inner (T.setVm vm₁) cA cy n.toNatClampNeg k.toNatClampNeg (defaultValue ty) n.toNatClampNeg j hj
    rw [hF, hTh, hz] at this
    exact this
  have hout : Jvm.Free.Multi.outerC cA n.toNatClampNeg H.size n.toNatClampNeg = vp_cell cA (n.toNatClampNeg, .inr (.inr (.inr (.inr (fun i => if i < n.toNatClampNeg then some (H.size + 1 + i) else none))))) := by
    rw [vp_cell_q]
    exact vr_outer cA n.toNatClampNeg H.size n.toNatClampNeg
  rw [hout] at f2
  have hlt : ∀ a, a ∈ L → a < H.size := fun a ha => by
    obtain ⟨k9, hk9⟩ := va_pl_get (X := X) (f := f) ha
    exact (hP k9 _ hk9).lt
  have hnl : ∀ i : Nat, i < n.toNatClampNeg → H.size + 1 + i ∉ L := fun i _ h => by
    have := hlt _ h
    omega
  have hnm : ∀ a, a ∈ (List.range n.toNatClampNeg).map (fun i => H.size + 1 + i) → a ∉ L := fun a ha h => by
    obtain ⟨i, -, rfl⟩ := List.mem_map.mp ha
    have := hlt _ h
    omega
  have hP0 : va_P D cl (X ++ va_pl L f) F.heap := hP.kept (fun k9 x hx => hold x.1 ((hP k9 x hx).lt))
  have hP1 : va_P D cl ((X ++ va_pl L f) ++ [(H.size, .inl (cA, n.toNatClampNeg, .inr (.inr (.inr (.inr (fun i => if i < n.toNatClampNeg then some (H.size + 1 + i) else none))))))]) F.heap := hP0.app (fun k9 x hx => by
    have h0 : k9 < 1 := (List.getElem?_eq_some_iff.mp hx).1
    rw [show k9 = 0 by omega] at hx
    cases hx
    exact f2)
  have hP2 : va_P D cl (((X ++ va_pl L f) ++ [(H.size, .inl (cA, n.toNatClampNeg, .inr (.inr (.inr (.inr (fun i => if i < n.toNatClampNeg then some (H.size + 1 + i) else none))))))]) ++ ((List.range n.toNatClampNeg).map (fun i => H.size + 1 + i)).map (fun a => (a, .inl (cy, z)))) F.heap := hP1.app (fun k9 x hx => by
    obtain ⟨a, ha, rfl⟩ := List.mem_map.mp (List.mem_of_getElem? hx)
    obtain ⟨i, hi, rfl⟩ := List.mem_map.mp ha
    exact hrow i (List.mem_range.mp hi))
  have hD2 : va_D A (((X ++ va_pl L f) ++ [(H.size, .inl (cA, n.toNatClampNeg, .inr (.inr (.inr (.inr (fun i => if i < n.toNatClampNeg then some (H.size + 1 + i) else none))))))]) ++ ((List.range n.toNatClampNeg).map (fun i => H.size + 1 + i)).map (fun a => (a, .inl (cy, z)))) := by
    have hD1 := hD.push (e := .inl (cA, n.toNatClampNeg, .inr (.inr (.inr (.inr (fun i => if i < n.toNatClampNeg then some (H.size + 1 + i) else none)))))) hP rfl (hA _ hS.1)
    generalize hW1 : (X ++ va_pl L f) ++ [(H.size, .inl (cA, n.toNatClampNeg, .inr (.inr (.inr (.inr (fun i => if i < n.toNatClampNeg then some (H.size + 1 + i) else none))))))] = W1 at hD1 hP1 ⊢
    have hle : ∀ (k9 : Nat) (x : Nat × va_E), W1[k9]? = some x → x.1 ≤ H.size := fun k9 x hx => by
      rw [← hW1] at hx
      by_cases hl : k9 < (X ++ va_pl L f).length
      · rw [List.getElem?_append_left hl] at hx
        exact Nat.le_of_lt ((hP k9 x hx).lt)
      · rw [List.getElem?_append_right (by omega)] at hx
        have h0 : k9 - (X ++ va_pl L f).length < 1 := (List.getElem?_eq_some_iff.mp hx).1
        rw [show k9 - (X ++ va_pl L f).length = 0 by omega] at hx
        cases hx
        exact Nat.le_refl _
    have hr : ∀ (k9 : Nat) (x : Nat × va_E), (((List.range n.toNatClampNeg).map (fun i => H.size + 1 + i)).map (fun a => ((a, .inl (cy, z)) : Nat × va_E)))[k9]? = some x → x.1 = H.size + 1 + k9 := fun k9 x hx => by
      rw [List.getElem?_map, List.getElem?_map] at hx
      by_cases h9 : k9 < n.toNatClampNeg
      · rw [List.getElem?_range h9] at hx
        cases hx
        rfl
      · have hn0 : (List.range n.toNatClampNeg)[k9]? = none := List.getElem?_eq_none (by rw [List.length_range]; omega)
        rw [hn0] at hx
        cases hx
    refine ⟨fun i j x y hi hj hxy => ?_, fun k9 x hx => ?_⟩
    · by_cases h1 : i < W1.length <;> by_cases h2 : j < W1.length
      · rw [List.getElem?_append_left h1] at hi
        rw [List.getElem?_append_left h2] at hj
        exact hD1.1 i j x y hi hj hxy
      · rw [List.getElem?_append_left h1] at hi
        rw [List.getElem?_append_right (by omega)] at hj
        have := hle _ _ hi
        have := hr _ _ hj
        omega
      · rw [List.getElem?_append_right (by omega)] at hi
        rw [List.getElem?_append_left h2] at hj
        have := hle _ _ hj
        have := hr _ _ hi
        omega
      · rw [List.getElem?_append_right (by omega)] at hi hj
        have := hr _ _ hi
        have := hr _ _ hj
        omega
    · by_cases h1 : k9 < W1.length
      · rw [List.getElem?_append_left h1] at hx
        exact hD1.2 k9 x hx
      · rw [List.getElem?_append_right (by omega)] at hx
        have := hr _ _ hx
        exact hA _ (by have := hS.1; omega)
  have hAr : ArrOfT s cA (.array ty) := fun N9 z9 => by
    obtain ⟨-, k9, hk9, cm9, hkk9⟩ := (hO 0 0 0).1
    exact ⟨(fun q hq => by cases hq), k9, hk9, cm9, hkk9⟩
  have hK2 : va_K D cl (tys ++ [(cA, .array ty)]) s := ⟨hK.1, fun k9 x hx => by
    by_cases hl : k9 < tys.length
    · rw [List.getElem?_append_left hl] at hx
      exact hK.2 k9 x hx
    · rw [List.getElem?_append_right (by omega)] at hx
      have h0 : k9 - tys.length < 1 := (List.getElem?_eq_some_iff.mp hx).1
      rw [show k9 - tys.length = 0 by omega] at hx
      cases hx
      exact ⟨hAr, fA⟩⟩
  obtain ⟨t, a1, b1⟩ := kk H.size (fun i => H.size + 1 + i) cA F.heap (fun i j _ _ h => by have h9 : H.size + 1 + i = H.size + 1 + j := h; omega) hnl hK2 (by rw [← vr_rows hnm]; exact vr_lay hP2) (by rw [← vr_rows hnm]; exact vr_layD hD2) ⟨by rw [f1]; have := hS.1; omega, fun x h1 h2 => (hold x (Nat.lt_of_lt_of_le h1 hS.1)).trans (hS.2.1 x h1 h2), hS.2.2⟩ F rfl X'
  refine ⟨t, step t ?_, b1⟩
  have e : T.heap.size = H.size := by rw [hT]
  rw [e]
  exact a1
end VGM
/-! ===== END ===== -/

/-! ===== BEGIN exceptions that leave a method, and their catching by the caller (launches without stack traces) ===== -/
section VXA
/-! The laws vx_back, vx_callV, vx_callS, vx_callSW, vx_throw0, vx_throwS follow proofs of the library, with one case more: JvmDerived/Free/Laws.lean (Back.of_free), Shelf42/LK1.lean (callV, callS), Shelf/KitTraced.lean (throwNew0V, throwNewS). -/
/-- where a method has thrown q: the class by its name, the cell, what was written, the world -/
def vx_T (XC : String → State → State → Prop) (st : State) (q : Addr) (t : State) (mc ms : Nat) (free : Addr → Prop) : Prop :=
  ∃ (E : String) (ce : Cell) (L : List Loc), XC E st t ∧ t.heap[q]? = some ce ∧ ce.vm = .none ∧ st.vm.findClass E = some ce.cls ∧ st.WarmedH t.vm ∧ st.sameButNew ({ t with vm := st.vm } : State) L mc ms ∧ ∀ z ∈ L, free z.base
def vx_Q (Qc : Array Value → State → Outcome → State → Prop) (XC : String → State → State → Prop) (mc ms : Nat) (free : Addr → Prop) : Array Value → State → Outcome → State → Prop := fun a st o t =>
  (Qc a st o t ∧ ∃ L, FrameEnd st o t L mc ms ∧ ∀ q ∈ L, free q.base) ∨ ∃ q, o = .threw q ∧ vx_T XC st q t mc ms free
/-- a callee that returns or throws -/
def vx_Met (l : Launch) (y : MethodName) (ws : List Cond) (rm : Room) (Pc : Array Value → State → Prop) (Qc : Array Value → State → Outcome → State → Prop) (XC : String → State → State → Prop) (mc ms : Nat) (free : Addr → Prop) : Prop :=
  MetFree l y (headSpec ws rm) Pc (fun _ _ _ _ _ => True) (vx_Q Qc XC mc ms free)
def vx_Post (XC : String → State → State → Prop) (mc ms : Nat) (free : Addr → Prop) : Pt → Array Value → Addr → Pt → Prop := fun A a q B =>
  ∃ (g : JFrame) (mk : MethodId) (t : State) (L : List Loc) (E : String) (ce : Cell), B.U.heap = t.heap ∧ B.U.vm = t.vm ∧ XC E (A.U.calling g mk a) t ∧ t.heap[q]? = some ce ∧ ce.vm = .none ∧ A.U.vm.findClass E = some ce.cls ∧ B.locs = A.locs ++ L ∧ (∀ z ∈ L, free z.base) ∧ B.cells = A.cells + mc ∧ B.slots = A.slots + ms
def vx_Back (l : Launch) (R : Room) (p : Program) (e : Env) (below : List Frame) (s : State) (sargs : Array Value) (y : MethodName) (len W9 : Nat)
    (Pre : Pt → Array Value → Prop) (Post : Pt → Array Value → Option Value → Pt → Prop) (PostX : Pt → Array Value → Addr → Pt → Prop) : Prop :=
  ∀ (m : MethodId) (meth : Method) (c : Code) (A : Pt) (g : JFrame) (ig : Instr) (mk : MethodId) (a : Array Value),
    Stand p l e R s m sargs below meth c A.U A.locs A.cells A.slots → g.method = m → g.locals.size = c.maxLocals → decode c.code g.pc = .ok (ig, len) →
    2 * g.monitorRoom + (g.stack.map fun v => v.category).sum ≤ W9 → A.U.methodNamed? y = some mk → Pre A a →
    (∃ (v : Option Value) (B : Pt), Stand p l e R s m sargs below meth c B.U B.locs B.cells B.slots ∧ Post A a v B ∧
      Steps p.tables e below (doInvoke e (A.U.setTop g) [] mk a).1 (B.U.setTop { g with pc := g.pc + len, stack := v.toList ++ g.stack })) ∨
    (∃ (q : Addr) (B : Pt), Stand p l e R s m sargs below meth c B.U B.locs B.cells B.slots ∧ PostX A a q B ∧
      Steps p.tables e below (doInvoke e (A.U.setTop g) [] mk a).1 ((B.U.setTop g).pushFrame (.throwing q)))
section Payer
variable {l : Launch} {R : Room} {p : Program} {e : Env} {below : List Frame} {s : State} {sargs : Array Value} {y : MethodName} {len W9 : Nat}
theorem vx_back {ws : List Cond} {rm : Room} {Pc : Array Value → State → Prop} {Qc : Array Value → State → Outcome → State → Prop} {XC : String → State → State → Prop} {mc ms : Nat} {free : Addr → Prop} {bytes : ByteArray} {maxL : Nat} {ret : Option FieldType}
    (hM : vx_Met l y ws rm Pc Qc XC mc ms free) (hblind : FrameBlind Pc) (hrc : rm.cells = mc) (hrs : rm.slots = ms)
    (hframes : rm.frames + 1 ≤ R.frames) (hlocals : W9 + (maxL + 11) + rm.locals ≤ R.locals)
    (hws : ∀ w ∈ ws, ∀ a' U, s.WarmedH U.vm → w.before a' U = true) (hcode : Cond.code y bytes maxL ret ∈ ws) (hinit : ∀ a' U, s.WarmedH U.vm → (Cond.initialized y.cls).before a' U = true) :
    vx_Back l R p e below s sargs y len W9 (PreOf R mc ms Pc) (PostOf Qc mc ms free) (vx_Post XC mc ms free) := by
  intro m meth c A g ig mk a X hg hsize hdg hW hn hp
  have h1 : (headSpec ws rm).pre.before a A.U = true := atoms_intro fun w hw => hws w hw _ _ X.warmed
  have h2 : (Cond.code y bytes maxL ret).before a A.U = true := hws _ hcode _ _ X.warmed
  have h3 : (Cond.initialized y.cls).before a A.U = true := hinit _ _ X.warmed
  have h4 : A.cells + (headSpec ws rm).room.cells ≤ R.cells := by rw [show (headSpec ws rm).room.cells = mc from hrc]; exact hp.1
  have h5 : A.slots + (headSpec ws rm).room.slots ≤ R.slots := by rw [show (headSpec ws rm).room.slots = ms from hrs]; exact hp.2.1
  have hPc : Pc a (A.U.calling g mk a) := hblind _ _ _ _ hp.2.2
  obtain ⟨U, Ls, c0, s0⟩ := A
  dsimp only [Pt.U, Pt.locs, Pt.cells, Pt.slots] at h1 h2 h3 h4 h5 X hn hPc ⊢
  obtain ⟨methY, cY, hmY, hcY, -, hlY, -, -, -, -⟩ := Cond.code_spec hn h2
  obtain ⟨kY, hkY, -⟩ := className_of_methodNamed hn
  have hinitY : kY.init = .initialized := Cond.initialized_spec (findClass_of_methodNamed hn) hkY h3
  have h : At U g.method c below := by rw [hg]; exact X.here
  have hlocals9 : W9 + (maxL + 11) + (headSpec ws rm).room.locals ≤ R.locals := hlocals
  have happ : (headSpec ws rm).appliesLoose y e.platform (U.calling g mk a) = true :=
    Spec.appliesLoose_calling (g := g) h hdg hn hkY hinitY
      (X.room_calling (g := g) (R' := (headSpec ws rm).room) hsize hmY hcY hframes (by rw [hlY]; omega) h4 h5) h1
  obtain ⟨mid, hmid⟩ := h.above
  have hfr : (U.setTop g).frames = (.java g :: mid) ++ below := by rw [State.frames_setTop' g h.top, hmid]; rfl
  obtain ⟨o, s₂, hsteps, -, hend, hq⟩ := Steps.callFree hM p X.admits X.cas X.clock (acts := []) hfr happ hPc trivial
  have hq' : vx_Q Qc XC mc ms free a (U.calling g mk a) o s₂ := hq
  rw [State.frames_setTop' g h.top] at hend
  obtain ⟨g₀, hg0⟩ := Option.isSome_iff_exists.mp h.top
  obtain ⟨r, hr⟩ := State.topJava?_eq_some.mp hg0
  have hr' : (({ U with heap := s₂.heap, slotsUsed := s₂.slotsUsed } : State).setVm s₂.vm).frames = .java g₀ :: r := hr
  rcases hq' with ⟨hqc, L, hfe, hL⟩ | ⟨q, rfl, E, ce, L, hx, hce, hcv, hcl, hW₂, hsm, hL⟩
  · obtain ⟨⟨v, rfl⟩, hW₂, e2, q2, q3, q4, q5, q6⟩ := id hfe
    have e3 : s₂ = ({ (U.calling g mk a).setFrames s₂.frames with heap := s₂.heap, slotsUsed := s₂.slotsUsed } : State).setVm s₂.vm := by
      have : s₂ = ({ s₂ with vm := (U.calling g mk a).vm } : State).setVm s₂.vm := rfl
      rw [e2] at this
      exact this
    obtain ⟨c₂, i₂, len₂, hc₂, hd₂, hf₂⟩ := hend
    have hW' : U.WarmedH s₂.vm := hW₂
    have hcc : c₂ = c := by
      have h1 : s₂.code? g.method = U.code? g.method := by
        rw [State.code?_eq, State.code?_eq, hW'.alike.method?]
      exact Option.some.inj (hc₂.symm.trans (h1.trans h.code))
    subst hcc
    have hlen : len₂ = len := by rw [hdg] at hd₂; cases hd₂; rfl
    subst hlen
    have hs₂ : s₂ = (({ U with heap := s₂.heap, slotsUsed := s₂.slotsUsed } : State).setVm s₂.vm).setTop { g with pc := g.pc + len₂, stack := v.toList ++ g.stack } := by
      refine e3.trans ?_
      rw [hf₂, State.calling_eq h.top, State.setFrames_setFrames, State.setTop_of_frames _ hr', hr]
      rfl
    have hsame : U.sameButNew ({ U with heap := s₂.heap, slotsUsed := s₂.slotsUsed } : State) L mc ms := by
      refine ⟨?_, q2, q3, q4, q5, q6⟩
      obtain ⟨t, ht, -⟩ := State.frames_cons hr
      show ({ U with heap := s₂.heap, slotsUsed := s₂.slotsUsed } : State) = { U.setFrames U.frames with heap := s₂.heap, slotsUsed := s₂.slotsUsed }
      rw [State.setFrames_self ht]
    subst hg
    refine Or.inl ⟨v, ⟨(({ U with heap := s₂.heap, slotsUsed := s₂.slotsUsed } : State).setVm s₂.vm), Ls ++ L, c0 + mc, s0 + ms⟩,
      ⟨X.admits, X.cas, X.clock, X.frames, X.room, X.hears, X.method, X.code, (X.here.setHeapUsed s₂.heap s₂.slotsUsed).setVm hW'.alike, X.tail, State.WarmedH.trans X.warmed hW', X.limits, X.bytes, X.same.trans (hsame.setVm s.vm)⟩,
      ⟨g, mk, s₂, L, rfl, rfl, hqc, rfl, hL, rfl, rfl⟩, ?_⟩
    show Steps p.tables e below _ ((({ U with heap := s₂.heap, slotsUsed := s₂.slotsUsed } : State).setVm s₂.vm).setTop { g with pc := g.pc + len₂, stack := v.toList ++ g.stack })
    rw [← hs₂]
    exact hsteps
  · obtain ⟨e2, q2, q3, q4, q5, q6⟩ := id hsm
    have e3 : s₂ = ({ (U.calling g mk a).setFrames s₂.frames with heap := s₂.heap, slotsUsed := s₂.slotsUsed } : State).setVm s₂.vm := by
      have : s₂ = ({ s₂ with vm := (U.calling g mk a).vm } : State).setVm s₂.vm := rfl
      rw [e2] at this
      exact this
    have hf₂ : s₂.frames = .throwing q :: .java g :: U.frames.tail := hend
    have hW' : U.WarmedH s₂.vm := hW₂
    have hs₂ : s₂ = ((({ U with heap := s₂.heap, slotsUsed := s₂.slotsUsed } : State).setVm s₂.vm).setTop g).pushFrame (.throwing q) := by
      refine e3.trans ?_
      rw [hf₂, State.calling_eq h.top, State.setFrames_setFrames, State.pushFrame, State.frames_setTop _ hr', State.setTop_of_frames _ hr', State.setFrames_setFrames, hr]
      rfl
    have hsame : U.sameButNew ({ U with heap := s₂.heap, slotsUsed := s₂.slotsUsed } : State) L mc ms := by
      refine ⟨?_, q2, q3, q4, q5, q6⟩
      obtain ⟨t, ht, -⟩ := State.frames_cons hr
      show ({ U with heap := s₂.heap, slotsUsed := s₂.slotsUsed } : State) = { U.setFrames U.frames with heap := s₂.heap, slotsUsed := s₂.slotsUsed }
      rw [State.setFrames_self ht]
    subst hg
    refine Or.inr ⟨q, ⟨(({ U with heap := s₂.heap, slotsUsed := s₂.slotsUsed } : State).setVm s₂.vm), Ls ++ L, c0 + mc, s0 + ms⟩,
      ⟨X.admits, X.cas, X.clock, X.frames, X.room, X.hears, X.method, X.code, (X.here.setHeapUsed s₂.heap s₂.slotsUsed).setVm hW'.alike, X.tail, State.WarmedH.trans X.warmed hW', X.limits, X.bytes, X.same.trans (hsame.setVm s.vm)⟩,
      ⟨g, mk, s₂, L, E, ce, rfl, rfl, hx, hce, hcv, hcl, rfl, hL, rfl, rfl⟩, ?_⟩
    show Steps p.tables e below _ (((({ U with heap := s₂.heap, slotsUsed := s₂.slotsUsed } : State).setVm s₂.vm).setTop g).pushFrame (.throwing q))
    rw [← hs₂]
    exact hsteps
end Payer
section Calls
variable {p : Program} {l : Launch} {e : Env} {R : Room} {s : State} {m : MethodId} {args : Array Value} {below : List Frame} {meth : Method} {c : Code} {T : State} {locs : List Loc} {cells slots : Nat}
theorem vx_callV (X : Stand p l e R s m args below meth c T locs cells slots) (hexec : p.tables.exec = Jvm.exec) {own C : String} {index : Nat} {y : MethodName} {bytes : ByteArray} {maxL : Nat} {ret : Option FieldType}
    (hown : s.vm.findClass own = some m.cls) (hlink : (Cond.methodLink own index y).before args s = true) (hinst : (Cond.instanceMethod y).before args s = true) (hsel : (Cond.selects C y y).before args s = true)
    (hcode : (Cond.code y bytes maxL ret).before args s = true) (hy : y.cls ≠ "java/lang/invoke/MethodHandle" ∧ y.cls ≠ "java/lang/invoke/VarHandle")
    {W9 : Nat} {Pre : Pt → Array Value → Prop} {Post : Pt → Array Value → Option Value → Pt → Prop} {PostX : Pt → Array Value → Addr → Pt → Prop} (hK : vx_Back l R p e below s args y 3 W9 Pre Post PostX)
    {b : Addr} {cellB : Cell} (hcell : T.heap[b]? = some cellB) (hobj : cellB.vm.isStatics = false) (hcls : s.vm.findClass C = some cellB.cls)
    {g : JFrame} (hg : g.method = m) (hsize : g.locals.size = c.maxLocals) {argsL rest : List Value} (hlen : ∀ sig, parseMethodDescriptor y.desc = some sig → argsL.length = sig.parameters.length)
    (hstack : g.stack = argsL.reverse ++ .ref b :: rest) (hW : 2 * g.monitorRoom + (rest.map fun v => v.category).sum ≤ W9) (hdg : decode c.code g.pc = .ok (.invokevirtual index, 3))
    (hpre : ∀ vm₁, s.WarmedH vm₁ → Pre ⟨T.setVm vm₁, locs, cells, slots⟩ (Value.ref b :: argsL).toArray) :
    (∃ (v : Option Value) (vm₁ : Vm) (B : Pt), s.WarmedH vm₁ ∧ Stand p l e R s m args below meth c B.U B.locs B.cells B.slots ∧ Post ⟨T.setVm vm₁, locs, cells, slots⟩ (Value.ref b :: argsL).toArray v B ∧
      ∀ target, Steps p.tables e below (B.U.setTop { g with pc := g.pc + 3, stack := v.toList ++ rest }) target → Steps p.tables e below (T.setTop g) target) ∨
    (∃ (q : Addr) (vm₁ : Vm) (B : Pt), s.WarmedH vm₁ ∧ Stand p l e R s m args below meth c B.U B.locs B.cells B.slots ∧ PostX ⟨T.setVm vm₁, locs, cells, slots⟩ (Value.ref b :: argsL).toArray q B ∧
      Steps p.tables e below (T.setTop g) ((B.U.setTop { g with stack := rest }).pushFrame (.throwing q))) := by
  obtain ⟨mk, methM, hnamed, hmethM, hstM, habM⟩ := Cond.instanceMethod_spec hinst
  obtain ⟨methM', cM, hmethM', -, -, -, -, -, -, hsigM⟩ := Cond.code_spec hnamed hcode
  cases hmethM.symm.trans hmethM'
  obtain ⟨c2, r2, m2, q1, q2, q3, q4, kP, hkP, hkPi⟩ := Cond.selects_spec hsel
  cases hcls.symm.trans q1
  cases (State.methodFound?_of_named hnamed hy).symm.trans q2
  cases hnamed.symm.trans q3
  have hselP : selectMethod e.platform s.vm cellB.cls mk = .method mk := by rw [Launch.admits_selectMethod X.admits]; exact q4
  obtain ⟨vm₁, X₁, hstep₁⟩ := X.invokevirtual hexec hown hlink hnamed hmethM hstM hkP hkPi hy (a := b) (cell := cellB) hcell
    (fun z h => by rw [h] at hobj; cases hobj) hselP hmethM habM hkP hkPi (g := g) hg (argsL := argsL) (rest := rest) (hlen _ hsigM) hstack hdg
  rcases hK m meth c ⟨T.setVm vm₁, locs, cells, slots⟩ { g with stack := rest } (.invokevirtual index) mk (Value.ref b :: argsL).toArray X₁ hg hsize hdg hW (X₁.named hnamed) (hpre vm₁ X₁.warmed) with ⟨v, B, X', hpost, hsteps⟩ | ⟨q, B, X', hpost, hsteps⟩
  · exact Or.inl ⟨v, vm₁, B, X₁.warmed, X', hpost, fun target h => hstep₁ _ fun acts => by rw [doInvoke_state]; exact hsteps.trans h⟩
  · exact Or.inr ⟨q, vm₁, B, X₁.warmed, X', hpost, hstep₁ _ fun acts => by rw [doInvoke_state]; exact hsteps⟩
theorem vx_callS (X : Stand p l e R s m args below meth c T locs cells slots) (hexec : p.tables.exec = Jvm.exec) {own : String} {index : Nat} {y : MethodName} {bytes : ByteArray} {maxL : Nat} {ret : Option FieldType}
    (hown : s.vm.findClass own = some m.cls) (hlink : (Cond.methodLink own index y).before args s = true) (hstat : (Cond.static y).before args s = true) (hinit : (Cond.initialized y.cls).before args s = true)
    (hcode : (Cond.code y bytes maxL ret).before args s = true) (hy : y.cls ≠ "java/lang/invoke/MethodHandle" ∧ y.cls ≠ "java/lang/invoke/VarHandle")
    {W9 : Nat} {Pre : Pt → Array Value → Prop} {Post : Pt → Array Value → Option Value → Pt → Prop} {PostX : Pt → Array Value → Addr → Pt → Prop} (hK : vx_Back l R p e below s args y 3 W9 Pre Post PostX)
    {g : JFrame} (hg : g.method = m) (hsize : g.locals.size = c.maxLocals) {argsL rest : List Value} (hlen : ∀ sig, parseMethodDescriptor y.desc = some sig → argsL.length = sig.parameters.length)
    (hstack : g.stack = argsL.reverse ++ rest) (hW : 2 * g.monitorRoom + (rest.map fun v => v.category).sum ≤ W9) (hdg : decode c.code g.pc = .ok (.invokestatic index, 3))
    (hpre : ∀ vm₁, s.WarmedH vm₁ → Pre ⟨T.setVm vm₁, locs, cells, slots⟩ argsL.toArray) :
    (∃ (v : Option Value) (vm₁ : Vm) (B : Pt), s.WarmedH vm₁ ∧ Stand p l e R s m args below meth c B.U B.locs B.cells B.slots ∧ Post ⟨T.setVm vm₁, locs, cells, slots⟩ argsL.toArray v B ∧
      ∀ target, Steps p.tables e below (B.U.setTop { g with pc := g.pc + 3, stack := v.toList ++ rest }) target → Steps p.tables e below (T.setTop g) target) ∨
    (∃ (q : Addr) (vm₁ : Vm) (B : Pt), s.WarmedH vm₁ ∧ Stand p l e R s m args below meth c B.U B.locs B.cells B.slots ∧ PostX ⟨T.setVm vm₁, locs, cells, slots⟩ argsL.toArray q B ∧
      Steps p.tables e below (T.setTop g) ((B.U.setTop { g with stack := rest }).pushFrame (.throwing q))) := by
  obtain ⟨mk, hnamed⟩ := Cond.code_named hcode
  obtain ⟨methM, cM, hmethM, -, -, -, -, -, -, hsigM⟩ := Cond.code_spec hnamed hcode
  have hstatic : methM.isStatic = true := Cond.static_spec hnamed hmethM hstat
  obtain ⟨kP, hkP, -⟩ := className_of_methodNamed hnamed
  have hinitP : kP.init = .initialized := Cond.initialized_spec (findClass_of_methodNamed hnamed) hkP hinit
  obtain ⟨vm₁, X₁, hstep₁⟩ := X.invokestatic hexec hown hlink hnamed hmethM hstatic hkP hinitP hy (g := g) hg (argsL := argsL) (rest := rest) (hlen _ hsigM) hstack hdg
  rcases hK m meth c ⟨T.setVm vm₁, locs, cells, slots⟩ { g with stack := rest } (.invokestatic index) mk argsL.toArray X₁ hg hsize hdg hW (X₁.named hnamed) (hpre vm₁ X₁.warmed) with ⟨v, B, X', hpost, hsteps⟩ | ⟨q, B, X', hpost, hsteps⟩
  · exact Or.inl ⟨v, vm₁, B, X₁.warmed, X', hpost, fun target h => hstep₁ _ fun acts => by rw [doInvoke_state]; exact hsteps.trans h⟩
  · exact Or.inr ⟨q, vm₁, B, X₁.warmed, X', hpost, hstep₁ _ fun acts => by rw [doInvoke_state]; exact hsteps⟩
end Calls
theorem vx_cls {s : State} {T : State} {vm₁ : Vm} {E : String} {k : ClassId} (hW : s.WarmedH vm₁) (h : (T.setVm vm₁).vm.findClass E = some k) : s.vm.findClass E = some k := by
  have h1 : vm₁.findClass E = some k := h
  rw [hW.alike.findClass] at h1
  exact h1
/-- the method's frame g, with q thrown over it -/
def vx_W (p : Program) (l : Launch) (e : Env) (R : Room) (s : State) (m : MethodId) (args : Array Value) (below : List Frame) (meth : Method) (c : Code) (H : Heap) (locs : List Loc) (cells slots : Nat) (Q : State → Prop) (g : JFrame) (q : Addr) : Prop :=
  ∀ T : State, T.heap = H → Stand p l e R s m args below meth c T locs cells slots → ∃ t, Steps p.tables e below ((T.setTop g).pushFrame (.throwing q)) t ∧ Q t
def vx_Run (p : Program) (l : Launch) (e : Env) (R : Room) (s : State) (m : MethodId) (args : Array Value) (below : List Frame) (meth : Method) (c : Code) (H : Heap) (locs : List Loc) (cells slots mc ms : Nat) (g : JFrame) (rest : List Value) (Qa : State → Outcome → State → Prop) (XC : String → State → State → Prop) (free : Addr → Prop) : Prop :=
  ∀ T : State, T.heap = H → Stand p l e R s m args below meth c T locs cells slots →
    (∃ (v : Option Value) (st₀ t T' : State) (L : List Loc), st₀.heap = H ∧ Stand p l e R s m args below meth c T' (locs ++ L) (cells + mc) (slots + ms) ∧ (∀ q ∈ L, free q.base) ∧ T'.heap = t.heap ∧ T'.vm = t.vm ∧ Qa st₀ (.returned v) t ∧
      Goes p e below T g T' { g with pc := g.pc + 3, stack := v.toList ++ rest }) ∨
    (∃ (q : Addr) (st₀ t T' : State) (L : List Loc) (E : String) (ce : Cell), st₀.heap = H ∧ Stand p l e R s m args below meth c T' (locs ++ L) (cells + mc) (slots + ms) ∧ (∀ z ∈ L, free z.base) ∧ T'.heap = t.heap ∧ T'.vm = t.vm ∧ XC E st₀ t ∧ t.heap[q]? = some ce ∧ ce.vm = .none ∧ s.vm.findClass E = some ce.cls ∧
      Steps p.tables e below (T.setTop g) ((T'.setTop { g with stack := rest }).pushFrame (.throwing q)))
def vx_X {S : Type} (px : S → Prop) (B : String → S → State → Prop) (A : Nat → Prop) : String → State → State → Prop := fun E st t => ∃ u : S, px u ∧ B E u t ∧ va_F A st t
section Runs
variable {p : Program} {l : Launch} {e : Env} {R : Room} {s : State} {m : MethodId} {args : Array Value} {below : List Frame} {meth : Method} {c : Code} {H : Heap} {locs : List Loc} {cells slots : Nat}
variable {y : MethodName} {bytes cc : ByteArray} {maxL nL mc ms n index : Nat} {ret : Option FieldType} {ws : List Cond} {rm : Room} {Pc : Array Value → State → Prop} {Qc : Array Value → State → Outcome → State → Prop} {XC : String → State → State → Prop} {free : Addr → Prop} {Ts : List Cond} {own C : String} {b : Addr} {As rest : List Value} {g : JFrame}
theorem vx_callBack (cb : CallB R s args own index y bytes maxL ret ws rm mc ms n) (hM : vx_Met l y ws rm Pc Qc XC mc ms free) (hbl : FrameBlind Pc) : vx_Back l R p e below s args y 3 8 (PreOf R mc ms Pc) (PostOf Qc mc ms free) (vx_Post XC mc ms free) := by
  obtain ⟨hrc, hrs, hfr, hlo, hws, hcw, -, hini, -⟩ := cb
  exact vx_back (bytes := bytes) (maxL := maxL) (ret := ret) hM hbl hrc hrs hfr hlo hws hcw (fun a' U hW => word_at hW (Or.inl (by first | rfl | simp [Cond.onTables, Cond.keeps, Cond.steady])) hini)
theorem vx_runV (S : CallFix p m c cc nL s args Ts own) (hM : vx_Met l y ws rm Pc Qc XC mc ms free) (cw : CallW R s args own C index y bytes maxL ret ws rm mc ms n) (hp : PreV s H C b Pc As)
    (hg : g.method = m) (hn : As.length = n) (hsize : g.locals.size = nL) (hstack : g.stack = As.reverse ++ .ref b :: rest) (hW : 2 * g.monitorRoom + (rest.map fun v => v.category).sum ≤ 8) (hdg : decode cc g.pc = .ok (.invokevirtual index, 3)) (hf : cells + mc ≤ R.cells ∧ slots + ms ≤ R.slots) :
    vx_Run p l e R s m args below meth c H locs cells slots mc ms g rest (Qc (Value.ref b :: As).toArray) XC free := by
  have hK : vx_Back l R p e below s args y 3 8 (PreOf R mc ms Pc) (PostOf Qc mc ms free) (vx_Post XC mc ms free) := vx_callBack cw.1 hM hp.1
  obtain ⟨⟨-, -, -, -, -, -, hcode, -, hy, hlen, hl⟩, hin, hse⟩ := cw
  obtain ⟨hx, hb, hml, ho, -⟩ := S
  obtain ⟨-, ⟨cellB, hcB, hoB, hclB⟩, hPc⟩ := hp
  intro T hT X
  rcases vx_callV X hx (C := C) (bytes := bytes) (maxL := maxL) (ret := ret) ho hl hin hse hcode hy hK (by rw [hT]; exact hcB) hoB hclB hg (hsize.trans hml.symm) (argsL := As) (rest := rest) (fun sig h => hn.trans (hlen sig h)) hstack hW (by rw [hb]; exact hdg)
    (fun vm₁ hW₁ => ⟨hf.1, hf.2, hPc (T.setVm vm₁) hT hW₁⟩) with ⟨v, vm₁, ⟨U', l2, c2, s2⟩, hW₁, X', ⟨g', mk, t, L, e1, e2, hq, h1, hL, h2, h3⟩, st⟩ | ⟨q, vm₁, ⟨U', l2, c2, s2⟩, hW₁, X', ⟨g', mk, t, L, E, ce, e1, e2, hq, hce, hcv, hcl, h1, hL, h2, h3⟩, st⟩
  · dsimp only [Pt.U, Pt.locs, Pt.cells, Pt.slots] at X' e1 e2 h1 h2 h3 st
    subst h1; subst h2; subst h3
    exact Or.inl ⟨v, (T.setVm vm₁).calling g' mk (Value.ref b :: As).toArray, t, U', L, hT, X', hL, e1, e2, hq, st⟩
  · dsimp only [Pt.U, Pt.locs, Pt.cells, Pt.slots] at X' e1 e2 h1 h2 h3 st hcl
    subst h1; subst h2; subst h3
    exact Or.inr ⟨q, (T.setVm vm₁).calling g' mk (Value.ref b :: As).toArray, t, U', L, E, ce, hT, X', hL, e1, e2, hq, hce, hcv, vx_cls hW₁ hcl, st⟩
theorem vx_runS (S : CallFix p m c cc nL s args Ts own) (hM : vx_Met l y ws rm Pc Qc XC mc ms free) (cw : CallB R s args own index y bytes maxL ret ws rm mc ms n ∧ (Cond.static y).before args s = true) (hp : PreS s H Pc As)
    (hg : g.method = m) (hn : As.length = n) (hsize : g.locals.size = nL) (hstack : g.stack = As.reverse ++ rest) (hW : 2 * g.monitorRoom + (rest.map fun v => v.category).sum ≤ 8) (hdg : decode cc g.pc = .ok (.invokestatic index, 3)) (hf : cells + mc ≤ R.cells ∧ slots + ms ≤ R.slots) :
    vx_Run p l e R s m args below meth c H locs cells slots mc ms g rest (Qc As.toArray) XC free := by
  have hK : vx_Back l R p e below s args y 3 8 (PreOf R mc ms Pc) (PostOf Qc mc ms free) (vx_Post XC mc ms free) := vx_callBack cw.1 hM hp.1
  obtain ⟨⟨-, -, -, -, -, -, hcode, hini, hy, hlen, hl⟩, hstt⟩ := cw
  obtain ⟨hx, hb, hml, ho, -⟩ := S
  intro T hT X
  rcases vx_callS X hx (bytes := bytes) (maxL := maxL) (ret := ret) ho hl hstt hini hcode hy hK hg (hsize.trans hml.symm) (argsL := As) (rest := rest) (fun sig h => hn.trans (hlen sig h)) hstack hW (by rw [hb]; exact hdg)
    (fun vm₁ hW₁ => ⟨hf.1, hf.2, hp.2 (T.setVm vm₁) hT hW₁⟩) with ⟨v, vm₁, ⟨U', l2, c2, s2⟩, hW₁, X', ⟨g', mk, t, L, e1, e2, hq, h1, hL, h2, h3⟩, st⟩ | ⟨q, vm₁, ⟨U', l2, c2, s2⟩, hW₁, X', ⟨g', mk, t, L, E, ce, e1, e2, hq, hce, hcv, hcl, h1, hL, h2, h3⟩, st⟩
  · dsimp only [Pt.U, Pt.locs, Pt.cells, Pt.slots] at X' e1 e2 h1 h2 h3 st
    subst h1; subst h2; subst h3
    exact Or.inl ⟨v, (T.setVm vm₁).calling g' mk As.toArray, t, U', L, hT, X', hL, e1, e2, hq, st⟩
  · dsimp only [Pt.U, Pt.locs, Pt.cells, Pt.slots] at X' e1 e2 h1 h2 h3 st hcl
    subst h1; subst h2; subst h3
    exact Or.inr ⟨q, (T.setVm vm₁).calling g' mk As.toArray, t, U', L, E, ce, hT, X', hL, e1, e2, hq, hce, hcv, vx_cls hW₁ hcl, st⟩
end Runs
section Rows
variable {p : Program} {l : Launch} {e : Env} {R : Room} {s : State} {m : MethodId} {args : Array Value} {below : List Frame} {meth : Method} {c : Code} {H : Heap} {locs : List Loc} {cells slots : Nat} {Q : State → Prop}
variable {mc ms : Nat} {free : Addr → Prop} {A0 A1 : Nat → Prop} {H0 : Heap} {a : Array Value} {pc : Nat} {ls : Array Slot} {st0 rest : List Value}
theorem vx_keep {st₀ t T' : State} {L : List Loc} (h0 : st₀.heap = H) (e1 : T'.heap = t.heap) (hS : va_S A0 H0 H locs) (hA : ∀ q, q < H.size → A1 q → A0 q) (hf : ∀ q, free q → A0 q) (hL : ∀ q ∈ L, free q.base) (hF : va_F A1 st₀ t) :
    H.size ≤ T'.heap.size ∧ (∀ q : Nat, q < H.size → ¬ A1 q → T'.heap[q]? = H[q]?) ∧ va_S A0 H0 T'.heap (locs ++ L) := by
  obtain ⟨hz, hk⟩ := hF
  rw [h0] at hz hk
  exact ⟨by rw [e1]; exact hz, fun q h1 h2 => by rw [e1]; exact hk q h1 h2,
    ⟨Nat.le_trans hS.1 (by rw [e1]; exact hz), fun q h1 h2 => by rw [e1, hk q (Nat.lt_of_lt_of_le h1 hS.1) (fun z => h2 (hA q (Nat.lt_of_lt_of_le h1 hS.1) z))]; exact hS.2.1 q h1 h2, fun q hq => by
      rcases List.mem_append.mp hq with h | h
      · exact hS.2.2 q h
      · exact hf _ (hL q h)⟩⟩
theorem vx_calli {S SX : Type} {post : Int32 → S → Prop} {px : SX → Prop} {B : S → State → Prop} {BX : String → SX → State → Prop} {AX : Nat → Prop} (hr : vx_Run p l e R s m args below meth c H locs cells slots mc ms (F0 m pc ls st0) rest (va_Qi post B A1 a) (vx_X px BX AX) free) (hS : va_S A0 H0 H locs) (hA : ∀ q, q < H.size → A1 q → A0 q) (hf : ∀ q, free q → A0 q) (hAX : ∀ q, q < H.size → AX q → A0 q)
    (kx : ∀ (E : String) (ce : Cell) (q9 : Addr) (u : SX) (t : State) (H1 : Heap) (locs1 : List Loc), t.heap = H1 → s.vm.Alike t.vm → px u → BX E u t → H.size ≤ H1.size → (∀ q : Nat, q < H.size → ¬ AX q → H1[q]? = H[q]?) → va_S A0 H0 H1 locs1 → H1[q9]? = some ce → ce.vm = .none → s.vm.findClass E = some ce.cls → vx_W p l e R s m args below meth c H1 locs1 (cells + mc) (slots + ms) Q (F0 m pc ls rest) q9)
    (kk : ∀ (r : Int32) (u : S) (t : State) (H1 : Heap) (locs1 : List Loc), t.heap = H1 → s.vm.Alike t.vm → post r u → B u t → H.size ≤ H1.size → (∀ q : Nat, q < H.size → ¬ A1 q → H1[q]? = H[q]?) → va_S A0 H0 H1 locs1 → W p l e R s m args below meth c H1 locs1 (cells + mc) (slots + ms) Q (F0 m (pc + 3) ls (.int r :: rest))) : W p l e R s m args below meth c H locs cells slots Q (F0 m pc ls st0) := by
  intro T hT X
  rcases hr T hT X with ⟨v, st₀, t, T', L, h0, X', hL, e1, e2, ⟨⟨r, u, hv, hp, hb⟩, hF⟩, st⟩ | ⟨q, st₀, t, T', L, E, ce, h0, X', hL, e1, e2, ⟨u, hp, hb, hF⟩, hce, hcv, hcl, st⟩
  · cases hv
    obtain ⟨k1, k2, k3⟩ := vx_keep h0 e1 hS hA hf hL hF
    obtain ⟨t2, a1, b1⟩ := kk r u t T'.heap (locs ++ L) e1.symm (by rw [← e2]; exact X'.warmed.alike) hp hb k1 k2 k3 T' rfl X'
    exact ⟨t2, st t2 a1, b1⟩
  · obtain ⟨k1, k2, k3⟩ := vx_keep h0 e1 hS hAX hf hL hF
    obtain ⟨t2, a1, b1⟩ := kx E ce q u t T'.heap (locs ++ L) e1.symm (by rw [← e2]; exact X'.warmed.alike) hp hb k1 k2 k3 (by rw [e1]; exact hce) hcv hcl T' rfl X'
    exact ⟨t2, st.trans a1, b1⟩
theorem vx_calll {S SX : Type} {post : Int64 → S → Prop} {px : SX → Prop} {B : S → State → Prop} {BX : String → SX → State → Prop} {AX : Nat → Prop} (hr : vx_Run p l e R s m args below meth c H locs cells slots mc ms (F0 m pc ls st0) rest (va_Ql post B A1 a) (vx_X px BX AX) free) (hS : va_S A0 H0 H locs) (hA : ∀ q, q < H.size → A1 q → A0 q) (hf : ∀ q, free q → A0 q) (hAX : ∀ q, q < H.size → AX q → A0 q)
    (kx : ∀ (E : String) (ce : Cell) (q9 : Addr) (u : SX) (t : State) (H1 : Heap) (locs1 : List Loc), t.heap = H1 → s.vm.Alike t.vm → px u → BX E u t → H.size ≤ H1.size → (∀ q : Nat, q < H.size → ¬ AX q → H1[q]? = H[q]?) → va_S A0 H0 H1 locs1 → H1[q9]? = some ce → ce.vm = .none → s.vm.findClass E = some ce.cls → vx_W p l e R s m args below meth c H1 locs1 (cells + mc) (slots + ms) Q (F0 m pc ls rest) q9)
    (kk : ∀ (r : Int64) (u : S) (t : State) (H1 : Heap) (locs1 : List Loc), t.heap = H1 → s.vm.Alike t.vm → post r u → B u t → H.size ≤ H1.size → (∀ q : Nat, q < H.size → ¬ A1 q → H1[q]? = H[q]?) → va_S A0 H0 H1 locs1 → W p l e R s m args below meth c H1 locs1 (cells + mc) (slots + ms) Q (F0 m (pc + 3) ls (.long r :: rest))) : W p l e R s m args below meth c H locs cells slots Q (F0 m pc ls st0) := by
  intro T hT X
  rcases hr T hT X with ⟨v, st₀, t, T', L, h0, X', hL, e1, e2, ⟨⟨r, u, hv, hp, hb⟩, hF⟩, st⟩ | ⟨q, st₀, t, T', L, E, ce, h0, X', hL, e1, e2, ⟨u, hp, hb, hF⟩, hce, hcv, hcl, st⟩
  · cases hv
    obtain ⟨k1, k2, k3⟩ := vx_keep h0 e1 hS hA hf hL hF
    obtain ⟨t2, a1, b1⟩ := kk r u t T'.heap (locs ++ L) e1.symm (by rw [← e2]; exact X'.warmed.alike) hp hb k1 k2 k3 T' rfl X'
    exact ⟨t2, st t2 a1, b1⟩
  · obtain ⟨k1, k2, k3⟩ := vx_keep h0 e1 hS hAX hf hL hF
    obtain ⟨t2, a1, b1⟩ := kx E ce q u t T'.heap (locs ++ L) e1.symm (by rw [← e2]; exact X'.warmed.alike) hp hb k1 k2 k3 (by rw [e1]; exact hce) hcv hcl T' rfl X'
    exact ⟨t2, st.trans a1, b1⟩
theorem vx_callf {S SX : Type} {post : UInt32 → S → Prop} {px : SX → Prop} {B : S → State → Prop} {BX : String → SX → State → Prop} {AX : Nat → Prop} (hr : vx_Run p l e R s m args below meth c H locs cells slots mc ms (F0 m pc ls st0) rest (va_Qf post B A1 a) (vx_X px BX AX) free) (hS : va_S A0 H0 H locs) (hA : ∀ q, q < H.size → A1 q → A0 q) (hf : ∀ q, free q → A0 q) (hAX : ∀ q, q < H.size → AX q → A0 q)
    (kx : ∀ (E : String) (ce : Cell) (q9 : Addr) (u : SX) (t : State) (H1 : Heap) (locs1 : List Loc), t.heap = H1 → s.vm.Alike t.vm → px u → BX E u t → H.size ≤ H1.size → (∀ q : Nat, q < H.size → ¬ AX q → H1[q]? = H[q]?) → va_S A0 H0 H1 locs1 → H1[q9]? = some ce → ce.vm = .none → s.vm.findClass E = some ce.cls → vx_W p l e R s m args below meth c H1 locs1 (cells + mc) (slots + ms) Q (F0 m pc ls rest) q9)
    (kk : ∀ (r : UInt32) (u : S) (t : State) (H1 : Heap) (locs1 : List Loc), t.heap = H1 → s.vm.Alike t.vm → post r u → B u t → H.size ≤ H1.size → (∀ q : Nat, q < H.size → ¬ A1 q → H1[q]? = H[q]?) → va_S A0 H0 H1 locs1 → W p l e R s m args below meth c H1 locs1 (cells + mc) (slots + ms) Q (F0 m (pc + 3) ls (.float r :: rest))) : W p l e R s m args below meth c H locs cells slots Q (F0 m pc ls st0) := by
  intro T hT X
  rcases hr T hT X with ⟨v, st₀, t, T', L, h0, X', hL, e1, e2, ⟨⟨r, u, hv, hp, hb⟩, hF⟩, st⟩ | ⟨q, st₀, t, T', L, E, ce, h0, X', hL, e1, e2, ⟨u, hp, hb, hF⟩, hce, hcv, hcl, st⟩
  · cases hv
    obtain ⟨k1, k2, k3⟩ := vx_keep h0 e1 hS hA hf hL hF
    obtain ⟨t2, a1, b1⟩ := kk r u t T'.heap (locs ++ L) e1.symm (by rw [← e2]; exact X'.warmed.alike) hp hb k1 k2 k3 T' rfl X'
    exact ⟨t2, st t2 a1, b1⟩
  · obtain ⟨k1, k2, k3⟩ := vx_keep h0 e1 hS hAX hf hL hF
    obtain ⟨t2, a1, b1⟩ := kx E ce q u t T'.heap (locs ++ L) e1.symm (by rw [← e2]; exact X'.warmed.alike) hp hb k1 k2 k3 (by rw [e1]; exact hce) hcv hcl T' rfl X'
    exact ⟨t2, st.trans a1, b1⟩
theorem vx_calld {S SX : Type} {post : UInt64 → S → Prop} {px : SX → Prop} {B : S → State → Prop} {BX : String → SX → State → Prop} {AX : Nat → Prop} (hr : vx_Run p l e R s m args below meth c H locs cells slots mc ms (F0 m pc ls st0) rest (va_Qd post B A1 a) (vx_X px BX AX) free) (hS : va_S A0 H0 H locs) (hA : ∀ q, q < H.size → A1 q → A0 q) (hf : ∀ q, free q → A0 q) (hAX : ∀ q, q < H.size → AX q → A0 q)
    (kx : ∀ (E : String) (ce : Cell) (q9 : Addr) (u : SX) (t : State) (H1 : Heap) (locs1 : List Loc), t.heap = H1 → s.vm.Alike t.vm → px u → BX E u t → H.size ≤ H1.size → (∀ q : Nat, q < H.size → ¬ AX q → H1[q]? = H[q]?) → va_S A0 H0 H1 locs1 → H1[q9]? = some ce → ce.vm = .none → s.vm.findClass E = some ce.cls → vx_W p l e R s m args below meth c H1 locs1 (cells + mc) (slots + ms) Q (F0 m pc ls rest) q9)
    (kk : ∀ (r : UInt64) (u : S) (t : State) (H1 : Heap) (locs1 : List Loc), t.heap = H1 → s.vm.Alike t.vm → post r u → B u t → H.size ≤ H1.size → (∀ q : Nat, q < H.size → ¬ A1 q → H1[q]? = H[q]?) → va_S A0 H0 H1 locs1 → W p l e R s m args below meth c H1 locs1 (cells + mc) (slots + ms) Q (F0 m (pc + 3) ls (.double r :: rest))) : W p l e R s m args below meth c H locs cells slots Q (F0 m pc ls st0) := by
  intro T hT X
  rcases hr T hT X with ⟨v, st₀, t, T', L, h0, X', hL, e1, e2, ⟨⟨r, u, hv, hp, hb⟩, hF⟩, st⟩ | ⟨q, st₀, t, T', L, E, ce, h0, X', hL, e1, e2, ⟨u, hp, hb, hF⟩, hce, hcv, hcl, st⟩
  · cases hv
    obtain ⟨k1, k2, k3⟩ := vx_keep h0 e1 hS hA hf hL hF
    obtain ⟨t2, a1, b1⟩ := kk r u t T'.heap (locs ++ L) e1.symm (by rw [← e2]; exact X'.warmed.alike) hp hb k1 k2 k3 T' rfl X'
    exact ⟨t2, st t2 a1, b1⟩
  · obtain ⟨k1, k2, k3⟩ := vx_keep h0 e1 hS hAX hf hL hF
    obtain ⟨t2, a1, b1⟩ := kx E ce q u t T'.heap (locs ++ L) e1.symm (by rw [← e2]; exact X'.warmed.alike) hp hb k1 k2 k3 (by rw [e1]; exact hce) hcv hcl T' rfl X'
    exact ⟨t2, st.trans a1, b1⟩
theorem vx_callv {S SX : Type} {post : S → Prop} {px : SX → Prop} {B : S → State → Prop} {BX : String → SX → State → Prop} {AX : Nat → Prop} (hr : vx_Run p l e R s m args below meth c H locs cells slots mc ms (F0 m pc ls st0) rest (va_Qv post B A1 a) (vx_X px BX AX) free) (hS : va_S A0 H0 H locs) (hA : ∀ q, q < H.size → A1 q → A0 q) (hf : ∀ q, free q → A0 q) (hAX : ∀ q, q < H.size → AX q → A0 q)
    (kx : ∀ (E : String) (ce : Cell) (q9 : Addr) (u : SX) (t : State) (H1 : Heap) (locs1 : List Loc), t.heap = H1 → s.vm.Alike t.vm → px u → BX E u t → H.size ≤ H1.size → (∀ q : Nat, q < H.size → ¬ AX q → H1[q]? = H[q]?) → va_S A0 H0 H1 locs1 → H1[q9]? = some ce → ce.vm = .none → s.vm.findClass E = some ce.cls → vx_W p l e R s m args below meth c H1 locs1 (cells + mc) (slots + ms) Q (F0 m pc ls rest) q9)
    (kk : ∀ (u : S) (t : State) (H1 : Heap) (locs1 : List Loc), t.heap = H1 → s.vm.Alike t.vm → post u → B u t → H.size ≤ H1.size → (∀ q : Nat, q < H.size → ¬ A1 q → H1[q]? = H[q]?) → va_S A0 H0 H1 locs1 → W p l e R s m args below meth c H1 locs1 (cells + mc) (slots + ms) Q (F0 m (pc + 3) ls (rest))) : W p l e R s m args below meth c H locs cells slots Q (F0 m pc ls st0) := by
  intro T hT X
  rcases hr T hT X with ⟨v, st₀, t, T', L, h0, X', hL, e1, e2, ⟨⟨u, hv, hp, hb⟩, hF⟩, st⟩ | ⟨q, st₀, t, T', L, E, ce, h0, X', hL, e1, e2, ⟨u, hp, hb, hF⟩, hce, hcv, hcl, st⟩
  · cases hv
    obtain ⟨k1, k2, k3⟩ := vx_keep h0 e1 hS hA hf hL hF
    obtain ⟨t2, a1, b1⟩ := kk u t T'.heap (locs ++ L) e1.symm (by rw [← e2]; exact X'.warmed.alike) hp hb k1 k2 k3 T' rfl X'
    exact ⟨t2, st t2 a1, b1⟩
  · obtain ⟨k1, k2, k3⟩ := vx_keep h0 e1 hS hAX hf hL hF
    obtain ⟨t2, a1, b1⟩ := kx E ce q u t T'.heap (locs ++ L) e1.symm (by rw [← e2]; exact X'.warmed.alike) hp hb k1 k2 k3 (by rw [e1]; exact hce) hcv hcl T' rfl X'
    exact ⟨t2, st.trans a1, b1⟩
/-- caught by the row x of this method's table; the rows ahead don't take it -/
theorem vx_catch {own name : String} {E : String} {ce : Cell} {q : Addr} (hown : s.vm.findClass own = some m.cls) (pre : List ExceptionTableEntry) (x : ExceptionTableEntry) (suf : List ExceptionTableEntry) (hsplit : c.exceptionTable.toList = pre ++ x :: suf)
    (hpass : ∀ z ∈ pre, covers z pc = false ∨ (z.catchType ≠ 0 ∧ ∃ nm : String, (Cond.classLink own z.catchType nm).before args s = true ∧ va_Nc E nm s)) (hx : covers x pc = true) (h0 : x.catchType ≠ 0)
    (hlink : (Cond.classLink own x.catchType name).before args s = true) (hcast : (Cond.castable E name).before args s = true) (hcell : H[q]? = some ce) (hv : ce.vm = .none) (hcl : s.vm.findClass E = some ce.cls)
    (kk : W p l e R s m args below meth c H locs cells slots Q (F0 m x.handlerPc ls [.ref q])) : vx_W p l e R s m args below meth c H locs cells slots Q (F0 m pc ls rest) q := by
  intro T hT X
  have hpl : e.platform.magicAccessors = ({} : Platform).magicAccessors := by rw [X.admits.platform]
  obtain ⟨c3, c4, hc3, hc4, hasg⟩ := Cond.castable_spec hcast
  cases Option.some.inj (hc3.symm.trans hcl)
  obtain ⟨c5, hc5, hcl5⟩ := Cond.classLink_spec hown hlink e.platform hpl
  cases Option.some.inj (hc4.symm.trans hc5)
  obtain ⟨vm', X', st⟩ := X.thenCaughtThrough q (g := F0 m pc ls rest) rfl (Steps.refl _) (by rw [hT]; exact hcell) (by rw [hv]; rfl) (by obtain ⟨k9, h9, -⟩ := Vm.findClass_spec hcl; exact ⟨k9, h9⟩) pre x suf hsplit
    (fun z hz => by
      rcases hpass z hz with h | ⟨hz0, nm, hl1, hn1⟩
      · exact Or.inl h
      · obtain ⟨c6, hc6, hcl6⟩ := Cond.classLink_spec hown hl1 e.platform hpl
        obtain ⟨a8, b8, h1, h2, h3⟩ := hn1
        cases Option.some.inj (h1.symm.trans hcl)
        cases Option.some.inj (h2.symm.trans hc6)
        exact Or.inr ⟨hz0, _, hcl6, h3⟩) hx (Or.inr ⟨h0, c4, hcl5, hasg⟩)
  obtain ⟨t, a1, b1⟩ := kk (T.setVm vm') hT X'
  exact ⟨t, st.trans a1, b1⟩
end Rows
section Ends
variable {p : Program} {l : Launch} {e : Env} {R : Room} {s : State} {m : MethodId} {args : Array Value} {below : List Frame} {meth : Method} {c : Code} {H : Heap} {locs : List Loc} {cells slots : Nat} {Q : State → Prop}
variable {mc ms : Nat} {free : Addr → Prop} {A0 A1 : Nat → Prop} {H0 : Heap} {a : Array Value} {ls : Array Slot} {st0 rest : List Value}
variable {Qc : Array Value → State → Outcome → State → Prop} {XC : String → State → State → Prop}
/-- what a body that may throw owes at its end -/
def vx_MQ (below : List Frame) (Qc : Array Value → State → Outcome → State → Prop) (XC : String → State → State → Prop) (a : Array Value) (s : State) (mc ms : Nat) (free : Addr → Prop) : State → Prop := fun t =>
  ∃ o, t.status = .running ∧ Ended t below o ∧ vx_Q Qc XC mc ms free a s o t
theorem vx_ret {g : JFrame} {mc ms : Nat} (k : W p l e R s m args below meth c H locs cells slots (MQ below Qc args s mc ms free) g) : W p l e R s m args below meth c H locs cells slots (vx_MQ below Qc XC args s mc ms free) g := by
  intro T hT X
  obtain ⟨t, a1, o, b1, b2, b3, b4⟩ := k T hT X
  exact ⟨t, a1, o, b1, b2, Or.inl ⟨b3, b4⟩⟩
/-- not caught here: it goes on to the caller -/
theorem vx_widen {g : JFrame} {q : Addr} {k n : Nat} (h1 : cells ≤ k) (h2 : slots ≤ n) (kk : vx_W p l e R s m args below meth c H locs k n Q g q) : vx_W p l e R s m args below meth c H locs cells slots Q g q := fun T hT X => kk T hT (stand_widen X h1 h2)
theorem vx_out {pc : Nat} {E : String} {ce : Cell} {q : Addr} {mc ms : Nat} (hout : ∀ x ∈ c.exceptionTable.toList, covers x pc = false) (hlocks : meth.locks = false) (hcell : H[q]? = some ce) (hv : ce.vm = .none) (hcl : s.vm.findClass E = some ce.cls)
    (hx : ∀ t : State, t.heap = H → s.vm.Alike t.vm → XC E s t) (hf : ∀ z ∈ locs, free z.base) (hc : cells ≤ mc) (hs : slots ≤ ms) :
    vx_W p l e R s m args below meth c H locs cells slots (vx_MQ below Qc XC args s mc ms free) (F0 m pc ls rest) q := by
  intro T hT X
  obtain ⟨st1, hrun, hend, hW, hsm⟩ := X.leaveThrown q (g := F0 m pc ls rest) rfl rfl rfl hout hlocks
  have hcell9 : (T.setFrames (.throwing q :: below)).heap[q]? = some ce := by
    show T.heap[q]? = some ce
    rw [hT]; exact hcell
  exact ⟨_, st1, .threw q, hrun, hend, Or.inr ⟨q, rfl, E, ce, locs, hx _ hT hW.alike, hcell9, hv, hcl, hW, hsm.mono hc hs, hf⟩⟩
theorem vx_frame {U : State} {k n : Nat} (h : s.sameButNew ({ U with vm := s.vm } : State) locs k n) : s.heap.size ≤ U.heap.size ∧ ∀ q : Nat, q < s.heap.size → (∀ z ∈ locs, z.base ≠ q) → U.heap[q]? = s.heap[q]? := by
  obtain ⟨-, h2, -, -, -, h6⟩ := h
  refine ⟨h2, fun q hq hz => ?_⟩
  obtain ⟨c9, e1, e2, e3, e4⟩ := h6 q _ (Array.getElem?_eq_getElem hq)
  have hs : c9.slots = (s.heap[q]).slots := Array.ext_getElem? fun i => e4 i fun hm => hz _ hm rfl
  have h9 : c9 = s.heap[q] := by
    rw [hs] at e2
    exact e2
  have e5 : U.heap[q]? = some c9 := e1
  rw [e5, h9, Array.getElem?_eq_getElem hq]
/-- the words of a throw but the four that speak of the heap -/
def vx_no (w : Cond) : Bool := decide (w ≠ .isRef (.static Bundle.tN "UNASSIGNED_STACK" Bundle.steD)) && decide (w ≠ .isRef (.static Bundle.tN "SUPPRESSED_SENTINEL" Bundle.listD)) && decide (w ≠ .laysStatic Bundle.tN "UNASSIGNED_STACK" Bundle.steD) && decide (w ≠ .laysStatic Bundle.tN "SUPPRESSED_SENTINEL" Bundle.listD)
def vx_at0 (own : String) (ic : Nat) (X : String) (names : List String) : List Cond := (Bundle.ownAtoms0 own ic X names).filter vx_no
def vx_atS (own : String) (ic : Nat) (X : String) (names : List String) : List Cond := (Bundle.ownAtoms own ic X names).filter vx_no
/-- a word that the tables alone decide, or a good one -/
def vx_ot (w : Cond) : Bool := w.onTables || goodWord w
theorem vx_ot_at {args a' : Array Value} {s U : State} {w : Cond} (hW : s.WarmedH U.vm) (hvm : s.vm = U.vm) (hg : vx_ot w = true) (h : w.before args s = true) : w.before a' U = true := by
  simp only [vx_ot, Bool.or_eq_true] at hg
  rcases hg with hg | hg
  · exact va_tabs hg hvm h
  · exact word_at hW (good_of_word hg) h
/-- a list's words: the good ones out of the method's own list, the others by premises of their own -/
theorem vx_hat {args : Array Value} {s : State} {L B : List Cond} (h1 : ∀ w ∈ L.filter goodWord, w.before args s = true) (h2 : ∀ w ∈ L.filter (fun w => !goodWord w), w ∈ B) (h3 : ∀ w ∈ B, w.before args s = true) : ∀ w ∈ L, w.before args s = true := by
  intro w hw
  by_cases g : goodWord w = true
  · exact h1 w (List.mem_filter.mpr ⟨hw, g⟩)
  · refine h3 w (h2 w (List.mem_filter.mpr ⟨hw, ?_⟩))
    show (!goodWord w) = true
    cases hgw : goodWord w
    · rfl
    · exact absurd hgw g
theorem vx_c {args : Array Value} {s : State} {w : Cond} {B : List Cond} (h : w.before args s = true) (t : ∀ w ∈ B, w.before args s = true) : ∀ w' ∈ w :: B, w'.before args s = true := fun w' h' => (List.mem_cons.mp h').elim (fun e => by rw [e]; exact h) (t w')
theorem vx_n {args : Array Value} {s : State} : ∀ w ∈ ([] : List Cond), w.before args s = true := fun _ h => nomatch h
theorem vx_own {args : Array Value} {s : State} {L : List Cond} (h1 : ∀ w ∈ L.filter vx_no, w.before args s = true)
    (hU : (Cond.isRef (.static Bundle.tN "UNASSIGNED_STACK" Bundle.steD)).before args s = true) (hN : (Cond.isRef (.static Bundle.tN "SUPPRESSED_SENTINEL" Bundle.listD)).before args s = true)
    (lU : (Cond.laysStatic Bundle.tN "UNASSIGNED_STACK" Bundle.steD).before args s = true) (lN : (Cond.laysStatic Bundle.tN "SUPPRESSED_SENTINEL" Bundle.listD).before args s = true) : ∀ w ∈ L, w.before args s = true := by
  intro w hw
  by_cases e1 : w = .isRef (.static Bundle.tN "UNASSIGNED_STACK" Bundle.steD)
  · rw [e1]; exact hU
  · by_cases e2 : w = .isRef (.static Bundle.tN "SUPPRESSED_SENTINEL" Bundle.listD)
    · rw [e2]; exact hN
    · by_cases e3 : w = .laysStatic Bundle.tN "UNASSIGNED_STACK" Bundle.steD
      · rw [e3]; exact lU
      · by_cases e4 : w = .laysStatic Bundle.tN "SUPPRESSED_SENTINEL" Bundle.listD
        · rw [e4]; exact lN
        · exact h1 w (List.mem_filter.mpr ⟨hw, by unfold vx_no; rw [decide_eq_true e1, decide_eq_true e2, decide_eq_true e3, decide_eq_true e4]; rfl⟩)
/-- where a static field lies, its class's statics cell in H -/
def vx_L (C n d : String) (A : Nat → Prop) (U : State) (H : Heap) : Prop := ∃ (c : ClassId) (k : Class) (i : Nat) (f : Field) (a : Nat) (cell : Cell), U.vm.findClass C = some c ∧ U.fieldFound? C n d = some (c, k, i, f) ∧ f.isStatic = true ∧ k.statics = some a ∧ H[a]? = some cell ∧ cell.vm.isStatics = true ∧ cell.cls = c ∧ f.slot < cell.slots.size ∧ k.staticTypes[f.slot]? = some f.type ∧ ¬ A a
theorem vx_L.moved {C n d : String} {A : Nat → Prop} {u U : State} {H : Heap} (hvm : u.vm.Alike U.vm) (h : vx_L C n d A u H) : vx_L C n d A U H := by
  obtain ⟨c, k, i, f, a, cell, h1, h2, h3, h4, h5, h6, h7, h8, h9, h10⟩ := h
  obtain ⟨k', hi', he⟩ := State.fieldFound?_setVm hvm h2
  exact ⟨c, k', i, f, a, cell, by rw [hvm.findClass]; exact h1, hi', h3, by rw [he]; exact h4, h5, h6, h7, h8, by rw [he]; exact h9, h10⟩
theorem vx_L.kept {C n d : String} {A : Nat → Prop} {U : State} {H H1 : Heap} (h : vx_L C n d A U H) (hq : ∀ a : Nat, a < H.size → ¬ A a → H1[a]? = H[a]?) : vx_L C n d A U H1 := by
  obtain ⟨c, k, i, f, a, cell, h1, h2, h3, h4, h5, h6, h7, h8, h9, h10⟩ := h
  exact ⟨c, k, i, f, a, cell, h1, h2, h3, h4, by rw [hq a (Array.getElem?_eq_some_iff.mp h5).1 h10]; exact h5, h6, h7, h8, h9, h10⟩
theorem vx_L.narrow {C n d : String} {A B : Nat → Prop} {U : State} {H : Heap} (h : vx_L C n d A U H) (hAB : ∀ q, B q → A q) : vx_L C n d B U H := by
  obtain ⟨c, k, i, f, a, cell, h1, h2, h3, h4, h5, h6, h7, h8, h9, h10⟩ := h
  exact ⟨c, k, i, f, a, cell, h1, h2, h3, h4, h5, h6, h7, h8, h9, fun z => h10 (hAB _ z)⟩
theorem vx_L.word {C n d : String} {A : Nat → Prop} {s : State} {args : Array Value} (h : vx_L C n d A s s.heap) : (Cond.laysStatic C n d).before args s = true := by
  obtain ⟨c, k, i, f, a, cell, h1, h2, h3, h4, h5, h6, h7, h8, h9, -⟩ := h
  show (Cond.laysStatic C n d).holds args s none s [] = true
  exact Cond.laysStatic_of h1 h2 h3 h4 h5 h6 h7 h8 h9
/-- .. and what it holds: null or some reference -/
def vx_Zq (C n d : String) (A : Nat → Prop) (U : State) (H : Heap) : Prop := va_Zq C n d A U H ∧ vx_L C n d A U H
theorem vx_Zq.moved {C n d : String} {A : Nat → Prop} {u U : State} {H : Heap} (hvm : u.vm.Alike U.vm) (h : vx_Zq C n d A u H) : vx_Zq C n d A U H := ⟨va_Zq.moved hvm h.1, vx_L.moved hvm h.2⟩
theorem vx_Zq.kept {C n d : String} {A : Nat → Prop} {U : State} {H H1 : Heap} (h : vx_Zq C n d A U H) (hq : ∀ a : Nat, a < H.size → ¬ A a → H1[a]? = H[a]?) : vx_Zq C n d A U H1 := ⟨va_Zq.kept h.1 hq, vx_L.kept h.2 hq⟩
theorem vx_Zq.narrow {C n d : String} {A B : Nat → Prop} {U : State} {H : Heap} (h : vx_Zq C n d A U H) (hAB : ∀ q, B q → A q) : vx_Zq C n d B U H := ⟨va_Zq.narrow h.1 hAB, vx_L.narrow h.2 hAB⟩
theorem vx_Zqof {args : Array Value} {s : State} {C n d : String} {A : Nat → Prop} (hl : (Cond.laysStatic C n d).before args s = true) (hini : (Cond.initialized C).before args s = true) (h : (Cond.isRef (.static C n d)).before args s = true) (hA : ∀ a : Nat, a < s.heap.size → ¬ A a) : vx_Zq C n d A s s.heap := by
  refine ⟨va_Zqof hl hini h hA, ?_⟩
  obtain ⟨c, k, i, f, a, cell, h1, h2, h3, h4, h5, h6, h7, h8, h9⟩ := Cond.laysStatic_spec hl
  exact ⟨c, k, i, f, a, cell, h1, h2, h3, h4, h5, h6, h7, h8, h9, hA a (Array.getElem?_eq_some_iff.mp h5).1⟩
theorem vx_isRef {C n d : String} {v : Value} {A : Nat → Prop} {s : State} {args : Array Value} (h : va_Z C n d v A s s.heap) (hv : v.isRef = true) : (Cond.isRef (.static C n d)).before args s = true := by
  obtain ⟨cf, kf, fi, f, a, cell, h1, h2, h3, h4, h5, h6, h7, -⟩ := h
  have he : (Term.static C n d).eval args s none [] s = some v := by
    simp [Term.eval, State.fieldNamed?, h1, h2, h4, h5, h6, h7]
  simp only [Cond.before, Cond.holds, Cond.value, he]
  cases v <;> simp_all [Value.isRef]
theorem vx_isRefq {C n d : String} {A : Nat → Prop} {s : State} {args : Array Value} (h : va_Zq C n d A s s.heap) : (Cond.isRef (.static C n d)).before args s = true := by
  rcases h with h | ⟨t, h⟩
  · exact vx_isRef h rfl
  · exact vx_isRef h rfl
/-- the same frame, seen from here: as if the method were called anew in this heap -/
theorem vx_rebase {T : State} (X : Stand p l e R s m args below meth c T locs cells slots) {R' : Room} (hf : R'.frames ≤ R.frames) (hl : R'.locals ≤ R.locals) (hc : cells + R'.cells ≤ R.cells) (hs : slots + R'.slots ≤ R.slots) :
    Stand p l e R' ((T.setVm s.vm).setFrames (.invoking m args :: below)) m args below meth c T [] 0 0 := by
  have htop : (T.setVm s.vm).topJava?.isSome := X.here.top
  have hF : ((T.setVm s.vm).setFrames (.invoking m args :: below)).frames = .invoking m args :: below := State.frames_setFrames _ (State.cur_lt_of_top htop)
  obtain ⟨g₀, hg0⟩ := Option.isSome_iff_exists.mp htop
  obtain ⟨r, hr⟩ := State.topJava?_eq_some.mp hg0
  have hl9 : e.platform.stackLimits (T.setVm s.vm).me = e.platform.stackLimits s.me := X.limits
  have hb9 : (T.setVm s.vm).me.stackBytes = s.me.stackBytes := X.bytes
  refine ⟨X.admits, X.cas, X.clock, hF, ?_, X.hears, X.method, X.code, X.here, X.tail, X.warmed, ?_, ?_, ?_⟩
  · have h := X.room
    have hU : ((T.setVm s.vm).setFrames (.invoking m args :: below)).localsInUse = s.localsInUse := by
      rw [State.localsInUse_invoking hF (meth := meth) (c := c) X.method X.code, State.localsInUse_invoking X.frames X.method X.code]
    simp only [State.hasRoom, Bool.and_eq_true, decide_eq_true_eq] at h ⊢
    obtain ⟨⟨⟨⟨h1, h2, h3, h4, h5, h6⟩, h7⟩, h8⟩, h9⟩ := h
    rw [X.frames, List.length_cons] at h2 h3
    have q1 := X.heapSize
    have q2 := X.used
    simp only [hF, hU, List.length_cons, State.stackLimits_setFrames, State.stackBytes_setFrames, hl9, hb9]
    refine ⟨⟨⟨⟨by omega, by omega, by omega, by omega, by omega, h6⟩, ?_⟩, ?_⟩, X.book⟩
    · show T.heap.size + R'.cells ≤ e.platform.maxCells
      omega
    · show T.slotsUsed + R'.slots ≤ e.platform.maxSlots
      omega
  · rw [State.stackLimits_setFrames]; rfl
  · rw [State.stackBytes_setFrames]; rfl
  · refine ⟨?_, Nat.le_refl _, Nat.le_refl _, ?_, ?_, fun a c9 h9 => ⟨c9, h9, rfl, rfl, fun _ _ => rfl⟩⟩
    · obtain ⟨t, ht, -⟩ := State.frames_cons hr
      show T.setVm s.vm = { ((T.setVm s.vm).setFrames (.invoking m args :: below)).setFrames (T.setVm s.vm).frames with heap := T.heap, slotsUsed := T.slotsUsed }
      rw [State.setFrames_setFrames, State.setFrames_self ht]
      rfl
    · show T.slotsUsed = T.slotsUsed + ((T.heap.toList.drop T.heap.size).map (·.slots.size)).sum
      rw [List.drop_eq_nil_of_le (Nat.le_of_eq Array.length_toList)]
      rfl
    · show ((T.heap.toList.drop T.heap.size).map (·.slots.size)).sum ≤ 0
      rw [List.drop_eq_nil_of_le (Nat.le_of_eq Array.length_toList)]
      exact Nat.le_refl _
/-- 'throw new E()': new; dup; invokespecial; athrow -/
theorem vx_throw0 {cc : ByteArray} {pc : Nat} (hexec : p.tables.exec = Jvm.exec) (hb : c.code = cc) (hl : l.stackTraces = false) {own cls : String} {names : List String} {ik ic mc ms : Nat} {A : Nat → Prop}
    (hown : s.vm.findClass own = some m.cls) (hcls : Bundle.fit cls = true) (hnames : ∀ n ∈ names, Bundle.fit n = true)
    (hk : (Cond.classLink own ik cls).before args s = true) (hini : (Cond.initialized cls).before args s = true) (hat : ∀ w ∈ vx_at0 own ic cls names, w.before args s = true)
    (hgood : ∀ w ∈ Cond.classLink own ik cls :: Cond.initialized cls :: vx_at0 own ic cls names, vx_ot w = true)
    (hU : vx_Zq Bundle.tN "UNASSIGNED_STACK" Bundle.steD A s s.heap) (hN : vx_Zq Bundle.tN "SUPPRESSED_SENTINEL" Bundle.listD A s s.heap) (hS : va_S A s.heap H locs) (hsize : ls.size = c.maxLocals)
    (d0 : decode cc pc = .ok (.new ik, 3)) (d3 : decode cc (pc + 3) = .ok (.dup, 1)) (d4 : decode cc (pc + 4) = .ok (.invokespecial ic, 3)) (d7 : decode cc (pc + 7) = .ok (.athrow, 1))
    (hout : ∀ x ∈ c.exceptionTable.toList, covers x (pc + 7) = false)
    (hRframes : names.length + 3 < R.frames) (hRlocals : (rest.map fun v => v.category).sum + (13 * (names.length + 1) + 42) ≤ R.locals) (hRcells : cells + 1 ≤ R.cells) (hRslots : slots + 6 ≤ R.slots) (hlocks : meth.locks = false)
    (hx : ∀ t : State, s.vm.Alike t.vm → H.size ≤ t.heap.size → (∀ q : Nat, q < H.size → t.heap[q]? = H[q]?) → XC cls s t)
    (hf : ∀ z ∈ locs, free z.base) (hc : cells + 1 ≤ mc) (hs : slots + 6 ≤ ms) :
    W p l e R s m args below meth c H locs cells slots (vx_MQ below Qc XC args s mc ms free) (F0 m pc ls rest) := by
  intro T hT X
  have htr : e.platform.stackTraces = false := (show e.platform.stackTraces = l.stackTraces by rw [X.admits.platform]).trans hl
  have Y := vx_rebase X (R' := { frames := R.frames, locals := R.locals, cells := 1, slots := 6 }) (Nat.le_refl _) (Nat.le_refl _) hRcells hRslots
  obtain ⟨s', hA⟩ : ∃ z, z = (T.setVm s.vm).setFrames (.invoking m args :: below) := ⟨_, rfl⟩
  rw [← hA] at Y
  have hvm : s'.vm = s.vm := by rw [hA]; rfl
  have hhp : s'.heap = H := by rw [hA]; exact hT
  have hW0 : s.WarmedH s'.vm := by rw [hvm]; exact State.WarmedH.refl s
  have hat' : ∀ w ∈ vx_at0 own ic cls names, w.before args s' = true := fun w hw => vx_ot_at hW0 hvm.symm (hgood w (List.mem_cons_of_mem _ (List.mem_cons_of_mem _ hw))) (hat w hw)
  have hk' : (Cond.classLink own ik cls).before args s' = true := vx_ot_at hW0 hvm.symm (hgood _ List.mem_cons_self) hk
  have hini' : (Cond.initialized cls).before args s' = true := vx_ot_at hW0 hvm.symm (hgood _ (List.mem_cons_of_mem _ List.mem_cons_self)) hini
  have hU' : vx_Zq Bundle.tN "UNASSIGNED_STACK" Bundle.steD A s' s'.heap := by rw [hhp]; exact vx_Zq.moved hW0.alike (hU.kept hS.2.1)
  have hN' : vx_Zq Bundle.tN "SUPPRESSED_SENTINEL" Bundle.listD A s' s'.heap := by rw [hhp]; exact vx_Zq.moved hW0.alike (hN.kept hS.2.1)
  have h : ∀ w ∈ Bundle.ownAtoms0 own ic cls names, w.before args s' = true := vx_own hat' (vx_isRefq hU'.1) (vx_isRefq hN'.1) hU'.2.word hN'.2.word
  have hown' : s'.vm.findClass own = some m.cls := by rw [hvm]; exact hown
  have hins : (Cond.instantiable cls 6).before args s' = true := h _ (by simp [Bundle.ownAtoms0])
  obtain ⟨vm₁, cX, kX, hfX, hkX, -, -, X₁, st1⟩ := Y.newCold hexec (own := own) (C := cls) (index := ik) (n := 6) hown' hk' hins hini'
    (g := F0 m pc ls rest) rfl (by rw [hb]; exact d0) (Nat.le_refl _) (Nat.le_refl _)
  generalize hT1 : (T.setVm vm₁).pushCell { cls := cX, slots := kX.instanceTypes.map defaultValue, vm := .none } = T1 at X₁ st1
  have hcat : (Value.ref T.heap.size).category = 1 := rfl
  have hcellA : T1.heap[T.heap.size]? = some (freshCell cX kX) := by rw [← hT1]; exact State.heap_pushCell_size _ _
  have d3' : decode c.code (pc + 3) = .ok (.dup, 1) := by rw [hb]; exact d3
  obtain ⟨U, hsteps, hrun, hend, hW, hsame, ce, hce, hO⟩ := X₁.ctorThrow0 hexec htr (own := own) (cls := cls) (names := names) (ic := ic) hown' hcls hnames h (fun x hx => nomatch hx) hfX hkX hcellA (by rw [hhp, hT]; exact Nat.le_refl _)
    (g := { method := m, pc := pc + 4, locals := ls, stack := .ref T.heap.size :: .ref T.heap.size :: rest, locked := none }) rfl hsize rfl rfl (rest := rest) rfl
    (by rw [hb]; exact d4) (by rw [hb]; exact d7) hout hRframes (by simp only [List.map_cons, List.sum_cons, hcat]; omega) hlocks
  obtain ⟨f1, f2⟩ := vx_frame hsame
  rw [hhp] at f1 f2
  have hWs : s.WarmedH U.vm := State.WarmedH.trans hW0 hW
  have hcl : s.vm.findClass cls = some ce.cls := by
    have h9 := hO.cls
    rw [hvm] at h9
    exact h9
  have hall : s.sameButNew ({ U with vm := s.vm } : State) locs mc ms := by
    subst hA
    obtain ⟨e1, e2⟩ := hsame
    rw [State.setFrames_setFrames] at e1
    have h2 : (T.setVm s.vm).sameButNew ({ U with vm := s.vm } : State) [] (0 + 1) (0 + 6) := ⟨e1, e2⟩
    have h3 := X.same.trans h2
    rw [List.append_nil] at h3
    exact h3.mono hc hs
  refine ⟨U, ?_, .threw T.heap.size, hrun, hend, Or.inr ⟨T.heap.size, rfl, cls, ce, locs, hx U hWs.alike f1 (fun q hq => f2 q hq (fun z hz => nomatch hz)), hce, hO.vm, hcl, hWs, hall, hf⟩⟩
  refine st1 _ ?_
  show Steps p.tables e below (T1.setTop { method := m, pc := pc + 3, locals := ls, stack := .ref T.heap.size :: rest, locked := none }) _
  jvm_step X₁.here [X₁.here.top, hexec, d3', Value.category]
  exact hsteps
/-- 'throw new E("text")': new; dup; ldc; invokespecial; athrow -/
theorem vx_throwS {cc : ByteArray} {pc : Nat} (hexec : p.tables.exec = Jvm.exec) (hb : c.code = cc) (hl : l.stackTraces = false) {own cls text : String} {names : List String} {ik is ic mc ms sa : Nat} {A : Nat → Prop}
    (hown : s.vm.findClass own = some m.cls) (hcls : Bundle.fit cls = true) (hnames : ∀ n ∈ names, Bundle.fit n = true)
    (hk : (Cond.classLink own ik cls).before args s = true) (hini : (Cond.initialized cls).before args s = true) (hstr : vk_R own is text sa s) (hat : ∀ w ∈ vx_atS own ic cls names, w.before args s = true)
    (hgood : ∀ w ∈ Cond.classLink own ik cls :: Cond.initialized cls :: vx_atS own ic cls names, vx_ot w = true)
    (hU : vx_Zq Bundle.tN "UNASSIGNED_STACK" Bundle.steD A s s.heap) (hN : vx_Zq Bundle.tN "SUPPRESSED_SENTINEL" Bundle.listD A s s.heap) (hS : va_S A s.heap H locs) (hsize : ls.size = c.maxLocals)
    (d0 : decode cc pc = .ok (.new ik, 3)) (d3 : decode cc (pc + 3) = .ok (.dup, 1)) (d4 : decode cc (pc + 4) = .ok (.ldc is, 2)) (d6 : decode cc (pc + 6) = .ok (.invokespecial ic, 3)) (d9 : decode cc (pc + 9) = .ok (.athrow, 1))
    (hout : ∀ x ∈ c.exceptionTable.toList, covers x (pc + 9) = false)
    (hRframes : names.length + 3 < R.frames) (hRlocals : (rest.map fun v => v.category).sum + (13 * (names.length + 1) + 43) ≤ R.locals) (hRcells : cells + 1 ≤ R.cells) (hRslots : slots + 6 ≤ R.slots) (hlocks : meth.locks = false)
    (hx : ∀ t : State, s.vm.Alike t.vm → H.size ≤ t.heap.size → (∀ q : Nat, q < H.size → t.heap[q]? = H[q]?) → XC cls s t)
    (hf : ∀ z ∈ locs, free z.base) (hc : cells + 1 ≤ mc) (hs : slots + 6 ≤ ms) :
    W p l e R s m args below meth c H locs cells slots (vx_MQ below Qc XC args s mc ms free) (F0 m pc ls rest) := by
  intro T hT X
  have htr : e.platform.stackTraces = false := (show e.platform.stackTraces = l.stackTraces by rw [X.admits.platform]).trans hl
  have Y := vx_rebase X (R' := { frames := R.frames, locals := R.locals, cells := 1, slots := 6 }) (Nat.le_refl _) (Nat.le_refl _) hRcells hRslots
  obtain ⟨s', hA⟩ : ∃ z, z = (T.setVm s.vm).setFrames (.invoking m args :: below) := ⟨_, rfl⟩
  rw [← hA] at Y
  have hvm : s'.vm = s.vm := by rw [hA]; rfl
  have hhp : s'.heap = H := by rw [hA]; exact hT
  have hW0 : s.WarmedH s'.vm := by rw [hvm]; exact State.WarmedH.refl s
  have hat' : ∀ w ∈ vx_atS own ic cls names, w.before args s' = true := fun w hw => vx_ot_at hW0 hvm.symm (hgood w (List.mem_cons_of_mem _ (List.mem_cons_of_mem _ hw))) (hat w hw)
  have hk' : (Cond.classLink own ik cls).before args s' = true := vx_ot_at hW0 hvm.symm (hgood _ List.mem_cons_self) hk
  have hini' : (Cond.initialized cls).before args s' = true := vx_ot_at hW0 hvm.symm (hgood _ (List.mem_cons_of_mem _ List.mem_cons_self)) hini
  have hU' : vx_Zq Bundle.tN "UNASSIGNED_STACK" Bundle.steD A s' s'.heap := by rw [hhp]; exact vx_Zq.moved hW0.alike (hU.kept hS.2.1)
  have hN' : vx_Zq Bundle.tN "SUPPRESSED_SENTINEL" Bundle.listD A s' s'.heap := by rw [hhp]; exact vx_Zq.moved hW0.alike (hN.kept hS.2.1)
  have h : ∀ w ∈ Bundle.ownAtoms own ic cls names, w.before args s' = true := vx_own hat' (vx_isRefq hU'.1) (vx_isRefq hN'.1) hU'.2.word hN'.2.word
  have hown' : s'.vm.findClass own = some m.cls := by rw [hvm]; exact hown
  have hins : (Cond.instantiable cls 6).before args s' = true := h _ (by simp [Bundle.ownAtoms])
  obtain ⟨vm₁, cX, kX, hfX, hkX, -, -, X₁, st1⟩ := Y.newCold hexec (own := own) (C := cls) (index := ik) (n := 6) hown' hk' hins hini'
    (g := F0 m pc ls rest) rfl (by rw [hb]; exact d0) (Nat.le_refl _) (Nat.le_refl _)
  generalize hT1 : (T.setVm vm₁).pushCell { cls := cX, slots := kX.instanceTypes.map defaultValue, vm := .none } = T1 at X₁ st1
  have hcat : (Value.ref T.heap.size).category = 1 := rfl
  have hcellA : T1.heap[T.heap.size]? = some (freshCell cX kX) := by rw [← hT1]; exact State.heap_pushCell_size _ _
  have d3' : decode c.code (pc + 3) = .ok (.dup, 1) := by rw [hb]; exact d3
  have d4' : decode c.code (pc + 4) = .ok (.ldc is, 2) := by rw [hb]; exact d4
  have hstr' : vk_R own is text sa s' := vk_R.warm hW0 hstr
  obtain ⟨U, hsteps, hrun, hend, hW, hsame, ce, hce, hO⟩ := X₁.ctorThrowS hexec htr (own := own) (cls := cls) (names := names) (ic := ic) hown' hcls hnames h (fun x hx => nomatch hx) hfX hkX hcellA (by rw [hhp, hT]; exact Nat.le_refl _) (msg := .ref sa) rfl
    (g := { method := m, pc := pc + 6, locals := ls, stack := .ref sa :: .ref T.heap.size :: .ref T.heap.size :: rest, locked := none }) rfl hsize rfl rfl (rest := rest) rfl
    (by rw [hb]; exact d6) (by rw [hb]; exact d9) hout hRframes (by simp only [List.map_cons, List.sum_cons, hcat]; omega) hlocks
  obtain ⟨f1, f2⟩ := vx_frame hsame
  rw [hhp] at f1 f2
  have hWs : s.WarmedH U.vm := State.WarmedH.trans hW0 hW
  have hcl : s.vm.findClass cls = some ce.cls := by
    have h9 := hO.cls
    rw [hvm] at h9
    exact h9
  have hall : s.sameButNew ({ U with vm := s.vm } : State) locs mc ms := by
    subst hA
    obtain ⟨e1, e2⟩ := hsame
    rw [State.setFrames_setFrames] at e1
    have h2 : (T.setVm s.vm).sameButNew ({ U with vm := s.vm } : State) [] (0 + 1) (0 + 6) := ⟨e1, e2⟩
    have h3 := X.same.trans h2
    rw [List.append_nil] at h3
    exact h3.mono hc hs
  refine ⟨U, ?_, .threw T.heap.size, hrun, hend, Or.inr ⟨T.heap.size, rfl, cls, ce, locs, hx U hWs.alike f1 (fun q hq => f2 q hq (fun z hz => nomatch hz)), hce, hO.vm, hcl, hWs, hall, hf⟩⟩
  refine st1 _ ?_
  show Steps p.tables e below (T1.setTop { method := m, pc := pc + 3, locals := ls, stack := .ref T.heap.size :: rest, locked := none }) _
  jvm_step X₁.here [X₁.here.top, hexec, d3', Value.category]
  exact X₁.ldcString hexec (own := own) (text := text) (index := is) (a := sa) hown' hstr'.1 hstr'.2
    (g := { method := m, pc := pc + 4, locals := ls, stack := .ref T.heap.size :: .ref T.heap.size :: rest, locked := none }) rfl d4' _ hsteps
/-- 'throw new E("text")', the text by a wide index -/
theorem vx_throwSW {cc : ByteArray} {pc : Nat} (hexec : p.tables.exec = Jvm.exec) (hb : c.code = cc) (hl : l.stackTraces = false) {own cls text : String} {names : List String} {ik is ic mc ms sa : Nat} {A : Nat → Prop}
    (hown : s.vm.findClass own = some m.cls) (hcls : Bundle.fit cls = true) (hnames : ∀ n ∈ names, Bundle.fit n = true)
    (hk : (Cond.classLink own ik cls).before args s = true) (hini : (Cond.initialized cls).before args s = true) (hstr : vk_R own is text sa s) (hat : ∀ w ∈ vx_atS own ic cls names, w.before args s = true)
    (hgood : ∀ w ∈ Cond.classLink own ik cls :: Cond.initialized cls :: vx_atS own ic cls names, vx_ot w = true)
    (hU : vx_Zq Bundle.tN "UNASSIGNED_STACK" Bundle.steD A s s.heap) (hN : vx_Zq Bundle.tN "SUPPRESSED_SENTINEL" Bundle.listD A s s.heap) (hS : va_S A s.heap H locs) (hsize : ls.size = c.maxLocals)
    (d0 : decode cc pc = .ok (.new ik, 3)) (d3 : decode cc (pc + 3) = .ok (.dup, 1)) (d4 : decode cc (pc + 4) = .ok (.ldc_w is, 3)) (d7 : decode cc (pc + 7) = .ok (.invokespecial ic, 3)) (d10 : decode cc (pc + 10) = .ok (.athrow, 1))
    (hout : ∀ x ∈ c.exceptionTable.toList, covers x (pc + 10) = false)
    (hRframes : names.length + 3 < R.frames) (hRlocals : (rest.map fun v => v.category).sum + (13 * (names.length + 1) + 43) ≤ R.locals) (hRcells : cells + 1 ≤ R.cells) (hRslots : slots + 6 ≤ R.slots) (hlocks : meth.locks = false)
    (hx : ∀ t : State, s.vm.Alike t.vm → H.size ≤ t.heap.size → (∀ q : Nat, q < H.size → t.heap[q]? = H[q]?) → XC cls s t)
    (hf : ∀ z ∈ locs, free z.base) (hc : cells + 1 ≤ mc) (hs : slots + 6 ≤ ms) :
    W p l e R s m args below meth c H locs cells slots (vx_MQ below Qc XC args s mc ms free) (F0 m pc ls rest) := by
  intro T hT X
  have htr : e.platform.stackTraces = false := (show e.platform.stackTraces = l.stackTraces by rw [X.admits.platform]).trans hl
  have Y := vx_rebase X (R' := { frames := R.frames, locals := R.locals, cells := 1, slots := 6 }) (Nat.le_refl _) (Nat.le_refl _) hRcells hRslots
  obtain ⟨s', hA⟩ : ∃ z, z = (T.setVm s.vm).setFrames (.invoking m args :: below) := ⟨_, rfl⟩
  rw [← hA] at Y
  have hvm : s'.vm = s.vm := by rw [hA]; rfl
  have hhp : s'.heap = H := by rw [hA]; exact hT
  have hW0 : s.WarmedH s'.vm := by rw [hvm]; exact State.WarmedH.refl s
  have hat' : ∀ w ∈ vx_atS own ic cls names, w.before args s' = true := fun w hw => vx_ot_at hW0 hvm.symm (hgood w (List.mem_cons_of_mem _ (List.mem_cons_of_mem _ hw))) (hat w hw)
  have hk' : (Cond.classLink own ik cls).before args s' = true := vx_ot_at hW0 hvm.symm (hgood _ List.mem_cons_self) hk
  have hini' : (Cond.initialized cls).before args s' = true := vx_ot_at hW0 hvm.symm (hgood _ (List.mem_cons_of_mem _ List.mem_cons_self)) hini
  have hU' : vx_Zq Bundle.tN "UNASSIGNED_STACK" Bundle.steD A s' s'.heap := by rw [hhp]; exact vx_Zq.moved hW0.alike (hU.kept hS.2.1)
  have hN' : vx_Zq Bundle.tN "SUPPRESSED_SENTINEL" Bundle.listD A s' s'.heap := by rw [hhp]; exact vx_Zq.moved hW0.alike (hN.kept hS.2.1)
  have h : ∀ w ∈ Bundle.ownAtoms own ic cls names, w.before args s' = true := vx_own hat' (vx_isRefq hU'.1) (vx_isRefq hN'.1) hU'.2.word hN'.2.word
  have hown' : s'.vm.findClass own = some m.cls := by rw [hvm]; exact hown
  have hins : (Cond.instantiable cls 6).before args s' = true := h _ (by simp [Bundle.ownAtoms])
  obtain ⟨vm₁, cX, kX, hfX, hkX, -, -, X₁, st1⟩ := Y.newCold hexec (own := own) (C := cls) (index := ik) (n := 6) hown' hk' hins hini'
    (g := F0 m pc ls rest) rfl (by rw [hb]; exact d0) (Nat.le_refl _) (Nat.le_refl _)
  generalize hT1 : (T.setVm vm₁).pushCell { cls := cX, slots := kX.instanceTypes.map defaultValue, vm := .none } = T1 at X₁ st1
  have hcat : (Value.ref T.heap.size).category = 1 := rfl
  have hcellA : T1.heap[T.heap.size]? = some (freshCell cX kX) := by rw [← hT1]; exact State.heap_pushCell_size _ _
  have d3' : decode c.code (pc + 3) = .ok (.dup, 1) := by rw [hb]; exact d3
  have d4' : decode c.code (pc + 4) = .ok (.ldc_w is, 3) := by rw [hb]; exact d4
  have hstr' : vk_R own is text sa s' := vk_R.warm hW0 hstr
  obtain ⟨U, hsteps, hrun, hend, hW, hsame, ce, hce, hO⟩ := X₁.ctorThrowS hexec htr (own := own) (cls := cls) (names := names) (ic := ic) hown' hcls hnames h (fun x hx => nomatch hx) hfX hkX hcellA (by rw [hhp, hT]; exact Nat.le_refl _) (msg := .ref sa) rfl
    (g := { method := m, pc := pc + 7, locals := ls, stack := .ref sa :: .ref T.heap.size :: .ref T.heap.size :: rest, locked := none }) rfl hsize rfl rfl (rest := rest) rfl
    (by rw [hb]; exact d7) (by rw [hb]; exact d10) hout hRframes (by simp only [List.map_cons, List.sum_cons, hcat]; omega) hlocks
  obtain ⟨f1, f2⟩ := vx_frame hsame
  rw [hhp] at f1 f2
  have hWs : s.WarmedH U.vm := State.WarmedH.trans hW0 hW
  have hcl : s.vm.findClass cls = some ce.cls := by
    have h9 := hO.cls
    rw [hvm] at h9
    exact h9
  have hall : s.sameButNew ({ U with vm := s.vm } : State) locs mc ms := by
    subst hA
    obtain ⟨e1, e2⟩ := hsame
    rw [State.setFrames_setFrames] at e1
    have h2 : (T.setVm s.vm).sameButNew ({ U with vm := s.vm } : State) [] (0 + 1) (0 + 6) := ⟨e1, e2⟩
    have h3 := X.same.trans h2
    rw [List.append_nil] at h3
    exact h3.mono hc hs
  refine ⟨U, ?_, .threw T.heap.size, hrun, hend, Or.inr ⟨T.heap.size, rfl, cls, ce, locs, hx U hWs.alike f1 (fun q hq => f2 q hq (fun z hz => nomatch hz)), hce, hO.vm, hcl, hWs, hall, hf⟩⟩
  refine st1 _ ?_
  show Steps p.tables e below (T1.setTop { method := m, pc := pc + 3, locals := ls, stack := .ref T.heap.size :: rest, locked := none }) _
  jvm_step X₁.here [X₁.here.top, hexec, d3', Value.category]
  exact X₁.ldcStringW hexec (own := own) (text := text) (index := is) (a := sa) hown' hstr'.1 hstr'.2
    (g := { method := m, pc := pc + 4, locals := ls, stack := .ref T.heap.size :: .ref T.heap.size :: rest, locked := none }) rfl d4' _ hsteps
end Ends
section Bodies
variable {l : Launch}
theorem vx_ofW {y : MethodName} {ws ws' : List Cond} {rm : Room} {Pc : Array Value → State → Prop} {Qc : Array Value → State → Outcome → State → Prop} {XC : String → State → State → Prop} {mc ms : Nat} {free : Addr → Prop} {cc : ByteArray} {maxL : Nat} {ret : Option FieldType}
    (hy : plainName y.cls = true) (hw : ws = Cond.code y cc maxL ret :: ws')
    (body : ∀ p e s m args below meth c s₁, BodyLoose p l y (headSpec ws rm) cc maxL ret e s m args below meth c s₁ → c.maxLocals = maxL → (∀ x ∈ c.exceptionTable.toList, False) → Pc args s →
      W p l e (headSpec ws rm).room s m args below meth c s.heap [] 0 0 (vx_MQ below Qc XC args s mc ms free) (entryFrame m args maxL)) : vx_Met l y ws rm Pc Qc XC mc ms free := by
  refine MetFree.of_bodyS (code := cc) (maxLocals := maxL) (ret := ret) hy ?_ ?_
  · intro args s m h hn
    obtain ⟨meth, c, h1, h2, h3, h4, h5, h6, -, -⟩ := Cond.code_spec hn (atoms_spec (ws := ws) h _ (by rw [hw]; exact List.mem_cons_self))
    exact ⟨meth, c, h1, h2, h3, h4, h5, h6⟩
  · intro p e s m args below meth c s₁ B hml hP _
    have hh0 : s₁.heap = s.heap := by rw [B.state]; rfl
    have ht : ∀ x ∈ c.exceptionTable.toList, False := by
      obtain ⟨meth9, c9, h1, h2, -, -, -, -, h7, -⟩ := Cond.code_spec B.named (atoms_spec (ws := ws) B.pre _ (by rw [hw]; exact List.mem_cons_self))
      cases Option.some.inj (h1.symm.trans B.method)
      cases Option.some.inj (h2.symm.trans (Stand.of_body B).code)
      intro x hx
      rw [Array.isEmpty_iff.mp h7] at hx
      cases hx
    obtain ⟨t, a1, o, b1, b2, b3⟩ := body p e s m args below meth c s₁ B hml ht hP s₁ hh0 (Stand.of_body B)
    exact ⟨t, o, a1, b1, b2, b3⟩
/-- the table of a body with handlers -/
theorem vx_table {p : Program} {x y : MethodName} {S : Spec} {cc bytes : ByteArray} {maxL maxL' : Nat} {ret ret' : Option FieldType} {e : Env} {s s₁ : State} {m : MethodId} {args : Array Value} {below : List Frame} {meth : Method} {c : Code} {hh : List (Nat × Nat × Nat × Nat)}
    (B : BodyLoose p l y S cc maxL ret e s m args below meth c s₁) (h : (Cond.codeWith y bytes maxL' ret' hh).before args s = true) : c.exceptionTable.toList = tableOf hh := by
  obtain ⟨m9, meth9, c9, hn9, h1, h2, -, -, h6, -⟩ := Cond.codeWith_spec h
  cases Option.some.inj (hn9.symm.trans B.named)
  cases Option.some.inj (h1.symm.trans B.method)
  cases Option.some.inj (h2.symm.trans (Stand.of_body B).code)
  rw [← h6, table_eq]
end Bodies
end VXA
/-! ===== END ===== -/
/-! ===== BEGIN a static call of a method with an exception table ===== -/
section VXS
variable {p : Program} {l : Launch} {e : Env} {R : Room} {s : State} {m : MethodId} {args : Array Value} {below : List Frame} {meth : Method} {c : Code} {T : State} {H : Heap} {locs : List Loc} {cells slots : Nat}
abbrev vx_CSW (R : Room) (s : State) (args : Array Value) (own : String) (index : Nat) (y : MethodName) (bytes : ByteArray) (maxL : Nat) (ret : Option FieldType) (hh : List (Nat × Nat × Nat × Nat)) (ws : List Cond) (rm : Room) (mc ms n : Nat) : Prop :=
  (rm.cells = mc ∧ rm.slots = ms ∧ rm.frames + 1 ≤ R.frames ∧ 8 + (maxL + 11) + rm.locals ≤ R.locals ∧ (∀ w ∈ ws, ∀ (a' : Array Value) (U : State), s.WarmedH U.vm → w.before a' U = true) ∧ Cond.codeWith y bytes maxL ret hh ∈ ws) ∧
  (Cond.codeWith y bytes maxL ret hh).before args s = true ∧ (Cond.initialized y.cls).before args s = true ∧ (y.cls ≠ "java/lang/invoke/MethodHandle" ∧ y.cls ≠ "java/lang/invoke/VarHandle") ∧
  (∀ sig, parseMethodDescriptor y.desc = some sig → n = sig.parameters.length) ∧ (Cond.methodLink own index y).before args s = true ∧ (Cond.static y).before args s = true
theorem vx_cwSW {own : String} {index maxL mc ms : Nat} {y : MethodName} {bytes : ByteArray} {ret : Option FieldType} {hh : List (Nat × Nat × Nat × Nat)} {Ts ws ws' : List Cond} {rm : Room} (n : Nat) (ht : ∀ w ∈ Ts, w.before args s = true) (hT : GoodIn Ts (va_wsS own index y ws)) (hw : ws = Cond.codeWith y bytes maxL ret hh :: ws') (hrc : rm.cells = mc) (hrs : rm.slots = ms)
    (hd : y.cls ≠ "java/lang/invoke/MethodHandle" ∧ y.cls ≠ "java/lang/invoke/VarHandle" ∧ (parseMethodDescriptor y.desc).map (fun d => d.parameters.length) = some n) (hR : rm.frames + 1 ≤ R.frames ∧ 8 + (maxL + 11) + rm.locals ≤ R.locals) :
    vx_CSW R s args own index y bytes maxL ret hh ws rm mc ms n := by
  have ok : ∀ w ∈ va_wsS own index y ws, w.before args s = true := fun w h => ht w (hT w h).1
  have hG : GoodIn Ts ws := fun w h => hT w (by unfold va_wsS; exact List.mem_append_right _ h)
  have hc : Cond.codeWith y bytes maxL ret hh ∈ ws := by rw [hw]; exact List.mem_cons_self
  refine ⟨⟨hrc, hrs, hR.1, hR.2, pay_in ht hG, hc⟩, ht _ (hG _ hc).1, ok _ (by simp [va_wsS]), ⟨hd.1, hd.2.1⟩, fun sig h => ?_, ok _ (by simp [va_wsS]), ok _ (by simp [va_wsS])⟩
  have h2 := hd.2.2
  rw [h] at h2
  exact (Option.some.inj h2).symm
theorem vx_callSW (X : Stand p l e R s m args below meth c T locs cells slots) (hexec : p.tables.exec = Jvm.exec) {own : String} {index : Nat} {y : MethodName} {bytes : ByteArray} {maxL : Nat} {ret : Option FieldType} {hh : List (Nat × Nat × Nat × Nat)}
    (hown : s.vm.findClass own = some m.cls) (hlink : (Cond.methodLink own index y).before args s = true) (hstat : (Cond.static y).before args s = true) (hinit : (Cond.initialized y.cls).before args s = true)
    (hcode : (Cond.codeWith y bytes maxL ret hh).before args s = true) (hy : y.cls ≠ "java/lang/invoke/MethodHandle" ∧ y.cls ≠ "java/lang/invoke/VarHandle")
    {W9 : Nat} {Pre : Pt → Array Value → Prop} {Post : Pt → Array Value → Option Value → Pt → Prop} (hK : Back l R p e below s args y 3 W9 Pre Post)
    {g : JFrame} (hg : g.method = m) (hsize : g.locals.size = c.maxLocals) {argsL rest : List Value} (hlen : ∀ sig, parseMethodDescriptor y.desc = some sig → argsL.length = sig.parameters.length)
    (hstack : g.stack = argsL.reverse ++ rest) (hW : 2 * g.monitorRoom + (rest.map fun v => v.category).sum ≤ W9) (hdg : decode c.code g.pc = .ok (.invokestatic index, 3))
    (hpre : ∀ vm₁, s.WarmedH vm₁ → Pre ⟨T.setVm vm₁, locs, cells, slots⟩ argsL.toArray) :
    ∃ (v : Option Value) (vm₁ : Vm) (B : Pt), s.WarmedH vm₁ ∧ Stand p l e R s m args below meth c B.U B.locs B.cells B.slots ∧ Post ⟨T.setVm vm₁, locs, cells, slots⟩ argsL.toArray v B ∧
      ∀ target, Steps p.tables e below (B.U.setTop { g with pc := g.pc + 3, stack := v.toList ++ rest }) target → Steps p.tables e below (T.setTop g) target := by
  obtain ⟨mk, methM, cM, hnamed, hmethM, -, -, -, -, -, -, hsigM⟩ := Cond.codeWith_spec hcode
  have hstatic : methM.isStatic = true := Cond.static_spec hnamed hmethM hstat
  obtain ⟨kP, hkP, -⟩ := className_of_methodNamed hnamed
  have hinitP : kP.init = .initialized := Cond.initialized_spec (findClass_of_methodNamed hnamed) hkP hinit
  obtain ⟨vm₁, X₁, hstep₁⟩ := X.invokestatic hexec hown hlink hnamed hmethM hstatic hkP hinitP hy (g := g) hg (argsL := argsL) (rest := rest) (hlen _ hsigM) hstack hdg
  obtain ⟨v, B, X', hpost, hsteps⟩ := hK m meth c ⟨T.setVm vm₁, locs, cells, slots⟩ { g with stack := rest } (.invokestatic index) mk argsL.toArray X₁ hg hsize hdg hW (X₁.named hnamed) (hpre vm₁ X₁.warmed)
  exact ⟨v, vm₁, B, X₁.warmed, X', hpost, fun target h => hstep₁ _ fun acts => by rw [doInvoke_state]; exact hsteps.trans h⟩
theorem vx_runSW {y : MethodName} {bytes cc : ByteArray} {maxL nL mc ms n index : Nat} {ret : Option FieldType} {hh : List (Nat × Nat × Nat × Nat)} {ws : List Cond} {rm : Room} {Pc : Array Value → State → Prop} {Qc : Array Value → State → Outcome → State → Prop} {free : Addr → Prop} {Ts : List Cond} {own : String} {As rest : List Value} {g : JFrame}
    (S : CallFix p m c cc nL s args Ts own) (hM : Met l y ws rm Pc Qc mc ms free) (cw : vx_CSW R s args own index y bytes maxL ret hh ws rm mc ms n) (hp : PreS s H Pc As)
    (hg : g.method = m) (hn : As.length = n) (hsize : g.locals.size = nL) (hstack : g.stack = As.reverse ++ rest) (hW : 2 * g.monitorRoom + (rest.map fun v => v.category).sum ≤ 8) (hdg : decode cc g.pc = .ok (.invokestatic index, 3)) (hf : cells + mc ≤ R.cells ∧ slots + ms ≤ R.slots) :
    va_Run p l e R s m args below meth c H locs cells slots mc ms g rest (Qc As.toArray) (free) := by
  obtain ⟨⟨hrc, hrs, hfr, hlo, hws, hcw⟩, hcode, hini, hy, hlen, hl, hstt⟩ := cw
  have hK : Back l R p e below s args y 3 8 (PreOf R mc ms Pc) (PostOf Qc mc ms free) := va_backW (hh := hh) (bytes := bytes) (maxL := maxL) (ret := ret) hM hp.1 hrc hrs hfr hlo hws hcw (fun a' U hW => word_at hW (Or.inl (by first | rfl | simp [Cond.onTables, Cond.keeps, Cond.steady])) hini)
  obtain ⟨hx, hb, hml, ho, -⟩ := S
  intro T hT X
  obtain ⟨v, vm₁, ⟨U', l2, c2, s2⟩, hW₁, X', ⟨g', mk, t, L, e1, e2, hq, h1, hL, h2, h3⟩, st⟩ := vx_callSW X hx (hh := hh) (bytes := bytes) (maxL := maxL) (ret := ret) ho hl hstt hini hcode hy hK hg (hsize.trans hml.symm) (argsL := As) (rest := rest) (fun sig h => hn.trans (hlen sig h)) hstack hW (by rw [hb]; exact hdg)
    (fun vm₁ hW₁ => ⟨hf.1, hf.2, hp.2 (T.setVm vm₁) hT hW₁⟩)
  dsimp only [Pt.U, Pt.locs, Pt.cells, Pt.slots] at X' e1 e2 h1 h2 h3 st
  subst h1; subst h2; subst h3
  exact ⟨v, (T.setVm vm₁).calling g' mk As.toArray, t, U', L, hT, X', hL, e1, e2, hq, st⟩
/-- not caught here, past rows that name other classes: it goes on to the caller -/
theorem vx_outP {p : Program} {l : Launch} {e : Env} {R : Room} {s : State} {m : MethodId} {args : Array Value} {below : List Frame} {meth : Method} {c : Code} {H : Heap} {locs : List Loc} {cells slots : Nat} {free : Addr → Prop} {ls : Array Slot} {rest : List Value} {Qc : Array Value → State → Outcome → State → Prop} {XC : String → State → State → Prop}
    {pc : Nat} {own E : String} {ce : Cell} {q : Addr} {mc ms : Nat} (hown : s.vm.findClass own = some m.cls) (hlocks : meth.locks = false)
    (hpass : ∀ z ∈ c.exceptionTable.toList, covers z pc = false ∨ (z.catchType ≠ 0 ∧ ∃ nm : String, (Cond.classLink own z.catchType nm).before args s = true ∧ va_Nc E nm s)) (hcell : H[q]? = some ce) (hv : ce.vm = .none) (hcl : s.vm.findClass E = some ce.cls)
    (hx : ∀ t : State, t.heap = H → s.vm.Alike t.vm → XC E s t) (hf : ∀ z ∈ locs, free z.base) (hc : cells ≤ mc) (hs : slots ≤ ms) :
    vx_W p l e R s m args below meth c H locs cells slots (vx_MQ below Qc XC args s mc ms free) (F0 m pc ls rest) q := by
  intro T hT X
  have hpl : e.platform.magicAccessors = ({} : Platform).magicAccessors := by rw [X.admits.platform]
  obtain ⟨vm', hW', X', st⟩ := X.outThrough hlocks q (g := F0 m pc ls rest) rfl rfl rfl (cell := ce) (by rw [hT]; exact hcell) (by rw [hv]; rfl)
    (by obtain ⟨k9, h9, -⟩ := Vm.findClass_spec hcl; exact ⟨k9, h9⟩) (fun z hz => by
      rcases hpass z hz with h | ⟨hz0, nm, hl1, hn1⟩
      · exact Or.inl h
      · obtain ⟨c6, hc6, hcl6⟩ := Cond.classLink_spec hown hl1 e.platform hpl
        obtain ⟨a8, b8, h1, h2, h3⟩ := hn1
        cases Option.some.inj (h1.symm.trans hcl)
        cases Option.some.inj (h2.symm.trans hc6)
        exact Or.inr ⟨hz0, _, hcl6, h3⟩)
  obtain ⟨g₀, hfr⟩ := X'.frames_eq
  have hcell9 : ((T.setVm vm').setFrames (.throwing q :: below)).heap[q]? = some ce := by
    show T.heap[q]? = some ce
    rw [hT]; exact hcell
  have hend : Ended ((T.setVm vm').setFrames (.throwing q :: below)) below (.threw q) := State.frames_setFrames _ (State.cur_lt_of_frames hfr)
  refine ⟨(T.setVm vm').setFrames (.throwing q :: below), ?_, .threw q, X'.here.running, hend, Or.inr ⟨q, rfl, E, ce, locs, hx _ hT (X'.ends _).1.alike, hcell9, hv, hcl, (X'.ends _).1, (X'.ends _).2.mono hc hs, hf⟩⟩
  rw [X.pushThrowing_eq]
  exact st
/-- a thing of a world lies in the heap -/
theorem vx_lt {D : va_G} {cl : List vw_C} {ws : va_W} {H1 : Heap} (h : va_P D cl ws H1) {k : Nat} {q : Nat × va_E} (hk : ws[k]? = some q) : q.1 < H1.size := (h k q hk).lt
end VXS
/-! ===== END ===== -/
/-! ===== BEGIN methods with a table of their own: called by a name, returning or throwing ===== -/
section VXH
/-! vx_backW, vx_callVX, vx_callSX, vx_callVW, vx_runVW, vx_runVX, vx_runSX, vx_ofWH follow the same proofs as their sisters above (Free/Laws.lean, Shelf42/LK1.lean); vx_outP calls Shelf42/NT130.lean (outThrough). -/
section
variable {l : Launch} {R : Room} {p : Program} {e : Env} {below : List Frame} {s : State} {sargs : Array Value} {y : MethodName} {len W9 : Nat}
theorem vx_backW {ws : List Cond} {rm : Room} {Pc : Array Value → State → Prop} {Qc : Array Value → State → Outcome → State → Prop} {XC : String → State → State → Prop} {mc ms : Nat} {free : Addr → Prop} {bytes : ByteArray} {maxL : Nat} {ret : Option FieldType} {hh : List (Nat × Nat × Nat × Nat)}
    (hM : vx_Met l y ws rm Pc Qc XC mc ms free) (hblind : FrameBlind Pc) (hrc : rm.cells = mc) (hrs : rm.slots = ms)
    (hframes : rm.frames + 1 ≤ R.frames) (hlocals : W9 + (maxL + 11) + rm.locals ≤ R.locals)
    (hws : ∀ w ∈ ws, ∀ a' U, s.WarmedH U.vm → w.before a' U = true) (hcode : Cond.codeWith y bytes maxL ret hh ∈ ws) (hinit : ∀ a' U, s.WarmedH U.vm → (Cond.initialized y.cls).before a' U = true) :
    vx_Back l R p e below s sargs y len W9 (PreOf R mc ms Pc) (PostOf Qc mc ms free) (vx_Post XC mc ms free) := by
  intro m meth c A g ig mk a X hg hsize hdg hW hn hp
  have h1 : (headSpec ws rm).pre.before a A.U = true := atoms_intro fun w hw => hws w hw _ _ X.warmed
  have h2 : (Cond.codeWith y bytes maxL ret hh).before a A.U = true := hws _ hcode _ _ X.warmed
  have h3 : (Cond.initialized y.cls).before a A.U = true := hinit _ _ X.warmed
  have h4 : A.cells + (headSpec ws rm).room.cells ≤ R.cells := by rw [show (headSpec ws rm).room.cells = mc from hrc]; exact hp.1
  have h5 : A.slots + (headSpec ws rm).room.slots ≤ R.slots := by rw [show (headSpec ws rm).room.slots = ms from hrs]; exact hp.2.1
  have hPc : Pc a (A.U.calling g mk a) := hblind _ _ _ _ hp.2.2
  obtain ⟨U, Ls, c0, s0⟩ := A
  dsimp only [Pt.U, Pt.locs, Pt.cells, Pt.slots] at h1 h2 h3 h4 h5 X hn hPc ⊢
  obtain ⟨m9, methY, cY, hn9, hmY, hcY, -, hlY, -⟩ := Cond.codeWith_spec h2
  cases Option.some.inj (hn9.symm.trans hn)
  obtain ⟨kY, hkY, -⟩ := className_of_methodNamed hn
  have hinitY : kY.init = .initialized := Cond.initialized_spec (findClass_of_methodNamed hn) hkY h3
  have h : At U g.method c below := by rw [hg]; exact X.here
  have hlocals9 : W9 + (maxL + 11) + (headSpec ws rm).room.locals ≤ R.locals := hlocals
  have happ : (headSpec ws rm).appliesLoose y e.platform (U.calling g mk a) = true :=
    Spec.appliesLoose_calling (g := g) h hdg hn hkY hinitY
      (X.room_calling (g := g) (R' := (headSpec ws rm).room) hsize hmY hcY hframes (by rw [hlY]; omega) h4 h5) h1
  obtain ⟨mid, hmid⟩ := h.above
  have hfr : (U.setTop g).frames = (.java g :: mid) ++ below := by rw [State.frames_setTop' g h.top, hmid]; rfl
  obtain ⟨o, s₂, hsteps, -, hend, hq⟩ := Steps.callFree hM p X.admits X.cas X.clock (acts := []) hfr happ hPc trivial
  have hq' : vx_Q Qc XC mc ms free a (U.calling g mk a) o s₂ := hq
  rw [State.frames_setTop' g h.top] at hend
  obtain ⟨g₀, hg0⟩ := Option.isSome_iff_exists.mp h.top
  obtain ⟨r, hr⟩ := State.topJava?_eq_some.mp hg0
  have hr' : (({ U with heap := s₂.heap, slotsUsed := s₂.slotsUsed } : State).setVm s₂.vm).frames = .java g₀ :: r := hr
  rcases hq' with ⟨hqc, L, hfe, hL⟩ | ⟨q, rfl, E, ce, L, hx, hce, hcv, hcl, hW₂, hsm, hL⟩
  · obtain ⟨⟨v, rfl⟩, hW₂, e2, q2, q3, q4, q5, q6⟩ := id hfe
    have e3 : s₂ = ({ (U.calling g mk a).setFrames s₂.frames with heap := s₂.heap, slotsUsed := s₂.slotsUsed } : State).setVm s₂.vm := by
      have : s₂ = ({ s₂ with vm := (U.calling g mk a).vm } : State).setVm s₂.vm := rfl
      rw [e2] at this
      exact this
    obtain ⟨c₂, i₂, len₂, hc₂, hd₂, hf₂⟩ := hend
    have hW' : U.WarmedH s₂.vm := hW₂
    have hcc : c₂ = c := by
      have h1 : s₂.code? g.method = U.code? g.method := by
        rw [State.code?_eq, State.code?_eq, hW'.alike.method?]
      exact Option.some.inj (hc₂.symm.trans (h1.trans h.code))
    subst hcc
    have hlen : len₂ = len := by rw [hdg] at hd₂; cases hd₂; rfl
    subst hlen
    have hs₂ : s₂ = (({ U with heap := s₂.heap, slotsUsed := s₂.slotsUsed } : State).setVm s₂.vm).setTop { g with pc := g.pc + len₂, stack := v.toList ++ g.stack } := by
      refine e3.trans ?_
      rw [hf₂, State.calling_eq h.top, State.setFrames_setFrames, State.setTop_of_frames _ hr', hr]
      rfl
    have hsame : U.sameButNew ({ U with heap := s₂.heap, slotsUsed := s₂.slotsUsed } : State) L mc ms := by
      refine ⟨?_, q2, q3, q4, q5, q6⟩
      obtain ⟨t, ht, -⟩ := State.frames_cons hr
      show ({ U with heap := s₂.heap, slotsUsed := s₂.slotsUsed } : State) = { U.setFrames U.frames with heap := s₂.heap, slotsUsed := s₂.slotsUsed }
      rw [State.setFrames_self ht]
    subst hg
    refine Or.inl ⟨v, ⟨(({ U with heap := s₂.heap, slotsUsed := s₂.slotsUsed } : State).setVm s₂.vm), Ls ++ L, c0 + mc, s0 + ms⟩,
      ⟨X.admits, X.cas, X.clock, X.frames, X.room, X.hears, X.method, X.code, (X.here.setHeapUsed s₂.heap s₂.slotsUsed).setVm hW'.alike, X.tail, State.WarmedH.trans X.warmed hW', X.limits, X.bytes, X.same.trans (hsame.setVm s.vm)⟩,
      ⟨g, mk, s₂, L, rfl, rfl, hqc, rfl, hL, rfl, rfl⟩, ?_⟩
    show Steps p.tables e below _ ((({ U with heap := s₂.heap, slotsUsed := s₂.slotsUsed } : State).setVm s₂.vm).setTop { g with pc := g.pc + len₂, stack := v.toList ++ g.stack })
    rw [← hs₂]
    exact hsteps
  · obtain ⟨e2, q2, q3, q4, q5, q6⟩ := id hsm
    have e3 : s₂ = ({ (U.calling g mk a).setFrames s₂.frames with heap := s₂.heap, slotsUsed := s₂.slotsUsed } : State).setVm s₂.vm := by
      have : s₂ = ({ s₂ with vm := (U.calling g mk a).vm } : State).setVm s₂.vm := rfl
      rw [e2] at this
      exact this
    have hf₂ : s₂.frames = .throwing q :: .java g :: U.frames.tail := hend
    have hW' : U.WarmedH s₂.vm := hW₂
    have hs₂ : s₂ = ((({ U with heap := s₂.heap, slotsUsed := s₂.slotsUsed } : State).setVm s₂.vm).setTop g).pushFrame (.throwing q) := by
      refine e3.trans ?_
      rw [hf₂, State.calling_eq h.top, State.setFrames_setFrames, State.pushFrame, State.frames_setTop _ hr', State.setTop_of_frames _ hr', State.setFrames_setFrames, hr]
      rfl
    have hsame : U.sameButNew ({ U with heap := s₂.heap, slotsUsed := s₂.slotsUsed } : State) L mc ms := by
      refine ⟨?_, q2, q3, q4, q5, q6⟩
      obtain ⟨t, ht, -⟩ := State.frames_cons hr
      show ({ U with heap := s₂.heap, slotsUsed := s₂.slotsUsed } : State) = { U.setFrames U.frames with heap := s₂.heap, slotsUsed := s₂.slotsUsed }
      rw [State.setFrames_self ht]
    subst hg
    refine Or.inr ⟨q, ⟨(({ U with heap := s₂.heap, slotsUsed := s₂.slotsUsed } : State).setVm s₂.vm), Ls ++ L, c0 + mc, s0 + ms⟩,
      ⟨X.admits, X.cas, X.clock, X.frames, X.room, X.hears, X.method, X.code, (X.here.setHeapUsed s₂.heap s₂.slotsUsed).setVm hW'.alike, X.tail, State.WarmedH.trans X.warmed hW', X.limits, X.bytes, X.same.trans (hsame.setVm s.vm)⟩,
      ⟨g, mk, s₂, L, E, ce, rfl, rfl, hx, hce, hcv, hcl, rfl, hL, rfl, rfl⟩, ?_⟩
    show Steps p.tables e below _ (((({ U with heap := s₂.heap, slotsUsed := s₂.slotsUsed } : State).setVm s₂.vm).setTop g).pushFrame (.throwing q))
    rw [← hs₂]
    exact hsteps
end
variable {p : Program} {l : Launch} {e : Env} {R : Room} {s : State} {m : MethodId} {args : Array Value} {below : List Frame} {meth : Method} {c : Code} {T : State} {H : Heap} {locs : List Loc} {cells slots : Nat}
theorem vx_callVX (X : Stand p l e R s m args below meth c T locs cells slots) (hexec : p.tables.exec = Jvm.exec) {own C : String} {index : Nat} {y : MethodName} {bytes : ByteArray} {maxL : Nat} {ret : Option FieldType} {hh : List (Nat × Nat × Nat × Nat)}
    (hown : s.vm.findClass own = some m.cls) (hlink : (Cond.methodLink own index y).before args s = true) (hinst : (Cond.instanceMethod y).before args s = true) (hsel : (Cond.selects C y y).before args s = true)
    (hcode : (Cond.codeWith y bytes maxL ret hh).before args s = true) (hy : y.cls ≠ "java/lang/invoke/MethodHandle" ∧ y.cls ≠ "java/lang/invoke/VarHandle")
    {W9 : Nat} {Pre : Pt → Array Value → Prop} {Post : Pt → Array Value → Option Value → Pt → Prop} {PostX : Pt → Array Value → Addr → Pt → Prop} (hK : vx_Back l R p e below s args y 3 W9 Pre Post PostX)
    {b : Addr} {cellB : Cell} (hcell : T.heap[b]? = some cellB) (hobj : cellB.vm.isStatics = false) (hcls : s.vm.findClass C = some cellB.cls)
    {g : JFrame} (hg : g.method = m) (hsize : g.locals.size = c.maxLocals) {argsL rest : List Value} (hlen : ∀ sig, parseMethodDescriptor y.desc = some sig → argsL.length = sig.parameters.length)
    (hstack : g.stack = argsL.reverse ++ .ref b :: rest) (hW : 2 * g.monitorRoom + (rest.map fun v => v.category).sum ≤ W9) (hdg : decode c.code g.pc = .ok (.invokevirtual index, 3))
    (hpre : ∀ vm₁, s.WarmedH vm₁ → Pre ⟨T.setVm vm₁, locs, cells, slots⟩ (Value.ref b :: argsL).toArray) :
    (∃ (v : Option Value) (vm₁ : Vm) (B : Pt), s.WarmedH vm₁ ∧ Stand p l e R s m args below meth c B.U B.locs B.cells B.slots ∧ Post ⟨T.setVm vm₁, locs, cells, slots⟩ (Value.ref b :: argsL).toArray v B ∧
      ∀ target, Steps p.tables e below (B.U.setTop { g with pc := g.pc + 3, stack := v.toList ++ rest }) target → Steps p.tables e below (T.setTop g) target) ∨
    (∃ (q : Addr) (vm₁ : Vm) (B : Pt), s.WarmedH vm₁ ∧ Stand p l e R s m args below meth c B.U B.locs B.cells B.slots ∧ PostX ⟨T.setVm vm₁, locs, cells, slots⟩ (Value.ref b :: argsL).toArray q B ∧
      Steps p.tables e below (T.setTop g) ((B.U.setTop { g with stack := rest }).pushFrame (.throwing q))) := by
  obtain ⟨mk, methM, hnamed, hmethM, hstM, habM⟩ := Cond.instanceMethod_spec hinst
  obtain ⟨m8, methM', cM, hn8, hmethM', -, -, -, -, -, -, hsigM⟩ := Cond.codeWith_spec hcode
  cases Option.some.inj (hn8.symm.trans hnamed)
  cases hmethM.symm.trans hmethM'
  obtain ⟨c2, r2, m2, q1, q2, q3, q4, kP, hkP, hkPi⟩ := Cond.selects_spec hsel
  cases hcls.symm.trans q1
  cases (State.methodFound?_of_named hnamed hy).symm.trans q2
  cases hnamed.symm.trans q3
  have hselP : selectMethod e.platform s.vm cellB.cls mk = .method mk := by rw [Launch.admits_selectMethod X.admits]; exact q4
  obtain ⟨vm₁, X₁, hstep₁⟩ := X.invokevirtual hexec hown hlink hnamed hmethM hstM hkP hkPi hy (a := b) (cell := cellB) hcell
    (fun z h => by rw [h] at hobj; cases hobj) hselP hmethM habM hkP hkPi (g := g) hg (argsL := argsL) (rest := rest) (hlen _ hsigM) hstack hdg
  rcases hK m meth c ⟨T.setVm vm₁, locs, cells, slots⟩ { g with stack := rest } (.invokevirtual index) mk (Value.ref b :: argsL).toArray X₁ hg hsize hdg hW (X₁.named hnamed) (hpre vm₁ X₁.warmed) with ⟨v, B, X', hpost, hsteps⟩ | ⟨q, B, X', hpost, hsteps⟩
  · exact Or.inl ⟨v, vm₁, B, X₁.warmed, X', hpost, fun target h => hstep₁ _ fun acts => by rw [doInvoke_state]; exact hsteps.trans h⟩
  · exact Or.inr ⟨q, vm₁, B, X₁.warmed, X', hpost, hstep₁ _ fun acts => by rw [doInvoke_state]; exact hsteps⟩
theorem vx_callSX (X : Stand p l e R s m args below meth c T locs cells slots) (hexec : p.tables.exec = Jvm.exec) {own : String} {index : Nat} {y : MethodName} {bytes : ByteArray} {maxL : Nat} {ret : Option FieldType} {hh : List (Nat × Nat × Nat × Nat)}
    (hown : s.vm.findClass own = some m.cls) (hlink : (Cond.methodLink own index y).before args s = true) (hstat : (Cond.static y).before args s = true) (hinit : (Cond.initialized y.cls).before args s = true)
    (hcode : (Cond.codeWith y bytes maxL ret hh).before args s = true) (hy : y.cls ≠ "java/lang/invoke/MethodHandle" ∧ y.cls ≠ "java/lang/invoke/VarHandle")
    {W9 : Nat} {Pre : Pt → Array Value → Prop} {Post : Pt → Array Value → Option Value → Pt → Prop} {PostX : Pt → Array Value → Addr → Pt → Prop} (hK : vx_Back l R p e below s args y 3 W9 Pre Post PostX)
    {g : JFrame} (hg : g.method = m) (hsize : g.locals.size = c.maxLocals) {argsL rest : List Value} (hlen : ∀ sig, parseMethodDescriptor y.desc = some sig → argsL.length = sig.parameters.length)
    (hstack : g.stack = argsL.reverse ++ rest) (hW : 2 * g.monitorRoom + (rest.map fun v => v.category).sum ≤ W9) (hdg : decode c.code g.pc = .ok (.invokestatic index, 3))
    (hpre : ∀ vm₁, s.WarmedH vm₁ → Pre ⟨T.setVm vm₁, locs, cells, slots⟩ argsL.toArray) :
    (∃ (v : Option Value) (vm₁ : Vm) (B : Pt), s.WarmedH vm₁ ∧ Stand p l e R s m args below meth c B.U B.locs B.cells B.slots ∧ Post ⟨T.setVm vm₁, locs, cells, slots⟩ argsL.toArray v B ∧
      ∀ target, Steps p.tables e below (B.U.setTop { g with pc := g.pc + 3, stack := v.toList ++ rest }) target → Steps p.tables e below (T.setTop g) target) ∨
    (∃ (q : Addr) (vm₁ : Vm) (B : Pt), s.WarmedH vm₁ ∧ Stand p l e R s m args below meth c B.U B.locs B.cells B.slots ∧ PostX ⟨T.setVm vm₁, locs, cells, slots⟩ argsL.toArray q B ∧
      Steps p.tables e below (T.setTop g) ((B.U.setTop { g with stack := rest }).pushFrame (.throwing q))) := by
  obtain ⟨mk, methM, cM, hnamed, hmethM, -, -, -, -, -, -, hsigM⟩ := Cond.codeWith_spec hcode
  have hstatic : methM.isStatic = true := Cond.static_spec hnamed hmethM hstat
  obtain ⟨kP, hkP, -⟩ := className_of_methodNamed hnamed
  have hinitP : kP.init = .initialized := Cond.initialized_spec (findClass_of_methodNamed hnamed) hkP hinit
  obtain ⟨vm₁, X₁, hstep₁⟩ := X.invokestatic hexec hown hlink hnamed hmethM hstatic hkP hinitP hy (g := g) hg (argsL := argsL) (rest := rest) (hlen _ hsigM) hstack hdg
  rcases hK m meth c ⟨T.setVm vm₁, locs, cells, slots⟩ { g with stack := rest } (.invokestatic index) mk argsL.toArray X₁ hg hsize hdg hW (X₁.named hnamed) (hpre vm₁ X₁.warmed) with ⟨v, B, X', hpost, hsteps⟩ | ⟨q, B, X', hpost, hsteps⟩
  · exact Or.inl ⟨v, vm₁, B, X₁.warmed, X', hpost, fun target h => hstep₁ _ fun acts => by rw [doInvoke_state]; exact hsteps.trans h⟩
  · exact Or.inr ⟨q, vm₁, B, X₁.warmed, X', hpost, hstep₁ _ fun acts => by rw [doInvoke_state]; exact hsteps⟩
theorem vx_callVW (X : Stand p l e R s m args below meth c T locs cells slots) (hexec : p.tables.exec = Jvm.exec) {own C : String} {index : Nat} {y : MethodName} {bytes : ByteArray} {maxL : Nat} {ret : Option FieldType} {hh : List (Nat × Nat × Nat × Nat)}
    (hown : s.vm.findClass own = some m.cls) (hlink : (Cond.methodLink own index y).before args s = true) (hinst : (Cond.instanceMethod y).before args s = true) (hsel : (Cond.selects C y y).before args s = true)
    (hcode : (Cond.codeWith y bytes maxL ret hh).before args s = true) (hy : y.cls ≠ "java/lang/invoke/MethodHandle" ∧ y.cls ≠ "java/lang/invoke/VarHandle")
    {W9 : Nat} {Pre : Pt → Array Value → Prop} {Post : Pt → Array Value → Option Value → Pt → Prop} (hK : Back l R p e below s args y 3 W9 Pre Post)
    {b : Addr} {cellB : Cell} (hcell : T.heap[b]? = some cellB) (hobj : cellB.vm.isStatics = false) (hcls : s.vm.findClass C = some cellB.cls)
    {g : JFrame} (hg : g.method = m) (hsize : g.locals.size = c.maxLocals) {argsL rest : List Value} (hlen : ∀ sig, parseMethodDescriptor y.desc = some sig → argsL.length = sig.parameters.length)
    (hstack : g.stack = argsL.reverse ++ .ref b :: rest) (hW : 2 * g.monitorRoom + (rest.map fun v => v.category).sum ≤ W9) (hdg : decode c.code g.pc = .ok (.invokevirtual index, 3))
    (hpre : ∀ vm₁, s.WarmedH vm₁ → Pre ⟨T.setVm vm₁, locs, cells, slots⟩ (Value.ref b :: argsL).toArray) :
    ∃ (v : Option Value) (vm₁ : Vm) (B : Pt), s.WarmedH vm₁ ∧ Stand p l e R s m args below meth c B.U B.locs B.cells B.slots ∧ Post ⟨T.setVm vm₁, locs, cells, slots⟩ (Value.ref b :: argsL).toArray v B ∧
      ∀ target, Steps p.tables e below (B.U.setTop { g with pc := g.pc + 3, stack := v.toList ++ rest }) target → Steps p.tables e below (T.setTop g) target := by
  obtain ⟨mk, methM, hnamed, hmethM, hstM, habM⟩ := Cond.instanceMethod_spec hinst
  obtain ⟨m8, methM', cM, hn8, hmethM', -, -, -, -, -, -, hsigM⟩ := Cond.codeWith_spec hcode
  cases Option.some.inj (hn8.symm.trans hnamed)
  cases hmethM.symm.trans hmethM'
  obtain ⟨c2, r2, m2, q1, q2, q3, q4, kP, hkP, hkPi⟩ := Cond.selects_spec hsel
  cases hcls.symm.trans q1
  cases (State.methodFound?_of_named hnamed hy).symm.trans q2
  cases hnamed.symm.trans q3
  have hselP : selectMethod e.platform s.vm cellB.cls mk = .method mk := by rw [Launch.admits_selectMethod X.admits]; exact q4
  obtain ⟨vm₁, X₁, hstep₁⟩ := X.invokevirtual hexec hown hlink hnamed hmethM hstM hkP hkPi hy (a := b) (cell := cellB) hcell
    (fun z h => by rw [h] at hobj; cases hobj) hselP hmethM habM hkP hkPi (g := g) hg (argsL := argsL) (rest := rest) (hlen _ hsigM) hstack hdg
  obtain ⟨v, B, X', hpost, hsteps⟩ := hK m meth c ⟨T.setVm vm₁, locs, cells, slots⟩ { g with stack := rest } (.invokevirtual index) mk (Value.ref b :: argsL).toArray X₁ hg hsize hdg hW (X₁.named hnamed) (hpre vm₁ X₁.warmed)
  exact ⟨v, vm₁, B, X₁.warmed, X', hpost, fun target h => hstep₁ _ fun acts => by rw [doInvoke_state]; exact hsteps.trans h⟩
abbrev vx_CVW (R : Room) (s : State) (args : Array Value) (own C : String) (index : Nat) (y : MethodName) (bytes : ByteArray) (maxL : Nat) (ret : Option FieldType) (hh : List (Nat × Nat × Nat × Nat)) (ws : List Cond) (rm : Room) (mc ms n : Nat) : Prop :=
  (rm.cells = mc ∧ rm.slots = ms ∧ rm.frames + 1 ≤ R.frames ∧ 8 + (maxL + 11) + rm.locals ≤ R.locals ∧ (∀ w ∈ ws, ∀ (a' : Array Value) (U : State), s.WarmedH U.vm → w.before a' U = true) ∧ Cond.codeWith y bytes maxL ret hh ∈ ws) ∧
  (Cond.codeWith y bytes maxL ret hh).before args s = true ∧ (Cond.initialized y.cls).before args s = true ∧ (y.cls ≠ "java/lang/invoke/MethodHandle" ∧ y.cls ≠ "java/lang/invoke/VarHandle") ∧
  (∀ sig, parseMethodDescriptor y.desc = some sig → n = sig.parameters.length) ∧ (Cond.methodLink own index y).before args s = true ∧ (Cond.instanceMethod y).before args s = true ∧ (Cond.selects C y y).before args s = true
theorem vx_cwVW {own C : String} {index maxL mc ms : Nat} {y : MethodName} {bytes : ByteArray} {ret : Option FieldType} {hh : List (Nat × Nat × Nat × Nat)} {Ts ws ws' : List Cond} {rm : Room} (n : Nat) (ht : ∀ w ∈ Ts, w.before args s = true) (hT : GoodIn Ts (wsV own index C y ws)) (hw : ws = Cond.codeWith y bytes maxL ret hh :: ws') (hrc : rm.cells = mc) (hrs : rm.slots = ms)
    (hd : y.cls = C ∧ y.cls ≠ "java/lang/invoke/MethodHandle" ∧ y.cls ≠ "java/lang/invoke/VarHandle" ∧ (parseMethodDescriptor y.desc).map (fun d => d.parameters.length) = some n) (hR : rm.frames + 1 ≤ R.frames ∧ 8 + (maxL + 11) + rm.locals ≤ R.locals) :
    vx_CVW R s args own C index y bytes maxL ret hh ws rm mc ms n := by
  obtain ⟨hC, hd⟩ := hd
  subst hC
  have ok : ∀ w ∈ wsV own index y.cls y ws, w.before args s = true := fun w h => ht w (hT w h).1
  have hG : GoodIn Ts ws := fun w h => hT w (by unfold wsV; exact List.mem_append_right _ h)
  have hc : Cond.codeWith y bytes maxL ret hh ∈ ws := by rw [hw]; exact List.mem_cons_self
  refine ⟨⟨hrc, hrs, hR.1, hR.2, pay_in ht hG, hc⟩, ht _ (hG _ hc).1, ok _ (by simp [wsV]), ⟨hd.1, hd.2.1⟩, fun sig h => ?_, ok _ (by simp [wsV]), ok _ (by simp [wsV]), ok _ (by simp [wsV])⟩
  have h2 := hd.2.2
  rw [h] at h2
  exact (Option.some.inj h2).symm
theorem vx_runVW {y : MethodName} {bytes cc : ByteArray} {maxL nL mc ms n index : Nat} {ret : Option FieldType} {hh : List (Nat × Nat × Nat × Nat)} {ws : List Cond} {rm : Room} {Pc : Array Value → State → Prop} {Qc : Array Value → State → Outcome → State → Prop} {free : Addr → Prop} {Ts : List Cond} {own C : String} {b : Addr} {As rest : List Value} {g : JFrame}
    (S : CallFix p m c cc nL s args Ts own) (hM : Met l y ws rm Pc Qc mc ms free) (cw : vx_CVW R s args own C index y bytes maxL ret hh ws rm mc ms n) (hp : PreV s H C b Pc As)
    (hg : g.method = m) (hn : As.length = n) (hsize : g.locals.size = nL) (hstack : g.stack = As.reverse ++ .ref b :: rest) (hW : 2 * g.monitorRoom + (rest.map fun v => v.category).sum ≤ 8) (hdg : decode cc g.pc = .ok (.invokevirtual index, 3)) (hf : cells + mc ≤ R.cells ∧ slots + ms ≤ R.slots) :
    va_Run p l e R s m args below meth c H locs cells slots mc ms g rest (Qc (Value.ref b :: As).toArray) free := by
  obtain ⟨⟨hrc, hrs, hfr, hlo, hws, hcw⟩, hcode, hini, hy, hlen, hl, hin, hse⟩ := cw
  have hK : Back l R p e below s args y 3 8 (PreOf R mc ms Pc) (PostOf Qc mc ms free) := va_backW (hh := hh) (bytes := bytes) (maxL := maxL) (ret := ret) hM hp.1 hrc hrs hfr hlo hws hcw (fun a' U hW => word_at hW (Or.inl (by first | rfl | simp [Cond.onTables, Cond.keeps, Cond.steady])) hini)
  obtain ⟨hx, hb, hml, ho, -⟩ := S
  obtain ⟨-, ⟨cellB, hcB, hoB, hclB⟩, hPc⟩ := hp
  intro T hT X
  obtain ⟨v, vm₁, ⟨U', l2, c2, s2⟩, hW₁, X', ⟨g', mk, t, L, e1, e2, hq, h1, hL, h2, h3⟩, st⟩ := vx_callVW X hx (C := C) (hh := hh) (bytes := bytes) (maxL := maxL) (ret := ret) ho hl hin hse hcode hy hK (by rw [hT]; exact hcB) hoB hclB hg (hsize.trans hml.symm) (argsL := As) (rest := rest) (fun sig h => hn.trans (hlen sig h)) hstack hW (by rw [hb]; exact hdg)
    (fun vm₁ hW₁ => ⟨hf.1, hf.2, hPc (T.setVm vm₁) hT hW₁⟩)
  dsimp only [Pt.U, Pt.locs, Pt.cells, Pt.slots] at X' e1 e2 h1 h2 h3 st
  subst h1; subst h2; subst h3
  exact ⟨v, (T.setVm vm₁).calling g' mk (Value.ref b :: As).toArray, t, U', L, hT, X', hL, e1, e2, hq, st⟩
section
variable {y : MethodName} {bytes cc : ByteArray} {maxL nL mc ms n index : Nat} {ret : Option FieldType} {ws : List Cond} {rm : Room} {Pc : Array Value → State → Prop} {Qc : Array Value → State → Outcome → State → Prop} {XC : String → State → State → Prop} {free : Addr → Prop} {Ts : List Cond} {own C : String} {b : Addr} {As rest : List Value} {g : JFrame}
theorem vx_runVX {hh : List (Nat × Nat × Nat × Nat)} (S : CallFix p m c cc nL s args Ts own) (hM : vx_Met l y ws rm Pc Qc XC mc ms free) (cw : vx_CVW R s args own C index y bytes maxL ret hh ws rm mc ms n) (hp : PreV s H C b Pc As)
    (hg : g.method = m) (hn : As.length = n) (hsize : g.locals.size = nL) (hstack : g.stack = As.reverse ++ .ref b :: rest) (hW : 2 * g.monitorRoom + (rest.map fun v => v.category).sum ≤ 8) (hdg : decode cc g.pc = .ok (.invokevirtual index, 3)) (hf : cells + mc ≤ R.cells ∧ slots + ms ≤ R.slots) :
    vx_Run p l e R s m args below meth c H locs cells slots mc ms g rest (Qc (Value.ref b :: As).toArray) XC free := by
  obtain ⟨⟨hrc, hrs, hfr, hlo, hws, hcw⟩, hcode, hini, hy, hlen, hl, hin, hse⟩ := cw
  have hK : vx_Back l R p e below s args y 3 8 (PreOf R mc ms Pc) (PostOf Qc mc ms free) (vx_Post XC mc ms free) := vx_backW (hh := hh) (bytes := bytes) (maxL := maxL) (ret := ret) hM hp.1 hrc hrs hfr hlo hws hcw (fun a' U hW => word_at hW (Or.inl (by first | rfl | simp [Cond.onTables, Cond.keeps, Cond.steady])) hini)
  obtain ⟨hx, hb, hml, ho, -⟩ := S
  obtain ⟨-, ⟨cellB, hcB, hoB, hclB⟩, hPc⟩ := hp
  intro T hT X
  rcases vx_callVX X hx (C := C) (hh := hh) (bytes := bytes) (maxL := maxL) (ret := ret) ho hl hin hse hcode hy hK (by rw [hT]; exact hcB) hoB hclB hg (hsize.trans hml.symm) (argsL := As) (rest := rest) (fun sig h => hn.trans (hlen sig h)) hstack hW (by rw [hb]; exact hdg)
    (fun vm₁ hW₁ => ⟨hf.1, hf.2, hPc (T.setVm vm₁) hT hW₁⟩) with ⟨v, vm₁, ⟨U', l2, c2, s2⟩, hW₁, X', ⟨g', mk, t, L, e1, e2, hq, h1, hL, h2, h3⟩, st⟩ | ⟨q, vm₁, ⟨U', l2, c2, s2⟩, hW₁, X', ⟨g', mk, t, L, E, ce, e1, e2, hq, hce, hcv, hcl, h1, hL, h2, h3⟩, st⟩
  · dsimp only [Pt.U, Pt.locs, Pt.cells, Pt.slots] at X' e1 e2 h1 h2 h3 st
    subst h1; subst h2; subst h3
    exact Or.inl ⟨v, (T.setVm vm₁).calling g' mk (Value.ref b :: As).toArray, t, U', L, hT, X', hL, e1, e2, hq, st⟩
  · dsimp only [Pt.U, Pt.locs, Pt.cells, Pt.slots] at X' e1 e2 h1 h2 h3 st hcl
    subst h1; subst h2; subst h3
    exact Or.inr ⟨q, (T.setVm vm₁).calling g' mk (Value.ref b :: As).toArray, t, U', L, E, ce, hT, X', hL, e1, e2, hq, hce, hcv, vx_cls hW₁ hcl, st⟩
theorem vx_runSX {hh : List (Nat × Nat × Nat × Nat)} (S : CallFix p m c cc nL s args Ts own) (hM : vx_Met l y ws rm Pc Qc XC mc ms free) (cw : vx_CSW R s args own index y bytes maxL ret hh ws rm mc ms n) (hp : PreS s H Pc As)
    (hg : g.method = m) (hn : As.length = n) (hsize : g.locals.size = nL) (hstack : g.stack = As.reverse ++ rest) (hW : 2 * g.monitorRoom + (rest.map fun v => v.category).sum ≤ 8) (hdg : decode cc g.pc = .ok (.invokestatic index, 3)) (hf : cells + mc ≤ R.cells ∧ slots + ms ≤ R.slots) :
    vx_Run p l e R s m args below meth c H locs cells slots mc ms g rest (Qc As.toArray) XC free := by
  obtain ⟨⟨hrc, hrs, hfr, hlo, hws, hcw⟩, hcode, hini, hy, hlen, hl, hstt⟩ := cw
  have hK : vx_Back l R p e below s args y 3 8 (PreOf R mc ms Pc) (PostOf Qc mc ms free) (vx_Post XC mc ms free) := vx_backW (hh := hh) (bytes := bytes) (maxL := maxL) (ret := ret) hM hp.1 hrc hrs hfr hlo hws hcw (fun a' U hW => word_at hW (Or.inl (by first | rfl | simp [Cond.onTables, Cond.keeps, Cond.steady])) hini)
  obtain ⟨hx, hb, hml, ho, -⟩ := S
  intro T hT X
  rcases vx_callSX X hx (hh := hh) (bytes := bytes) (maxL := maxL) (ret := ret) ho hl hstt hini hcode hy hK hg (hsize.trans hml.symm) (argsL := As) (rest := rest) (fun sig h => hn.trans (hlen sig h)) hstack hW (by rw [hb]; exact hdg)
    (fun vm₁ hW₁ => ⟨hf.1, hf.2, hp.2 (T.setVm vm₁) hT hW₁⟩) with ⟨v, vm₁, ⟨U', l2, c2, s2⟩, hW₁, X', ⟨g', mk, t, L, e1, e2, hq, h1, hL, h2, h3⟩, st⟩ | ⟨q, vm₁, ⟨U', l2, c2, s2⟩, hW₁, X', ⟨g', mk, t, L, E, ce, e1, e2, hq, hce, hcv, hcl, h1, hL, h2, h3⟩, st⟩
  · dsimp only [Pt.U, Pt.locs, Pt.cells, Pt.slots] at X' e1 e2 h1 h2 h3 st
    subst h1; subst h2; subst h3
    exact Or.inl ⟨v, (T.setVm vm₁).calling g' mk As.toArray, t, U', L, hT, X', hL, e1, e2, hq, st⟩
  · dsimp only [Pt.U, Pt.locs, Pt.cells, Pt.slots] at X' e1 e2 h1 h2 h3 st hcl
    subst h1; subst h2; subst h3
    exact Or.inr ⟨q, (T.setVm vm₁).calling g' mk As.toArray, t, U', L, E, ce, hT, X', hL, e1, e2, hq, hce, hcv, vx_cls hW₁ hcl, st⟩
end
end VXH
theorem vx_ofWH {l : Launch} {y : MethodName} {ws ws' : List Cond} {rm : Room} {Pc : Array Value → State → Prop} {Qc : Array Value → State → Outcome → State → Prop} {XC : String → State → State → Prop} {mc ms : Nat} {free : Addr → Prop} {cc : ByteArray} {maxL : Nat} {ret : Option FieldType} {hh : List (Nat × Nat × Nat × Nat)}
    (hy : plainName y.cls = true) (hw : ws = Cond.codeWith y cc maxL ret hh :: ws')
    (body : ∀ p e s m args below meth c s₁, BodyLoose p l y (headSpec ws rm) cc maxL ret e s m args below meth c s₁ → c.maxLocals = maxL → Pc args s →
      W p l e (headSpec ws rm).room s m args below meth c s.heap [] 0 0 (vx_MQ below Qc XC args s mc ms free) (entryFrame m args maxL)) : vx_Met l y ws rm Pc Qc XC mc ms free := by
  refine MetFree.of_bodyS (code := cc) (maxLocals := maxL) (ret := ret) hy ?_ ?_
  · intro args s m h hn
    obtain ⟨m9, meth, c, hn9, h1, h2, h3, h4, -, h5, h6, -⟩ := Cond.codeWith_spec (atoms_spec (ws := ws) h _ (by rw [hw]; exact List.mem_cons_self))
    cases hn.symm.trans hn9
    exact ⟨meth, c, h1, h2, h3, h4, h5, h6⟩
  · intro p e s m args below meth c s₁ B hml hP _
    have hh0 : s₁.heap = s.heap := by rw [B.state]; rfl
    obtain ⟨t, a1, o, b1, b2, b3⟩ := body p e s m args below meth c s₁ B hml hP s₁ hh0 (Stand.of_body B)
    exact ⟨t, o, a1, b1, b2, b3⟩
/-! ===== END ===== -/

section VXIA
variable {p : Program} {l : Launch} {e : Env} {R : Room} {s : State} {m : MethodId} {args : Array Value} {below : List Frame} {meth : Method} {c : Code} {T : State} {locs : List Loc} {cells slots : Nat}
theorem vx_callI (X : Stand p l e R s m args below meth c T locs cells slots) (hexec : p.tables.exec = Jvm.exec) {own : String} {index : Nat} {y : MethodName} {bytes : ByteArray} {maxL : Nat}
    (hown : s.vm.findClass own = some m.cls) (hy1 : y.name = "<init>") (hlink : (Cond.methodLink own index y).before args s = true) (hinst : (Cond.instanceMethod y).before args s = true)
    (hcode : (Cond.code y bytes maxL none).before args s = true) (hy : y.cls ≠ "java/lang/invoke/MethodHandle" ∧ y.cls ≠ "java/lang/invoke/VarHandle")
    {W9 : Nat} {Pre : Pt → Array Value → Prop} {Post : Pt → Array Value → Option Value → Pt → Prop} {PostX : Pt → Array Value → Addr → Pt → Prop} (hK : vx_Back l R p e below s args y 3 W9 Pre Post PostX)
    {g : JFrame} (hg : g.method = m) (hsize : g.locals.size = c.maxLocals) {a : Addr} {argsL rest : List Value} (hlen : ∀ sig, parseMethodDescriptor y.desc = some sig → argsL.length = sig.parameters.length)
    (hstack : g.stack = argsL.reverse ++ .ref a :: rest) (hW : 2 * g.monitorRoom + (rest.map fun v => v.category).sum ≤ W9) (hdg : decode c.code g.pc = .ok (.invokespecial index, 3))
    (hpre : ∀ vm₁, s.WarmedH vm₁ → Pre ⟨T.setVm vm₁, locs, cells, slots⟩ (Value.ref a :: argsL).toArray) :
    (∃ (v : Option Value) (vm₁ : Vm) (B : Pt), s.WarmedH vm₁ ∧ Stand p l e R s m args below meth c B.U B.locs B.cells B.slots ∧ Post ⟨T.setVm vm₁, locs, cells, slots⟩ (Value.ref a :: argsL).toArray v B ∧
      ∀ target, Steps p.tables e below (B.U.setTop { g with pc := g.pc + 3, stack := v.toList ++ rest }) target → Steps p.tables e below (T.setTop g) target) ∨
    (∃ (q : Addr) (vm₁ : Vm) (B : Pt), s.WarmedH vm₁ ∧ Stand p l e R s m args below meth c B.U B.locs B.cells B.slots ∧ PostX ⟨T.setVm vm₁, locs, cells, slots⟩ (Value.ref a :: argsL).toArray q B ∧
      Steps p.tables e below (T.setTop g) ((B.U.setTop { g with stack := rest }).pushFrame (.throwing q))) := by
  subst hg
  have hpl : e.platform.magicAccessors = ({} : Platform).magicAccessors := by rw [X.admits.platform]
  obtain ⟨mk, methM, cM, kP, vm₁, hnamed, hmethM, hcodeM, -, hlocalsM, -, hkP, -, hW₁, hstep₁⟩ := Steps.initColdArgs (e := e) X.here hexec X.warmed hpl hown hy1 hy hlink hinst hcode (f := g) rfl hlen hstack hdg
  have X₁ := X.noted hW₁
  rcases hK g.method meth c ⟨T.setVm vm₁, locs, cells, slots⟩ { g with stack := rest } (.invokespecial index) mk (Value.ref a :: argsL).toArray X₁ rfl hsize hdg hW (X₁.named hnamed) (hpre vm₁ X₁.warmed) with ⟨v, B, X', hpost, hsteps⟩ | ⟨q, B, X', hpost, hsteps⟩
  · exact Or.inl ⟨v, vm₁, B, X₁.warmed, X', hpost, fun target h => hstep₁ _ fun acts => by rw [doInvoke_state]; exact hsteps.trans h⟩
  · exact Or.inr ⟨q, vm₁, B, X₁.warmed, X', hpost, hstep₁ _ fun acts => by rw [doInvoke_state]; exact hsteps⟩
end VXIA
section VXIB
variable {p : Program} {l : Launch} {e : Env} {R : Room} {s : State} {m : MethodId} {args : Array Value} {below : List Frame} {meth : Method} {c : Code} {H : Heap} {locs : List Loc} {cells slots : Nat}
variable {y : MethodName} {bytes cc : ByteArray} {maxL nL mc ms n index : Nat} {ret : Option FieldType} {ws : List Cond} {rm : Room} {Pc : Array Value → State → Prop} {Qc : Array Value → State → Outcome → State → Prop} {XC : String → State → State → Prop} {free : Addr → Prop} {Ts : List Cond} {own C : String} {b : Addr} {As rest : List Value} {g : JFrame}
theorem vx_runI (S : CallFix p m c cc nL s args Ts own) (hM : vx_Met l y ws rm Pc Qc XC mc ms free) (cw : CallB R s args own index y bytes maxL none ws rm mc ms n ∧ y.name = "<init>" ∧ (Cond.instanceMethod y).before args s = true) (hp : PreS s H Pc (.ref b :: As))
    (hg : g.method = m) (hn : As.length = n) (hsize : g.locals.size = nL) (hstack : g.stack = As.reverse ++ .ref b :: rest) (hW : 2 * g.monitorRoom + (rest.map fun v => v.category).sum ≤ 8) (hdg : decode cc g.pc = .ok (.invokespecial index, 3)) (hf : cells + mc ≤ R.cells ∧ slots + ms ≤ R.slots) :
    vx_Run p l e R s m args below meth c H locs cells slots mc ms g rest (Qc (Value.ref b :: As).toArray) XC free := by
  have hK : vx_Back l R p e below s args y 3 8 (PreOf R mc ms Pc) (PostOf Qc mc ms free) (vx_Post XC mc ms free) := vx_callBack cw.1 hM hp.1
  obtain ⟨⟨-, -, -, -, -, -, hcode, -, hy, hlen, hl⟩, hy1, hin⟩ := cw
  obtain ⟨hx, hb, hml, ho, -⟩ := S
  have hPc := hp.2
  intro T hT X
  rcases vx_callI X hx (bytes := bytes) (maxL := maxL) ho hy1 hl hin hcode hy hK hg (hsize.trans hml.symm) (a := b) (argsL := As) (rest := rest) (fun sig h => hn.trans (hlen sig h)) hstack hW (by rw [hb]; exact hdg)
    (fun vm₁ hW₁ => ⟨hf.1, hf.2, hPc (T.setVm vm₁) hT hW₁⟩) with ⟨v, vm₁, ⟨U', l2, c2, s2⟩, hW₁, X', ⟨g', mk, t, L, e1, e2, hq, h1, hL, h2, h3⟩, st⟩ | ⟨q, vm₁, ⟨U', l2, c2, s2⟩, hW₁, X', ⟨g', mk, t, L, E, ce, e1, e2, hq, hce, hcv, hcl, h1, hL, h2, h3⟩, st⟩
  · dsimp only [Pt.U, Pt.locs, Pt.cells, Pt.slots] at X' e1 e2 h1 h2 h3 st
    subst h1; subst h2; subst h3
    exact Or.inl ⟨v, (T.setVm vm₁).calling g' mk (Value.ref b :: As).toArray, t, U', L, hT, X', hL, e1, e2, hq, st⟩
  · dsimp only [Pt.U, Pt.locs, Pt.cells, Pt.slots] at X' e1 e2 h1 h2 h3 st hcl
    subst h1; subst h2; subst h3
    exact Or.inr ⟨q, (T.setVm vm₁).calling g' mk (Value.ref b :: As).toArray, t, U', L, E, ce, hT, X', hL, e1, e2, hq, hce, hcv, vx_cls hW₁ hcl, st⟩
end VXIB
/-! ===== END ===== -/
/-! ===== BEGIN a private constructor of a nest mate that throws ===== -/
section VXIC
variable {p : Program} {l : Launch} {e : Env} {R : Room} {s : State} {m : MethodId} {args : Array Value} {below : List Frame} {meth : Method} {c : Code} {T : State} {locs : List Loc} {cells slots : Nat}
theorem vx_callIN (X : Stand p l e R s m args below meth c T locs cells slots) (hexec : p.tables.exec = Jvm.exec) {own : String} {index : Nat} {host : String} {y : MethodName} {bytes : ByteArray} {maxL : Nat}
    (hown : s.vm.findClass own = some m.cls) (hy1 : y.name = "<init>") (hlink : (Cond.methodLinkNest own index y host).before args s = true) (hinst : (Cond.instanceMethod y).before args s = true)
    (hcode : (Cond.code y bytes maxL none).before args s = true) (hy : y.cls ≠ "java/lang/invoke/MethodHandle" ∧ y.cls ≠ "java/lang/invoke/VarHandle")
    {W9 : Nat} {Pre : Pt → Array Value → Prop} {Post : Pt → Array Value → Option Value → Pt → Prop} {PostX : Pt → Array Value → Addr → Pt → Prop} (hK : vx_Back l R p e below s args y 3 W9 Pre Post PostX)
    {g : JFrame} (hg : g.method = m) (hsize : g.locals.size = c.maxLocals) {a : Addr} {argsL rest : List Value} (hlen : ∀ sig, parseMethodDescriptor y.desc = some sig → argsL.length = sig.parameters.length)
    (hstack : g.stack = argsL.reverse ++ .ref a :: rest) (hW : 2 * g.monitorRoom + (rest.map fun v => v.category).sum ≤ W9) (hdg : decode c.code g.pc = .ok (.invokespecial index, 3))
    (hpre : ∀ vm₁, s.WarmedH vm₁ → Pre ⟨T.setVm vm₁, locs, cells, slots⟩ (Value.ref a :: argsL).toArray) :
    (∃ (v : Option Value) (vm₁ : Vm) (B : Pt), s.WarmedH vm₁ ∧ Stand p l e R s m args below meth c B.U B.locs B.cells B.slots ∧ Post ⟨T.setVm vm₁, locs, cells, slots⟩ (Value.ref a :: argsL).toArray v B ∧
      ∀ target, Steps p.tables e below (B.U.setTop { g with pc := g.pc + 3, stack := v.toList ++ rest }) target → Steps p.tables e below (T.setTop g) target) ∨
    (∃ (q : Addr) (vm₁ : Vm) (B : Pt), s.WarmedH vm₁ ∧ Stand p l e R s m args below meth c B.U B.locs B.cells B.slots ∧ PostX ⟨T.setVm vm₁, locs, cells, slots⟩ (Value.ref a :: argsL).toArray q B ∧
      Steps p.tables e below (T.setTop g) ((B.U.setTop { g with stack := rest }).pushFrame (.throwing q))) := by
  subst hg
  have hpl : e.platform.magicAccessors = ({} : Platform).magicAccessors := by rw [X.admits.platform]
  obtain ⟨mk, methM, cM, kP, vm₁, hnamed, hmethM, hcodeM, -, hlocalsM, -, hkP, -, hW₁, hstep₁⟩ := Steps.initColdArgsNest (e := e) X.here hexec X.warmed hpl hown hy1 hy hlink hinst hcode (f := g) rfl hlen hstack hdg
  have X₁ := X.noted hW₁
  rcases hK g.method meth c ⟨T.setVm vm₁, locs, cells, slots⟩ { g with stack := rest } (.invokespecial index) mk (Value.ref a :: argsL).toArray X₁ rfl hsize hdg hW (X₁.named hnamed) (hpre vm₁ X₁.warmed) with ⟨v, B, X', hpost, hsteps⟩ | ⟨q, B, X', hpost, hsteps⟩
  · exact Or.inl ⟨v, vm₁, B, X₁.warmed, X', hpost, fun target h => hstep₁ _ fun acts => by rw [doInvoke_state]; exact hsteps.trans h⟩
  · exact Or.inr ⟨q, vm₁, B, X₁.warmed, X', hpost, hstep₁ _ fun acts => by rw [doInvoke_state]; exact hsteps⟩
end VXIC
section VXID
variable {p : Program} {l : Launch} {e : Env} {R : Room} {s : State} {m : MethodId} {args : Array Value} {below : List Frame} {meth : Method} {c : Code} {H : Heap} {locs : List Loc} {cells slots : Nat}
theorem vx_runIN {y : MethodName} {bytes cc : ByteArray} {maxL nL mc ms n index : Nat} {ws : List Cond} {rm : Room} {Pc : Array Value → State → Prop} {Qc : Array Value → State → Outcome → State → Prop} {XC : String → State → State → Prop} {free : Addr → Prop} {Ts : List Cond} {own host : String} {b : Addr} {As rest : List Value} {g : JFrame}
    (S : CallFix p m c cc nL s args Ts own) (hM : vx_Met l y ws rm Pc Qc XC mc ms free) (cw : va_CN R s args own index y host bytes maxL none ws rm mc ms n ∧ y.name = "<init>" ∧ (Cond.instanceMethod y).before args s = true) (hp : PreS s H Pc (.ref b :: As))
    (hg : g.method = m) (hn : As.length = n) (hsize : g.locals.size = nL) (hstack : g.stack = As.reverse ++ .ref b :: rest) (hW : 2 * g.monitorRoom + (rest.map fun v => v.category).sum ≤ 8) (hdg : decode cc g.pc = .ok (.invokespecial index, 3)) (hf : cells + mc ≤ R.cells ∧ slots + ms ≤ R.slots) :
    vx_Run p l e R s m args below meth c H locs cells slots mc ms g rest (Qc (Value.ref b :: As).toArray) XC free := by
  obtain ⟨⟨⟨hrc, hrs, hfr, hlo, hws, hcw⟩, hcode, hini, hy, hlen, hl⟩, hx1, hx2⟩ := cw
  have hK : vx_Back l R p e below s args y 3 8 (PreOf R mc ms Pc) (PostOf Qc mc ms free) (vx_Post XC mc ms free) := vx_back (bytes := bytes) (maxL := maxL) (ret := none) hM hp.1 hrc hrs hfr hlo hws hcw (fun a' U hW => word_at hW (Or.inl (by first | rfl | simp [Cond.onTables, Cond.keeps, Cond.steady])) hini)
  obtain ⟨hx, hb, hml, ho, -⟩ := S
  have hPc := hp.2
  intro T hT X
  rcases vx_callIN X hx (bytes := bytes) (maxL := maxL) ho hx1 hl hx2 hcode hy hK hg (hsize.trans hml.symm) (a := b) (argsL := As) (rest := rest) (fun sig h => hn.trans (hlen sig h)) hstack hW (by rw [hb]; exact hdg)
    (fun vm₁ hW₁ => ⟨hf.1, hf.2, hPc (T.setVm vm₁) hT hW₁⟩) with ⟨v, vm₁, ⟨U', l2, c2, s2⟩, hW₁, X', ⟨g', mk, t, L, e1, e2, hq, h1, hL, h2, h3⟩, st⟩ | ⟨q, vm₁, ⟨U', l2, c2, s2⟩, hW₁, X', ⟨g', mk, t, L, E, ce, e1, e2, hq, hce, hcv, hcl, h1, hL, h2, h3⟩, st⟩
  · dsimp only [Pt.U, Pt.locs, Pt.cells, Pt.slots] at X' e1 e2 h1 h2 h3 st
    subst h1; subst h2; subst h3
    exact Or.inl ⟨v, (T.setVm vm₁).calling g' mk (Value.ref b :: As).toArray, t, U', L, hT, X', hL, e1, e2, hq, st⟩
  · dsimp only [Pt.U, Pt.locs, Pt.cells, Pt.slots] at X' e1 e2 h1 h2 h3 st hcl
    subst h1; subst h2; subst h3
    exact Or.inr ⟨q, (T.setVm vm₁).calling g' mk (Value.ref b :: As).toArray, t, U', L, E, ce, hT, X', hL, e1, e2, hq, hce, hcv, vx_cls hW₁ hcl, st⟩
end VXID
end
section
def RX0 : String := "PuddleStairs$FlightPairs"
def TX0 : u_T := fun k => match k with
  | 0 => ("PuddleStairs$FlightPairs", "higherAhead", "[[I", true)
  | _ => ("PuddleStairs$FlightPairs", "flightCount", "I", false)
def tyX0 : Nat → FieldType := fun k => match k with
  | 0 => .array (.array .int)
  | _ => .int
abbrev wsX00 : List Cond := u_ws RX0 TX0 2
theorem nmX0 : ∀ a, a < 2 → ∀ b, b < 2 → a ≠ b → (TX0 a).2.1 ≠ (TX0 b).2.1 := by decide +kernel
theorem tyX0_ok : ∀ k, k < 2 → parseFieldDescriptor (TX0 k).2.2.1 = some (tyX0 k) := by decide +kernel
abbrev cX0_init : ByteArray := prog_2_method_1_code
def yX0_init : MethodName := ⟨RX0, "<init>", "()V"⟩
abbrev cX0_countIn : ByteArray := prog_2_method_2_code
def yX0_countIn : MethodName := ⟨RX0, "countIn", "(LPuddleStairs$Water;)V"⟩
abbrev cX0_countOf : ByteArray := prog_2_method_3_code
def yX0_countOf : MethodName := ⟨RX0, "countOf", "(LPuddleStairs$Water;II)I"⟩
abbrev cX0_outWithSwap : ByteArray := prog_2_method_4_code
def yX0_outWithSwap : MethodName := ⟨RX0, "outWithSwap", "(II)I"⟩
abbrev cX0_swapped : ByteArray := prog_2_method_5_code
def yX0_swapped : MethodName := ⟨RX0, "swapped", "(III)I"⟩
abbrev cX0_bestPartner : ByteArray := prog_2_method_6_code
def yX0_bestPartner : MethodName := ⟨RX0, "bestPartner", "(I)I"⟩
def RX1 : String := "PuddleStairs$Rows"
def TX1 : u_T := fun k => match k with
  | 0 => ("PuddleStairs$Rows", "rows", "[[I", true)
  | 1 => ("PuddleStairs$Rows", "oldest", "I", false)
  | _ => ("PuddleStairs$Rows", "count", "I", false)
def tyX1 : Nat → FieldType := fun k => match k with
  | 0 => .array (.array .int)
  | 1 => .int
  | _ => .int
abbrev wsX10 : List Cond := u_ws RX1 TX1 3
theorem nmX1 : ∀ a, a < 3 → ∀ b, b < 3 → a ≠ b → (TX1 a).2.1 ≠ (TX1 b).2.1 := by decide +kernel
theorem tyX1_ok : ∀ k, k < 3 → parseFieldDescriptor (TX1 k).2.2.1 = some (tyX1 k) := by decide +kernel
abbrev cX1_init : ByteArray := prog_3_method_1_code
def yX1_init : MethodName := ⟨RX1, "<init>", "(I)V"⟩
abbrev cX1_clearAll : ByteArray := prog_3_method_2_code
def yX1_clearAll : MethodName := ⟨RX1, "clearAll", "()V"⟩
abbrev cX1_row : ByteArray := prog_3_method_3_code
def yX1_row : MethodName := ⟨RX1, "row", "(I)[I"⟩
abbrev cX1_addLatest : ByteArray := prog_3_method_4_code
def yX1_addLatest : MethodName := ⟨RX1, "addLatest", "(LPuddleStairs$Water;)V"⟩
abbrev cX1_dropLatest : ByteArray := prog_3_method_5_code
def yX1_dropLatest : MethodName := ⟨RX1, "dropLatest", "()V"⟩
def RX2 : String := "PuddleStairs$Water"
def TX2 : u_T := fun k => match k with
  | 0 => ("PuddleStairs$Water", "levels", "[I", true)
  | 1 => ("PuddleStairs$Water", "edges", "[I", true)
  | 2 => ("PuddleStairs$Water", "flightCount", "I", false)
  | 3 => ("PuddleStairs$Water", "stepCount", "I", false)
  | _ => ("PuddleStairs$Water", "sunNow", "I", false)
def tyX2 : Nat → FieldType := fun k => match k with
  | 0 => .array .int
  | 1 => .array .int
  | 2 => .int
  | 3 => .int
  | _ => .int
abbrev wsX20 : List Cond := u_ws RX2 TX2 5
theorem nmX2 : ∀ a, a < 5 → ∀ b, b < 5 → a ≠ b → (TX2 a).2.1 ≠ (TX2 b).2.1 := by decide +kernel
theorem tyX2_ok : ∀ k, k < 5 → parseFieldDescriptor (TX2 k).2.2.1 = some (tyX2 k) := by decide +kernel
abbrev cX2_init : ByteArray := prog_4_method_1_code
def yX2_init : MethodName := ⟨RX2, "<init>", "()V"⟩
abbrev cX2_layDry : ByteArray := prog_4_method_2_code
def yX2_layDry : MethodName := ⟨RX2, "layDry", "(II)V"⟩
abbrev cX2_copyFrom : ByteArray := prog_4_method_3_code
def yX2_copyFrom : MethodName := ⟨RX2, "copyFrom", "(LPuddleStairs$Water;)V"⟩
abbrev cX2_puddleCount : ByteArray := prog_4_method_4_code
def yX2_puddleCount : MethodName := ⟨RX2, "puddleCount", "()I"⟩
abbrev cX2_numberOf : ByteArray := prog_4_method_5_code
def yX2_numberOf : MethodName := ⟨RX2, "numberOf", "(II)I"⟩
abbrev cX2_level : ByteArray := prog_4_method_6_code
def yX2_level : MethodName := ⟨RX2, "level", "(II)I"⟩
abbrev cX2_add : ByteArray := prog_4_method_7_code
def yX2_add : MethodName := ⟨RX2, "add", "(III)V"⟩
abbrev cX2_exchange : ByteArray := prog_4_method_8_code
def yX2_exchange : MethodName := ⟨RX2, "exchange", "(II)V"⟩
abbrev cX2_changedFrom : ByteArray := prog_4_method_9_code
def yX2_changedFrom : MethodName := ⟨RX2, "changedFrom", "([I)I"⟩
abbrev cX2_takeFrom : ByteArray := prog_4_method_10_code
def yX2_takeFrom : MethodName := ⟨RX2, "takeFrom", "([I)I"⟩
abbrev cX2_alikeSteps : ByteArray := prog_4_method_11_code
def yX2_alikeSteps : MethodName := ⟨RX2, "alikeSteps", "(II)I"⟩
abbrev cX2_partSum : ByteArray := prog_4_method_12_code
def yX2_partSum : MethodName := ⟨RX2, "partSum", "(IIII)J"⟩
abbrev cX2_wholeSum : ByteArray := prog_4_method_13_code
def yX2_wholeSum : MethodName := ⟨RX2, "wholeSum", "()J"⟩
abbrev cX2_dryInPart : ByteArray := prog_4_method_14_code
def yX2_dryInPart : MethodName := ⟨RX2, "dryInPart", "(IIII)I"⟩
abbrev cX2_upToLevel : ByteArray := prog_4_method_15_code
def yX2_upToLevel : MethodName := ⟨RX2, "upToLevel", "(I)I"⟩
abbrev cX2_allDry : ByteArray := prog_4_method_16_code
def yX2_allDry : MethodName := ⟨RX2, "allDry", "()Z"⟩
abbrev cX2_flowFor : ByteArray := prog_4_method_17_code
def yX2_flowFor : MethodName := ⟨RX2, "flowFor", "(I)I"⟩
abbrev cX2_flowOneHour : ByteArray := prog_4_method_18_code
def yX2_flowOneHour : MethodName := ⟨RX2, "flowOneHour", "()I"⟩
abbrev cX2_dryUp : ByteArray := prog_4_method_19_code
def yX2_dryUp : MethodName := ⟨RX2, "dryUp", "()V"⟩
abbrev cX2_runDown : ByteArray := prog_4_method_20_code
def yX2_runDown : MethodName := ⟨RX2, "runDown", "()I"⟩
def RX3 : String := "PuddleStairs"
def TX3 : u_T := fun k => match k with
  | 0 => ("PuddleStairs", "water", "LPuddleStairs$Water;", true)
  | 1 => ("PuddleStairs", "trial", "LPuddleStairs$Water;", true)
  | 2 => ("PuddleStairs", "deedRows", "LPuddleStairs$Rows;", true)
  | 3 => ("PuddleStairs", "markRows", "LPuddleStairs$Rows;", true)
  | 4 => ("PuddleStairs", "flightPairs", "LPuddleStairs$FlightPairs;", true)
  | 5 => ("PuddleStairs", "hourCount", "I", false)
  | _ => ("PuddleStairs", "goneInAll", "J", false)
def tyX3 : Nat → FieldType := fun k => match k with
  | 0 => .object "PuddleStairs$Water"
  | 1 => .object "PuddleStairs$Water"
  | 2 => .object "PuddleStairs$Rows"
  | 3 => .object "PuddleStairs$Rows"
  | 4 => .object "PuddleStairs$FlightPairs"
  | 5 => .int
  | _ => .long
abbrev wsX30 : List Cond := u_ws RX3 TX3 7
theorem nmX3 : ∀ a, a < 7 → ∀ b, b < 7 → a ≠ b → (TX3 a).2.1 ≠ (TX3 b).2.1 := by decide +kernel
theorem tyX3_ok : ∀ k, k < 7 → parseFieldDescriptor (TX3 k).2.2.1 = some (tyX3 k) := by decide +kernel
abbrev cX3_init : ByteArray := prog_1_method_1_code
def yX3_init : MethodName := ⟨RX3, "<init>", "()V"⟩
abbrev cX3_lay : ByteArray := prog_1_method_2_code
def yX3_lay : MethodName := ⟨RX3, "lay", "(II)I"⟩
abbrev cX3_rain : ByteArray := prog_1_method_3_code
def yX3_rain : MethodName := ⟨RX3, "rain", "(III)I"⟩
abbrev cX3_splash : ByteArray := prog_1_method_4_code
def yX3_splash : MethodName := ⟨RX3, "splash", "(IIIII)I"⟩
abbrev cX3_swap : ByteArray := prog_1_method_5_code
def yX3_swap : MethodName := ⟨RX3, "swap", "(II)I"⟩
abbrev cX3_turn : ByteArray := prog_1_method_6_code
def yX3_turn : MethodName := ⟨RX3, "turn", "(I)I"⟩
abbrev cX3_bail : ByteArray := prog_1_method_7_code
def yX3_bail : MethodName := ⟨RX3, "bail", "(II)I"⟩
abbrev cX3_passHours : ByteArray := prog_1_method_8_code
def yX3_passHours : MethodName := ⟨RX3, "passHours", "(I)I"⟩
abbrev cX3_mark : ByteArray := prog_1_method_9_code
def yX3_mark : MethodName := ⟨RX3, "mark", "()I"⟩
abbrev cX3_back : ByteArray := prog_1_method_10_code
def yX3_back : MethodName := ⟨RX3, "back", "(I)I"⟩
abbrev cX3_undo : ByteArray := prog_1_method_11_code
def yX3_undo : MethodName := ⟨RX3, "undo", "()I"⟩
abbrev cX3_setSun : ByteArray := prog_1_method_12_code
def yX3_setSun : MethodName := ⟨RX3, "setSun", "(I)I"⟩
abbrev cX3_setEdge : ByteArray := prog_1_method_13_code
def yX3_setEdge : MethodName := ⟨RX3, "setEdge", "(II)I"⟩
abbrev cX3_flights : ByteArray := prog_1_method_14_code
def yX3_flights : MethodName := ⟨RX3, "flights", "()I"⟩
abbrev cX3_steps : ByteArray := prog_1_method_15_code
def yX3_steps : MethodName := ⟨RX3, "steps", "()I"⟩
abbrev cX3_hours : ByteArray := prog_1_method_16_code
def yX3_hours : MethodName := ⟨RX3, "hours", "()I"⟩
abbrev cX3_sun : ByteArray := prog_1_method_17_code
def yX3_sun : MethodName := ⟨RX3, "sun", "()I"⟩
abbrev cX3_edgeOf : ByteArray := prog_1_method_18_code
def yX3_edgeOf : MethodName := ⟨RX3, "edgeOf", "(I)I"⟩
abbrev cX3_marks : ByteArray := prog_1_method_19_code
def yX3_marks : MethodName := ⟨RX3, "marks", "()I"⟩
abbrev cX3_deeds : ByteArray := prog_1_method_20_code
def yX3_deeds : MethodName := ⟨RX3, "deeds", "()I"⟩
abbrev cX3_gone : ByteArray := prog_1_method_21_code
def yX3_gone : MethodName := ⟨RX3, "gone", "()J"⟩
abbrev cX3_levelAt : ByteArray := prog_1_method_22_code
def yX3_levelAt : MethodName := ⟨RX3, "levelAt", "(II)I"⟩
abbrev cX3_sumOf : ByteArray := prog_1_method_23_code
def yX3_sumOf : MethodName := ⟨RX3, "sumOf", "(IIII)J"⟩
abbrev cX3_sumTo : ByteArray := prog_1_method_24_code
def yX3_sumTo : MethodName := ⟨RX3, "sumTo", "(II)J"⟩
abbrev cX3_flightSum : ByteArray := prog_1_method_25_code
def yX3_flightSum : MethodName := ⟨RX3, "flightSum", "(I)J"⟩
abbrev cX3_stepSum : ByteArray := prog_1_method_26_code
def yX3_stepSum : MethodName := ⟨RX3, "stepSum", "(I)J"⟩
abbrev cX3_total : ByteArray := prog_1_method_27_code
def yX3_total : MethodName := ⟨RX3, "total", "()J"⟩
abbrev cX3_firstReaching : ByteArray := prog_1_method_28_code
def yX3_firstReaching : MethodName := ⟨RX3, "firstReaching", "(II)I"⟩
abbrev cX3_bestRun : ByteArray := prog_1_method_29_code
def yX3_bestRun : MethodName := ⟨RX3, "bestRun", "(I)J"⟩
abbrev cX3_dryIn : ByteArray := prog_1_method_30_code
def yX3_dryIn : MethodName := ⟨RX3, "dryIn", "(IIII)I"⟩
abbrev cX3_dry : ByteArray := prog_1_method_31_code
def yX3_dry : MethodName := ⟨RX3, "dry", "()I"⟩
abbrev cX3_dryAt : ByteArray := prog_1_method_32_code
def yX3_dryAt : MethodName := ⟨RX3, "dryAt", "(I)I"⟩
abbrev cX3_longestDry : ByteArray := prog_1_method_33_code
def yX3_longestDry : MethodName := ⟨RX3, "longestDry", "(I)I"⟩
abbrev cX3_driestFlight : ByteArray := prog_1_method_34_code
def yX3_driestFlight : MethodName := ⟨RX3, "driestFlight", "()I"⟩
abbrev cX3_lowestIn : ByteArray := prog_1_method_35_code
def yX3_lowestIn : MethodName := ⟨RX3, "lowestIn", "(IIII)I"⟩
abbrev cX3_highestAt : ByteArray := prog_1_method_36_code
def yX3_highestAt : MethodName := ⟨RX3, "highestAt", "(I)I"⟩
abbrev cX3_upTo : ByteArray := prog_1_method_37_code
def yX3_upTo : MethodName := ⟨RX3, "upTo", "(I)I"⟩
abbrev cX3_levelInOrder : ByteArray := prog_1_method_38_code
def yX3_levelInOrder : MethodName := ⟨RX3, "levelInOrder", "(I)I"⟩
abbrev cX3_outOfOrder : ByteArray := prog_1_method_39_code
def yX3_outOfOrder : MethodName := ⟨RX3, "outOfOrder", "()I"⟩
abbrev cX3_alike : ByteArray := prog_1_method_40_code
def yX3_alike : MethodName := ⟨RX3, "alike", "(II)I"⟩
abbrev cX3_changedSince : ByteArray := prog_1_method_41_code
def yX3_changedSince : MethodName := ⟨RX3, "changedSince", "(I)I"⟩
abbrev cX3_totalIn : ByteArray := prog_1_method_42_code
def yX3_totalIn : MethodName := ⟨RX3, "totalIn", "(I)J"⟩
abbrev cX3_goneIn : ByteArray := prog_1_method_43_code
def yX3_goneIn : MethodName := ⟨RX3, "goneIn", "(I)I"⟩
abbrev cX3_hoursUntilDry : ByteArray := prog_1_method_44_code
def yX3_hoursUntilDry : MethodName := ⟨RX3, "hoursUntilDry", "()I"⟩
abbrev cX3_sunWanted : ByteArray := prog_1_method_45_code
def yX3_sunWanted : MethodName := ⟨RX3, "sunWanted", "(I)I"⟩
abbrev cX3_bestEdge : ByteArray := prog_1_method_46_code
def yX3_bestEdge : MethodName := ⟨RX3, "bestEdge", "(II)I"⟩
abbrev cX3_bestSwap : ByteArray := prog_1_method_47_code
def yX3_bestSwap : MethodName := ⟨RX3, "bestSwap", "(I)I"⟩
abbrev cX3_meanLevel : ByteArray := prog_1_method_48_code
def yX3_meanLevel : MethodName := ⟨RX3, "meanLevel", "()D"⟩
abbrev cX3_digest : ByteArray := prog_1_method_49_code
def yX3_digest : MethodName := ⟨RX3, "digest", "()J"⟩
abbrev cX3_digested : ByteArray := prog_1_method_50_code
def yX3_digested : MethodName := ⟨RX3, "digested", "(JJ)J"⟩
abbrev cX3_digestedFlights : ByteArray := prog_1_method_51_code
def yX3_digestedFlights : MethodName := ⟨RX3, "digestedFlights", "(J)J"⟩
abbrev cX3_digestedSteps : ByteArray := prog_1_method_52_code
def yX3_digestedSteps : MethodName := ⟨RX3, "digestedSteps", "(J)J"⟩
abbrev cX3_digestedMarks : ByteArray := prog_1_method_53_code
def yX3_digestedMarks : MethodName := ⟨RX3, "digestedMarks", "(J)J"⟩
abbrev cX3_keepDeed : ByteArray := prog_1_method_54_code
def yX3_keepDeed : MethodName := ⟨RX3, "keepDeed", "()V"⟩
abbrev cX3_checkIndex : ByteArray := prog_1_method_55_code
def yX3_checkIndex : MethodName := ⟨RX3, "checkIndex", "(II)V"⟩
abbrev cX3_checkNumber : ByteArray := prog_1_method_56_code
def yX3_checkNumber : MethodName := ⟨RX3, "checkNumber", "(III)V"⟩
abbrev cX3_checkFlight : ByteArray := prog_1_method_57_code
def yX3_checkFlight : MethodName := ⟨RX3, "checkFlight", "(I)V"⟩
abbrev cX3_checkStep : ByteArray := prog_1_method_58_code
def yX3_checkStep : MethodName := ⟨RX3, "checkStep", "(I)V"⟩
abbrev cX3_checkMark : ByteArray := prog_1_method_59_code
def yX3_checkMark : MethodName := ⟨RX3, "checkMark", "(I)V"⟩
abbrev cX3_checkPuddle : ByteArray := prog_1_method_60_code
def yX3_checkPuddle : MethodName := ⟨RX3, "checkPuddle", "(II)V"⟩
abbrev cX3_checkPart : ByteArray := prog_1_method_61_code
def yX3_checkPart : MethodName := ⟨RX3, "checkPart", "(IIII)V"⟩
def RX4 : String := "PuddleStairsModel"
def TX4 : u_T := fun k => match k with
  | 0 => ("PuddleStairsModel", "thrown", "I", false)
  | 1 => ("PuddleStairsModel", "flights", "I", false)
  | 2 => ("PuddleStairsModel", "steps", "I", false)
  | 3 => ("PuddleStairsModel", "hours", "I", false)
  | 4 => ("PuddleStairsModel", "sun", "I", false)
  | 5 => ("PuddleStairsModel", "gone", "J", false)
  | 6 => ("PuddleStairsModel", "edge", "[I", true)
  | 7 => ("PuddleStairsModel", "level", "[I", true)
  | 8 => ("PuddleStairsModel", "ahead", "[I", true)
  | 9 => ("PuddleStairsModel", "first", "I", false)
  | 10 => ("PuddleStairsModel", "deeds", "I", false)
  | 11 => ("PuddleStairsModel", "marked", "[I", true)
  | 12 => ("PuddleStairsModel", "marks", "I", false)
  | _ => ("PuddleStairsModel", "work", "[I", true)
def tyX4 : Nat → FieldType := fun k => match k with
  | 0 => .int
  | 1 => .int
  | 2 => .int
  | 3 => .int
  | 4 => .int
  | 5 => .long
  | 6 => .array .int
  | 7 => .array .int
  | 8 => .array .int
  | 9 => .int
  | 10 => .int
  | 11 => .array .int
  | 12 => .int
  | _ => .array .int
abbrev wsX40 : List Cond := u_ws RX4 TX4 14
theorem nmX4 : ∀ a, a < 14 → ∀ b, b < 14 → a ≠ b → (TX4 a).2.1 ≠ (TX4 b).2.1 := by decide +kernel
theorem tyX4_ok : ∀ k, k < 14 → parseFieldDescriptor (TX4 k).2.2.1 = some (tyX4 k) := by decide +kernel
abbrev cX4_init : ByteArray := prog_6_method_1_code
def yX4_init : MethodName := ⟨RX4, "<init>", "()V"⟩
abbrev cX4_thrown : ByteArray := prog_6_method_2_code
def yX4_thrown : MethodName := ⟨RX4, "thrown", "()I"⟩
abbrev cX4_no : ByteArray := prog_6_method_3_code
def yX4_no : MethodName := ⟨RX4, "no", "(I)I"⟩
abbrev cX4_ok : ByteArray := prog_6_method_4_code
def yX4_ok : MethodName := ⟨RX4, "ok", "(I)I"⟩
abbrev cX4_okay : ByteArray := prog_6_method_5_code
def yX4_okay : MethodName := ⟨RX4, "okay", "(J)J"⟩
abbrev cX4_isIn : ByteArray := prog_6_method_6_code
def yX4_isIn : MethodName := ⟨RX4, "isIn", "(III)Z"⟩
abbrev cX4_isFlight : ByteArray := prog_6_method_7_code
def yX4_isFlight : MethodName := ⟨RX4, "isFlight", "(I)Z"⟩
abbrev cX4_isStep : ByteArray := prog_6_method_8_code
def yX4_isStep : MethodName := ⟨RX4, "isStep", "(I)Z"⟩
abbrev cX4_isMark : ByteArray := prog_6_method_9_code
def yX4_isMark : MethodName := ⟨RX4, "isMark", "(I)Z"⟩
abbrev cX4_all : ByteArray := prog_6_method_10_code
def yX4_all : MethodName := ⟨RX4, "all", "()I"⟩
abbrev cX4_part : ByteArray := prog_6_method_11_code
def yX4_part : MethodName := ⟨RX4, "part", "(IIII)I"⟩
abbrev cX4_anew : ByteArray := prog_6_method_12_code
def yX4_anew : MethodName := ⟨RX4, "anew", "()V"⟩
abbrev cX4_keep : ByteArray := prog_6_method_13_code
def yX4_keep : MethodName := ⟨RX4, "keep", "()V"⟩
abbrev cX4_bring : ByteArray := prog_6_method_14_code
def yX4_bring : MethodName := ⟨RX4, "bring", "([II)I"⟩
abbrev cX4_hourOn : ByteArray := prog_6_method_15_code
def yX4_hourOn : MethodName := ⟨RX4, "hourOn", "([II)I"⟩
abbrev cX4_look : ByteArray := prog_6_method_16_code
def yX4_look : MethodName := ⟨RX4, "look", "()V"⟩
abbrev cX4_goneBehind : ByteArray := prog_6_method_17_code
def yX4_goneBehind : MethodName := ⟨RX4, "goneBehind", "(II)I"⟩
abbrev cX4_isDry : ByteArray := prog_6_method_18_code
def yX4_isDry : MethodName := ⟨RX4, "isDry", "([I)Z"⟩
abbrev cX4_lay : ByteArray := prog_6_method_19_code
def yX4_lay : MethodName := ⟨RX4, "lay", "(II)I"⟩
abbrev cX4_rain : ByteArray := prog_6_method_20_code
def yX4_rain : MethodName := ⟨RX4, "rain", "(III)I"⟩
abbrev cX4_splash : ByteArray := prog_6_method_21_code
def yX4_splash : MethodName := ⟨RX4, "splash", "(IIIII)I"⟩
abbrev cX4_change : ByteArray := prog_6_method_22_code
def yX4_change : MethodName := ⟨RX4, "change", "(II)I"⟩
abbrev cX4_swap : ByteArray := prog_6_method_23_code
def yX4_swap : MethodName := ⟨RX4, "swap", "(II)I"⟩
abbrev cX4_turn : ByteArray := prog_6_method_24_code
def yX4_turn : MethodName := ⟨RX4, "turn", "(I)I"⟩
abbrev cX4_bail : ByteArray := prog_6_method_25_code
def yX4_bail : MethodName := ⟨RX4, "bail", "(II)I"⟩
abbrev cX4_passHours : ByteArray := prog_6_method_26_code
def yX4_passHours : MethodName := ⟨RX4, "passHours", "(I)I"⟩
abbrev cX4_mark : ByteArray := prog_6_method_27_code
def yX4_mark : MethodName := ⟨RX4, "mark", "()I"⟩
abbrev cX4_back : ByteArray := prog_6_method_28_code
def yX4_back : MethodName := ⟨RX4, "back", "(I)I"⟩
abbrev cX4_undo : ByteArray := prog_6_method_29_code
def yX4_undo : MethodName := ⟨RX4, "undo", "()I"⟩
abbrev cX4_setSun : ByteArray := prog_6_method_30_code
def yX4_setSun : MethodName := ⟨RX4, "setSun", "(I)I"⟩
abbrev cX4_setEdge : ByteArray := prog_6_method_31_code
def yX4_setEdge : MethodName := ⟨RX4, "setEdge", "(II)I"⟩
abbrev cX4_flights : ByteArray := prog_6_method_32_code
def yX4_flights : MethodName := ⟨RX4, "flights", "()I"⟩
abbrev cX4_steps : ByteArray := prog_6_method_33_code
def yX4_steps : MethodName := ⟨RX4, "steps", "()I"⟩
abbrev cX4_hours : ByteArray := prog_6_method_34_code
def yX4_hours : MethodName := ⟨RX4, "hours", "()I"⟩
abbrev cX4_sun : ByteArray := prog_6_method_35_code
def yX4_sun : MethodName := ⟨RX4, "sun", "()I"⟩
abbrev cX4_edgeOf : ByteArray := prog_6_method_36_code
def yX4_edgeOf : MethodName := ⟨RX4, "edgeOf", "(I)I"⟩
abbrev cX4_marks : ByteArray := prog_6_method_37_code
def yX4_marks : MethodName := ⟨RX4, "marks", "()I"⟩
abbrev cX4_deeds : ByteArray := prog_6_method_38_code
def yX4_deeds : MethodName := ⟨RX4, "deeds", "()I"⟩
abbrev cX4_gone : ByteArray := prog_6_method_39_code
def yX4_gone : MethodName := ⟨RX4, "gone", "()J"⟩
abbrev cX4_at : ByteArray := prog_6_method_40_code
def yX4_at : MethodName := ⟨RX4, "at", "(II)I"⟩
abbrev cX4_levelAt : ByteArray := prog_6_method_41_code
def yX4_levelAt : MethodName := ⟨RX4, "levelAt", "(II)I"⟩
abbrev cX4_added : ByteArray := prog_6_method_42_code
def yX4_added : MethodName := ⟨RX4, "added", "(IIII)J"⟩
abbrev cX4_sumOf : ByteArray := prog_6_method_43_code
def yX4_sumOf : MethodName := ⟨RX4, "sumOf", "(IIII)J"⟩
abbrev cX4_sumTo : ByteArray := prog_6_method_44_code
def yX4_sumTo : MethodName := ⟨RX4, "sumTo", "(II)J"⟩
abbrev cX4_ofFlight : ByteArray := prog_6_method_45_code
def yX4_ofFlight : MethodName := ⟨RX4, "ofFlight", "(I)J"⟩
abbrev cX4_flightSum : ByteArray := prog_6_method_46_code
def yX4_flightSum : MethodName := ⟨RX4, "flightSum", "(I)J"⟩
abbrev cX4_ofStep : ByteArray := prog_6_method_47_code
def yX4_ofStep : MethodName := ⟨RX4, "ofStep", "(I)J"⟩
abbrev cX4_stepSum : ByteArray := prog_6_method_48_code
def yX4_stepSum : MethodName := ⟨RX4, "stepSum", "(I)J"⟩
abbrev cX4_sumOfAll : ByteArray := prog_6_method_49_code
def yX4_sumOfAll : MethodName := ⟨RX4, "sumOfAll", "()J"⟩
abbrev cX4_total : ByteArray := prog_6_method_50_code
def yX4_total : MethodName := ⟨RX4, "total", "()J"⟩
abbrev cX4_reaching : ByteArray := prog_6_method_51_code
def yX4_reaching : MethodName := ⟨RX4, "reaching", "(II)I"⟩
abbrev cX4_firstReaching : ByteArray := prog_6_method_52_code
def yX4_firstReaching : MethodName := ⟨RX4, "firstReaching", "(II)I"⟩
abbrev cX4_run : ByteArray := prog_6_method_53_code
def yX4_run : MethodName := ⟨RX4, "run", "(I)J"⟩
abbrev cX4_bestRun : ByteArray := prog_6_method_54_code
def yX4_bestRun : MethodName := ⟨RX4, "bestRun", "(I)J"⟩
abbrev cX4_dryPart : ByteArray := prog_6_method_55_code
def yX4_dryPart : MethodName := ⟨RX4, "dryPart", "(IIII)I"⟩
abbrev cX4_dryIn : ByteArray := prog_6_method_56_code
def yX4_dryIn : MethodName := ⟨RX4, "dryIn", "(IIII)I"⟩
abbrev cX4_dryNow : ByteArray := prog_6_method_57_code
def yX4_dryNow : MethodName := ⟨RX4, "dryNow", "()I"⟩
abbrev cX4_dry : ByteArray := prog_6_method_58_code
def yX4_dry : MethodName := ⟨RX4, "dry", "()I"⟩
abbrev cX4_dryAt : ByteArray := prog_6_method_59_code
def yX4_dryAt : MethodName := ⟨RX4, "dryAt", "(I)I"⟩
abbrev cX4_longest : ByteArray := prog_6_method_60_code
def yX4_longest : MethodName := ⟨RX4, "longest", "(I)I"⟩
abbrev cX4_longestDry : ByteArray := prog_6_method_61_code
def yX4_longestDry : MethodName := ⟨RX4, "longestDry", "(I)I"⟩
abbrev cX4_driest : ByteArray := prog_6_method_62_code
def yX4_driest : MethodName := ⟨RX4, "driest", "()I"⟩
abbrev cX4_driestFlight : ByteArray := prog_6_method_63_code
def yX4_driestFlight : MethodName := ⟨RX4, "driestFlight", "()I"⟩
abbrev cX4_lowestIn : ByteArray := prog_6_method_64_code
def yX4_lowestIn : MethodName := ⟨RX4, "lowestIn", "(IIII)I"⟩
abbrev cX4_highest : ByteArray := prog_6_method_65_code
def yX4_highest : MethodName := ⟨RX4, "highest", "(I)I"⟩
abbrev cX4_highestAt : ByteArray := prog_6_method_66_code
def yX4_highestAt : MethodName := ⟨RX4, "highestAt", "(I)I"⟩
abbrev cX4_below : ByteArray := prog_6_method_67_code
def yX4_below : MethodName := ⟨RX4, "below", "(I)I"⟩
abbrev cX4_upTo : ByteArray := prog_6_method_68_code
def yX4_upTo : MethodName := ⟨RX4, "upTo", "(I)I"⟩
abbrev cX4_levelInOrder : ByteArray := prog_6_method_69_code
def yX4_levelInOrder : MethodName := ⟨RX4, "levelInOrder", "(I)I"⟩
abbrev cX4_pairs : ByteArray := prog_6_method_70_code
def yX4_pairs : MethodName := ⟨RX4, "pairs", "()I"⟩
abbrev cX4_outOfOrder : ByteArray := prog_6_method_71_code
def yX4_outOfOrder : MethodName := ⟨RX4, "outOfOrder", "()I"⟩
abbrev cX4_alike : ByteArray := prog_6_method_72_code
def yX4_alike : MethodName := ⟨RX4, "alike", "(II)I"⟩
abbrev cX4_changed : ByteArray := prog_6_method_73_code
def yX4_changed : MethodName := ⟨RX4, "changed", "(I)I"⟩
abbrev cX4_changedSince : ByteArray := prog_6_method_74_code
def yX4_changedSince : MethodName := ⟨RX4, "changedSince", "(I)I"⟩
abbrev cX4_later : ByteArray := prog_6_method_75_code
def yX4_later : MethodName := ⟨RX4, "later", "(I)J"⟩
abbrev cX4_totalIn : ByteArray := prog_6_method_76_code
def yX4_totalIn : MethodName := ⟨RX4, "totalIn", "(I)J"⟩
abbrev cX4_goneIn : ByteArray := prog_6_method_77_code
def yX4_goneIn : MethodName := ⟨RX4, "goneIn", "(I)I"⟩
abbrev cX4_untilDry : ByteArray := prog_6_method_78_code
def yX4_untilDry : MethodName := ⟨RX4, "untilDry", "()I"⟩
abbrev cX4_hoursUntilDry : ByteArray := prog_6_method_79_code
def yX4_hoursUntilDry : MethodName := ⟨RX4, "hoursUntilDry", "()I"⟩
abbrev cX4_wanted : ByteArray := prog_6_method_80_code
def yX4_wanted : MethodName := ⟨RX4, "wanted", "(I)I"⟩
abbrev cX4_sunWanted : ByteArray := prog_6_method_81_code
def yX4_sunWanted : MethodName := ⟨RX4, "sunWanted", "(I)I"⟩
abbrev cX4_bestEdge : ByteArray := prog_6_method_82_code
def yX4_bestEdge : MethodName := ⟨RX4, "bestEdge", "(II)I"⟩
abbrev cX4_swapFor : ByteArray := prog_6_method_83_code
def yX4_swapFor : MethodName := ⟨RX4, "swapFor", "(I)I"⟩
abbrev cX4_bestSwap : ByteArray := prog_6_method_84_code
def yX4_bestSwap : MethodName := ⟨RX4, "bestSwap", "(I)I"⟩
abbrev cX4_meanLevel : ByteArray := prog_6_method_85_code
def yX4_meanLevel : MethodName := ⟨RX4, "meanLevel", "()D"⟩
abbrev cX4_digest : ByteArray := prog_6_method_86_code
def yX4_digest : MethodName := ⟨RX4, "digest", "()J"⟩
def RL : String := "PuddleStairsLaw"
abbrev cL_lay : ByteArray := method_3_code
def yL_lay : MethodName := ⟨RL, "lay", "(LPuddleStairs;II[J)I"⟩
abbrev cL_rain : ByteArray := method_4_code
def yL_rain : MethodName := ⟨RL, "rain", "(LPuddleStairs;III[J)I"⟩
abbrev cL_splash : ByteArray := method_5_code
def yL_splash : MethodName := ⟨RL, "splash", "(LPuddleStairs;IIIII[J)I"⟩
abbrev cL_swap : ByteArray := method_6_code
def yL_swap : MethodName := ⟨RL, "swap", "(LPuddleStairs;II[J)I"⟩
abbrev cL_turn : ByteArray := method_7_code
def yL_turn : MethodName := ⟨RL, "turn", "(LPuddleStairs;I[J)I"⟩
abbrev cL_bail : ByteArray := method_8_code
def yL_bail : MethodName := ⟨RL, "bail", "(LPuddleStairs;II[J)I"⟩
abbrev cL_passHours : ByteArray := method_9_code
def yL_passHours : MethodName := ⟨RL, "passHours", "(LPuddleStairs;I[J)I"⟩
abbrev cL_mark : ByteArray := method_10_code
def yL_mark : MethodName := ⟨RL, "mark", "(LPuddleStairs;[J)I"⟩
abbrev cL_back : ByteArray := method_11_code
def yL_back : MethodName := ⟨RL, "back", "(LPuddleStairs;I[J)I"⟩
abbrev cL_undo : ByteArray := method_12_code
def yL_undo : MethodName := ⟨RL, "undo", "(LPuddleStairs;[J)I"⟩
abbrev cL_setSun : ByteArray := method_13_code
def yL_setSun : MethodName := ⟨RL, "setSun", "(LPuddleStairs;I[J)I"⟩
abbrev cL_setEdge : ByteArray := method_14_code
def yL_setEdge : MethodName := ⟨RL, "setEdge", "(LPuddleStairs;II[J)I"⟩
abbrev cL_edgeOf : ByteArray := method_15_code
def yL_edgeOf : MethodName := ⟨RL, "edgeOf", "(LPuddleStairs;I[J)I"⟩
abbrev cL_levelAt : ByteArray := method_16_code
def yL_levelAt : MethodName := ⟨RL, "levelAt", "(LPuddleStairs;II[J)I"⟩
abbrev cL_sumOf : ByteArray := method_17_code
def yL_sumOf : MethodName := ⟨RL, "sumOf", "(LPuddleStairs;IIII[J)I"⟩
abbrev cL_sumTo : ByteArray := method_18_code
def yL_sumTo : MethodName := ⟨RL, "sumTo", "(LPuddleStairs;II[J)I"⟩
abbrev cL_flightSum : ByteArray := method_19_code
def yL_flightSum : MethodName := ⟨RL, "flightSum", "(LPuddleStairs;I[J)I"⟩
abbrev cL_stepSum : ByteArray := method_20_code
def yL_stepSum : MethodName := ⟨RL, "stepSum", "(LPuddleStairs;I[J)I"⟩
abbrev cL_firstReaching : ByteArray := method_21_code
def yL_firstReaching : MethodName := ⟨RL, "firstReaching", "(LPuddleStairs;II[J)I"⟩
abbrev cL_bestRun : ByteArray := method_22_code
def yL_bestRun : MethodName := ⟨RL, "bestRun", "(LPuddleStairs;I[J)I"⟩
abbrev cL_dryIn : ByteArray := method_23_code
def yL_dryIn : MethodName := ⟨RL, "dryIn", "(LPuddleStairs;IIII[J)I"⟩
abbrev cL_dryAt : ByteArray := method_24_code
def yL_dryAt : MethodName := ⟨RL, "dryAt", "(LPuddleStairs;I[J)I"⟩
abbrev cL_longestDry : ByteArray := method_25_code
def yL_longestDry : MethodName := ⟨RL, "longestDry", "(LPuddleStairs;I[J)I"⟩
abbrev cL_lowestIn : ByteArray := method_26_code
def yL_lowestIn : MethodName := ⟨RL, "lowestIn", "(LPuddleStairs;IIII[J)I"⟩
abbrev cL_highestAt : ByteArray := method_27_code
def yL_highestAt : MethodName := ⟨RL, "highestAt", "(LPuddleStairs;I[J)I"⟩
abbrev cL_levelInOrder : ByteArray := method_28_code
def yL_levelInOrder : MethodName := ⟨RL, "levelInOrder", "(LPuddleStairs;I[J)I"⟩
abbrev cL_alike : ByteArray := method_29_code
def yL_alike : MethodName := ⟨RL, "alike", "(LPuddleStairs;II[J)I"⟩
abbrev cL_changedSince : ByteArray := method_30_code
def yL_changedSince : MethodName := ⟨RL, "changedSince", "(LPuddleStairs;I[J)I"⟩
abbrev cL_totalIn : ByteArray := method_31_code
def yL_totalIn : MethodName := ⟨RL, "totalIn", "(LPuddleStairs;I[J)I"⟩
abbrev cL_goneIn : ByteArray := method_32_code
def yL_goneIn : MethodName := ⟨RL, "goneIn", "(LPuddleStairs;I[J)I"⟩
abbrev cL_sunWanted : ByteArray := method_33_code
def yL_sunWanted : MethodName := ⟨RL, "sunWanted", "(LPuddleStairs;I[J)I"⟩
abbrev cL_bestEdge : ByteArray := method_34_code
def yL_bestEdge : MethodName := ⟨RL, "bestEdge", "(LPuddleStairs;II[J)I"⟩
abbrev cL_bestSwap : ByteArray := method_35_code
def yL_bestSwap : MethodName := ⟨RL, "bestSwap", "(LPuddleStairs;I[J)I"⟩
abbrev cL_law : ByteArray := code
def yL_law : MethodName := ⟨RL, "law", "([I)Z"⟩
abbrev vwCl : List vw_C := [(RX0, TX0, 2), (RX1, TX1, 3), (RX2, TX2, 5), (RX3, TX3, 7), (RX4, TX4, 14)]
end
section
/-! A layer of my own over the kit: one judgement J for 'from this configuration of method M, the method ends as Φ (returned) or Ψ (threw) say'. The world is a table of entries E over addresses ad, n of them; contexts, heaps, rooms are inside J. -/
/-- the law's numbers: first address of the world, the script's cell, length, contents; the class ids; the three array classes (int, long, int[]); where the texts lie -/
abbrev jG : Type := (Nat × Nat × Nat × (Nat → Int32)) × va_G × (ClassId × ClassId × ClassId) × (Nat → Nat)
abbrev jM : Type := MethodName × ByteArray × Nat × Option FieldType × List (Nat × Nat × Nat × Nat)
abbrev jR : Type := Nat → (Nat → Nat) → (Nat → va_E) → Prop
def jA (g : jG) : Nat → Prop := fun q => g.1.1 ≤ q
def jT (g : jG) : List (ClassId × FieldType) := [(g.2.2.1.1, .int), (g.2.2.1.2.1, .long), (g.2.2.1.2.2, .array .int)]
def TT : List Cond := lw_tbl.filter goodWord
def jNw : Cond → Bool
  | .fieldLinkNest .. => true
  | .methodLinkNest .. => true
  | .castable .. => true
  | .declares .. => true
  | _ => false
def NW : List Cond := lw_tbl.filter jNw
theorem tt_of {w : Cond} (k : Nat) (h : lw_tbl[k]? = some w) (hg : goodWord w = true) : w ∈ TT := List.mem_filter.mpr ⟨List.mem_of_getElem? h, hg⟩
theorem nw_of {w : Cond} (k : Nat) (h : lw_tbl[k]? = some w) (hg : jNw w = true) : w ∈ NW := List.mem_filter.mpr ⟨List.mem_of_getElem? h, hg⟩
theorem tt_good {w : Cond} (h : w ∈ TT) : goodWord w = true := (List.mem_filter.mp h).2
def jCode (M : jM) : Cond := if M.2.2.2.2.isEmpty = true then .code M.1 M.2.1 M.2.2.1 M.2.2.2.1 else .codeWith M.1 M.2.1 M.2.2.1 M.2.2.2.1 M.2.2.2.2
def jW (M : jM) : List Cond := jCode M :: TT
/-! the world -/
def jws (n : Nat) (ad : Nat → Nat) (E : Nat → va_E) : va_W := (List.range n).map (fun k => (ad k, E k))
theorem jws_at {n : Nat} {ad : Nat → Nat} {E : Nat → va_E} {k : Nat} (h : k < n) : (jws n ad E)[k]? = some (ad k, E k) := by
  simp [jws, h]
theorem jws_set {n : Nat} {ad : Nat → Nat} {E : Nat → va_E} {k : Nat} {e : va_E} (h : k < n) : (jws n ad E).set k (ad k, e) = jws n ad (va_up E k e) := by
  apply List.ext_getElem?
  intro j
  by_cases hj : j < n
  · rw [jws_at hj, List.getElem?_set]
    by_cases hk : k = j
    · subst hk
      simp [jws, h, va_up]
    · rw [if_neg hk, jws_at hj]
      simp [va_up, Ne.symm hk]
  · rw [List.getElem?_eq_none (by simp [jws]; omega), List.getElem?_eq_none (by simp [jws]; omega)]
theorem jws_push {n : Nat} {ad : Nat → Nat} {E : Nat → va_E} {q : Nat} {e : va_E} : jws n ad E ++ [(q, e)] = jws (n + 1) (va_up ad n q) (va_up E n e) := by
  unfold jws
  rw [List.range_succ, List.map_append]
  congr 1
  · apply List.map_congr_left
    intro k hk
    have : k ≠ n := Nat.ne_of_lt (List.mem_range.mp hk)
    simp [va_up, this]
  · simp [va_up]
def jWd (g : jG) (n : Nat) (ad : Nat → Nat) (E : Nat → va_E) (H : Heap) : Prop := va_P g.2.1 vwCl (jws n ad E) H ∧ va_D (jA g) (jws n ad E)
theorem jWd.less {g : jG} {n k : Nat} {ad : Nat → Nat} {E : Nat → va_E} {H : Heap} (h : jWd g n ad E H) (hk : k ≤ n) : jWd g k ad E H := by
  have key : ∀ (i : Nat) (q : Nat × va_E), (jws k ad E)[i]? = some q → (jws n ad E)[i]? = some q := by
    intro i q hi
    have hl : i < k := by
      have := (List.getElem?_eq_some_iff.mp hi).1
      simpa [jws] using this
    rw [jws_at hl] at hi
    rw [jws_at (by omega), hi]
  exact ⟨fun i q hi => h.1 i q (key i q hi), fun i j p q hi hj e => h.2.1 i j p q (key i p hi) (key j q hj) e, fun i q hi => h.2.2 i q (key i q hi)⟩
theorem jWd.inj {g : jG} {n : Nat} {ad : Nat → Nat} {E : Nat → va_E} {H : Heap} (h : jWd g n ad E H) {i j : Nat} (hi : i < n) (hj : j < n) (e : ad i = ad j) : i = j := h.2.1 i j _ _ (jws_at hi) (jws_at hj) e
theorem jWd.lt {g : jG} {n : Nat} {ad : Nat → Nat} {E : Nat → va_E} {H : Heap} (h : jWd g n ad E H) {i : Nat} (hi : i < n) : ad i < H.size := (h.1 i _ (jws_at hi)).lt
/-- only the first n entries count -/
theorem jWd.congr {g : jG} {n : Nat} {ad ad' : Nat → Nat} {E E' : Nat → va_E} {H : Heap} (h : jWd g n ad E H) (ha : ∀ k, k < n → ad k = ad' k) (hE : ∀ k, k < n → E k = E' k) : jWd g n ad' E' H := by
  have e : jws n ad E = jws n ad' E' := by
    unfold jws
    apply List.map_congr_left
    intro k hk
    have := List.mem_range.mp hk
    rw [ha k this, hE k this]
  unfold jWd at h ⊢
  rw [← e]
  exact h
/-! what of the start goes on to hold -/
def jStr : List (Nat × String) := [(121, "there are 12 marks"), (136, "no deed is kept"), (178, "there are not so many dry puddles"), (290, "there is no such number"), (294, "the number is too small or too great"), (297, "the first one is greater than the last one")]
def jNc : List (String × String) := [("java/lang/IllegalArgumentException", "java/lang/IndexOutOfBoundsException")]
def jK (g : jG) (s : State) : Prop :=
  va_K g.2.1 vwCl (jT g) s ∧ (∀ q ∈ jStr, vk_R RX3 q.1 q.2 (g.2.2.2 q.1) s) ∧ vx_Zq Bundle.tN "UNASSIGNED_STACK" Bundle.steD (jA g) s s.heap ∧ vx_Zq Bundle.tN "SUPPRESSED_SENTINEL" Bundle.listD (jA g) s s.heap ∧
  va_X g.1.2.1 g.1.2.2.1 g.1.2.2.2 s s.heap ∧ g.1.2.1 < g.1.1 ∧ g.1.1 ≤ s.heap.size ∧ va_AOA .int s ∧ (∀ w ∈ NW, va_Nw w s) ∧ ∀ q ∈ jNc, va_Nc q.1 q.2 s
theorem jNw_warm {s U : State} (hW : s.WarmedH U.vm) {w : Cond} (hw : jNw w = true) (h : va_Nw w s) : va_Nw w U := by
  cases w <;> first | exact va_Nw.warmF hW h | exact va_Nw.warmM hW h | exact va_Nw.warmC hW h | exact va_Nw.warmD hW h | exact absurd (show false = true from hw) Bool.false_ne_true
theorem jNw_tab {w : Cond} (hw : jNw w = true) : w.onTables = true := by
  cases w <;> first | rfl | exact absurd (show false = true from hw) Bool.false_ne_true
theorem va_AOA.moved' {t : FieldType} {u U : State} (hvm : u.vm.Alike U.vm) (h : va_AOA t u) : va_AOA t U := over_moved (a := #[]) (a' := #[]) hvm h
theorem jK.to {g : jG} {s U : State} {H : Heap} {locs : List Loc} (h : jK g s) (hS : va_S (jA g) s.heap H locs) (hU : U.heap = H) (hW : s.WarmedH U.vm) : jK g U := by
  obtain ⟨h1, h2, h3, h4, h5, h6, h7, h8, h9, h10⟩ := h
  subst hU
  refine ⟨va_K.moved hW.alike h1, fun q hq => vk_R.warm hW (h2 q hq), (vx_Zq.moved hW.alike h3).kept (fun a ha hn => hS.2.1 a ha hn), (vx_Zq.moved hW.alike h4).kept (fun a ha hn => hS.2.1 a ha hn), ?_, h6, Nat.le_trans h7 hS.1, va_AOA.moved' hW.alike h8, fun w hw => jNw_warm hW (List.mem_filter.mp hw).2 (h9 w hw), fun q hq => va_Nc.moved hW.alike (h10 q hq)⟩
  exact (va_X.moved hW.alike h5).kept (hS.2.1 _ (Nat.lt_of_lt_of_le h6 h7) (Nat.not_le.mpr h6))
theorem jK.same {g : jG} {u U : State} (hv : U.vm = u.vm) (hh : U.heap = u.heap) (h : jK g u) : jK g U := by
  obtain ⟨h1, h2, h3, h4, h5, h6, h7, h8, h9, h10⟩ := h
  have ha : u.vm.Alike U.vm := by rw [hv]; exact Vm.Alike.refl _
  refine ⟨va_K.moved ha h1, fun q hq => vk_R.same hv (h2 q hq), by rw [hh]; exact vx_Zq.moved ha h3, by rw [hh]; exact vx_Zq.moved ha h4, by rw [hh]; exact va_X.moved ha h5, h6, by rw [hh]; exact h7, va_AOA.moved' ha h8, fun w hw => va_Nw.same (jNw_tab (List.mem_filter.mp hw).2) hv.symm (h9 w hw), fun q hq => va_Nc.moved ha (h10 q hq)⟩
/-! locals by place -/
def slotV : Slot → Option Value
  | .val v => some v
  | _ => none
def lh (ls : Array Slot) (nL : Nat) (L : List (Option Value)) : Prop := ls.size = nL ∧ lv_wf ls ∧ ∀ (i : Nat) (v : Value), L[i]? = some (some v) → ls[i]? = some (.val v)
def ent (vs : List Value) (n : Nat) : List (Option Value) := (lg_sl vs ++ List.replicate (n - (lg_sl vs).length) Slot.unset).map slotV
theorem lh_at {ls : Array Slot} {nL : Nat} {L : List (Option Value)} (h : lh ls nL L) {i : Nat} {v : Value} (hi : L[i]? = some (some v)) : ls[i]? = some (.val v) := h.2.2 i v hi
theorem lh_entry (vs : List Value) {n : Nat} (h : (lg_sl vs).length ≤ n) : lh ((lg_sl vs ++ List.replicate (n - (lg_sl vs).length) Slot.unset).toArray) n (ent vs n) := by
  obtain ⟨h1, h2, -⟩ := lv_entry vs h
  refine ⟨h1, h2, fun i v hi => ?_⟩
  unfold ent at hi
  rw [List.getElem?_map] at hi
  cases hx : (lg_sl vs ++ List.replicate (n - (lg_sl vs).length) Slot.unset)[i]? with
  | none => rw [hx] at hi; cases hi
  | some x =>
    rw [hx] at hi
    cases x with
    | val w =>
      have e : w = v := by simpa [slotV] using hi
      subst e
      simpa using hx
    | unset => simp [slotV] at hi
    | second => simp [slotV] at hi
def asl (L : List (Option Value)) : List (Nat × Value) := (List.range L.length).filterMap (fun j => (L[j]?.getD none).map (fun w => (j, w)))
theorem asl_mem {L : List (Option Value)} {j : Nat} {w : Value} : (j, w) ∈ asl L ↔ L[j]? = some (some w) := by
  unfold asl
  rw [List.mem_filterMap]
  constructor
  · rintro ⟨k, hk, h⟩
    have hk := List.mem_range.mp hk
    rw [List.getElem?_eq_getElem hk] at h
    cases hx : L[k] with
    | none => rw [hx] at h; simp at h
    | some x =>
      rw [hx] at h
      simp at h
      obtain ⟨rfl, rfl⟩ := h
      rw [List.getElem?_eq_getElem hk, hx]
  · intro h
    have hk := (List.getElem?_eq_some_iff.mp h).1
    refine ⟨j, List.mem_range.mpr hk, ?_⟩
    rw [h]
    rfl
theorem lh_asl {ls : Array Slot} {nL : Nat} {L : List (Option Value)} (h : lh ls nL L) : lv_has ls nL (asl L) := ⟨h.1, h.2.1, fun q hq => h.2.2 q.1 q.2 (asl_mem.mp hq)⟩
/-- what stands just ahead of the place is no long -/
def okp (L : List (Option Value)) (i : Nat) : Bool := match i with
  | 0 => true
  | k + 1 => match L[k]? with
    | some (some w) => !(w.category == 2)
    | _ => true
theorem lh_of1 {ls' : Array Slot} {nL i : Nat} {L : List (Option Value)} {v : Value} (ok : okp L i = true) (h : lv_has ls' nL ((i, v) :: (asl L).filter (fun q => !(q.1 == i) && !(q.1 + 1 == i && q.2.category == 2)))) : lh ls' nL (L.set i (some v)) := by
  refine ⟨h.1, h.2.1, fun j w hj => ?_⟩
  rw [List.getElem?_set] at hj
  by_cases hij : i = j
  · rw [if_pos hij] at hj
    split at hj
    · cases hj
      exact hij ▸ h.2.2 (i, v) List.mem_cons_self
    · cases hj
  · rw [if_neg hij] at hj
    refine h.2.2 (j, w) (List.mem_cons_of_mem _ (List.mem_filter.mpr ⟨asl_mem.mpr hj, ?_⟩))
    by_cases e : j + 1 = i
    · subst e
      simp only [okp, hj] at ok
      simp at ok
      simp [ok]
    · simp [Ne.symm hij, e]
theorem lh_of2 {ls' : Array Slot} {nL i : Nat} {L : List (Option Value)} {v : Value} (ok : okp L i = true) (h : lv_has ls' nL ((i, v) :: (asl L).filter (fun q => !(q.1 == i) && (!(q.1 == i + 1) && !(q.1 + 1 == i && q.2.category == 2))))) : lh ls' nL ((L.set i (some v)).set (i + 1) none) := by
  refine ⟨h.1, h.2.1, fun j w hj => ?_⟩
  rw [List.getElem?_set] at hj
  by_cases h1 : i + 1 = j
  · rw [if_pos h1] at hj
    split at hj <;> cases hj
  · rw [if_neg h1, List.getElem?_set] at hj
    by_cases hij : i = j
    · rw [if_pos hij] at hj
      split at hj
      · cases hj
        exact hij ▸ h.2.2 (i, v) List.mem_cons_self
      · cases hj
    · rw [if_neg hij] at hj
      refine h.2.2 (j, w) (List.mem_cons_of_mem _ (List.mem_filter.mpr ⟨asl_mem.mpr hj, ?_⟩))
      by_cases e : j + 1 = i
      · subst e
        simp only [okp, hj] at ok
        simp at ok
        simp [ok]
        omega
      · simp [Ne.symm hij, e, Ne.symm h1]
theorem lh_sub {ls : Array Slot} {nL : Nat} {L L' : List (Option Value)} (h : lh ls nL L) (hs : ∀ (i : Nat) (v : Value), L'[i]? = some (some v) → L[i]? = some (some v)) : lh ls nL L' := ⟨h.1, h.2.1, fun i v hi => h.2.2 i v (hs i v hi)⟩
/-! the judgement -/
def jQ (g : jG) (Φ : Option Value → jR) : Array Value → State → Outcome → State → Prop := fun _ st o t => (∃ (v : Option Value) (n : Nat) (ad : Nat → Nat) (E : Nat → va_E), o = .returned v ∧ Φ v n ad E ∧ jWd g n ad E t.heap) ∧ va_F (jA g) st t
def jX (g : jG) (Ψ : String → jR) : String → State → State → Prop := fun X st t => (∃ (n : Nat) (ad : Nat → Nat) (E : Nat → va_E), Ψ X n ad E ∧ jWd g n ad E t.heap) ∧ va_F (jA g) st t
def jC (g : jG) (M : jM) (d : Nat) (l : Launch) (p : Program) (R : Room) (s : State) (m : MethodId) (args : Array Value) (meth : Method) (c : Code) : Prop :=
  p.tables.exec = Jvm.exec ∧ c.code = M.2.1 ∧ c.maxLocals = M.2.2.1 ∧ meth.sig.returnType = M.2.2.2.1 ∧ meth.locks = false ∧ s.vm.findClass M.1.cls = some m.cls ∧ (∀ w ∈ TT, w.before args s = true) ∧ c.exceptionTable.toList = tableOf M.2.2.2.2 ∧ meth.name = M.1.name ∧ l.stackTraces = false ∧ d ≤ R.frames ∧ 32 * d ≤ R.locals ∧ jK g s
def J (g : jG) (M : jM) (d bc bs pc : Nat) (L : List (Option Value)) (st : List Value) (n : Nat) (ad : Nat → Nat) (E : Nat → va_E) (Φ : Option Value → jR) (Ψ : String → jR) : Prop :=
  ∀ (l : Launch) (p : Program) (e : Env) (R : Room) (s : State) (m : MethodId) (args : Array Value) (below : List Frame) (meth : Method) (c : Code) (H : Heap) (locs : List Loc) (cells slots : Nat) (ls : Array Slot),
    jC g M d l p R s m args meth c → cells + bc ≤ R.cells → slots + bs ≤ R.slots → jWd g n ad E H → va_S (jA g) s.heap H locs → lh ls M.2.2.1 L →
    W p l e R s m args below meth c H locs cells slots (vx_MQ below (jQ g Φ) (jX g Ψ) args s R.cells R.slots (jA g)) (F0 m pc ls st)
def JE (g : jG) (M : jM) (d bc bs : Nat) (As : List Value) (n : Nat) (ad : Nat → Nat) (E : Nat → va_E) (Φ : Option Value → jR) (Ψ : String → jR) : Prop := J g M d bc bs 0 (ent As M.2.2.1) [] n ad E Φ Ψ
def jPre (g : jG) (n : Nat) (ad : Nat → Nat) (E : Nat → va_E) : State → Prop := fun U => jK g U ∧ jWd g n ad E U.heap
theorem jPre.blind {g : jG} {n : Nat} {ad : Nat → Nat} {E : Nat → va_E} {As : List Value} : FrameBlind (va_Pc As (jPre g n ad E)) := fun _ U gf mk q => ⟨q.1, jK.same (u := U) (U := U.calling gf mk _) rfl rfl q.2.1, q.2.2⟩
theorem jW_good {M : jM} (h : jCode M ∈ TT) : ∀ w ∈ jW M, w ∈ TT ∧ ((w.onTables && w.keeps) = true ∨ ∃ ty, w = .arrayClass ty) := fun w hw => by
  have : w ∈ TT := (List.mem_cons.mp hw).elim (fun e => e ▸ h) id
  exact ⟨this, good_of_word (tt_good this)⟩
/-- a method from its entry -/
theorem jMet {g : jG} {M : jM} {d bc bs : Nat} {As : List Value} {n : Nat} {ad : Nat → Nat} {E : Nat → va_E} {Φ : Option Value → jR} {Ψ : String → jR} {l : Launch} (hy : plainName M.1.cls = true) (hl : l.stackTraces = false) (hn : (lg_sl As).length ≤ M.2.2.1) (h : JE g M d bc bs As n ad E Φ Ψ) :
    vx_Met l M.1 (jW M) ({ frames := d, cells := bc, slots := bs, locals := 32 * d }) (va_Pc As (jPre g n ad E)) (jQ g Φ) (jX g Ψ) bc bs (jA g) := by
  obtain ⟨y, cc, nL, ret, hh⟩ := M
  by_cases hhe : hh.isEmpty = true
  · have hh0 : hh = [] := List.isEmpty_iff.mp hhe
    subst hh0
    refine vx_ofW (cc := cc) (maxL := nL) (ret := ret) hy (ws' := TT) rfl ?_
    intro p e s m args below meth c s₁ B hml ht hv
    obtain ⟨rfl, hK, hWd⟩ := hv
    have hts := atoms_spec B.pre
    rw [lg_entry_eq]
    refine h l p e _ s m _ below meth c s.heap [] 0 0 _ ⟨B.exec, B.bytes, hml, B.returns, B.notSynchronized, findClass_of_methodNamed B.named, fun w hw => hts w (List.mem_cons_of_mem _ hw), ?_, (name_of_methodNamed B.named B.method).1, hl, Nat.le_refl _, Nat.le_refl _, hK⟩ (by show 0 + bc ≤ bc; omega) (by show 0 + bs ≤ bs; omega) hWd va_S.rf (lh_entry As hn)
    exact List.eq_nil_iff_forall_not_mem.mpr fun x hx => ht x hx
  · have hcd : jCode (y, cc, nL, ret, hh) = .codeWith y cc nL ret hh := if_neg hhe
    refine vx_ofWH (cc := cc) (maxL := nL) (ret := ret) (hh := hh) hy (ws' := TT) (by unfold jW; rw [hcd]) ?_
    intro p e s m args below meth c s₁ B hml hv
    obtain ⟨rfl, hK, hWd⟩ := hv
    have hts := atoms_spec B.pre
    rw [lg_entry_eq]
    exact h l p e _ s m _ below meth c s.heap [] 0 0 _ ⟨B.exec, B.bytes, hml, B.returns, B.notSynchronized, findClass_of_methodNamed B.named, fun w hw => hts w (List.mem_cons_of_mem _ hw), vx_table (x := y) B (by rw [← hcd]; exact hts _ List.mem_cons_self), (name_of_methodNamed B.named B.method).1, hl, Nat.le_refl _, Nat.le_refl _, hK⟩ (by show 0 + bc ≤ bc; omega) (by show 0 + bs ≤ bs; omega) hWd va_S.rf (lh_entry As hn)
end
section
/-! The rows of J: an instruction a row. -/
section JR
variable {g : jG} {M : jM} {d bc bs pc : Nat} {L : List (Option Value)} {st : List Value} {n : Nat} {ad : Nat → Nat} {E : Nat → va_E} {Φ : Option Value → jR} {Ψ : String → jR}
theorem j_iload {i : Nat} {x : Int32} (hd : decode M.2.1 pc = .ok (.iload i, 2)) (hL : L[i]? = some (some (.int x))) (k : J g M d bc bs (pc + 2) L (.int x :: st) n ad E Φ Ψ) : J g M d bc bs pc L (st) n ad E Φ Ψ := by
  intro l p e R s m args below meth c H locs cells slots ls C h1 h2 hW hS hl
  exact lv_iload C.1 C.2.1 hd (lh_at hl hL) (k l p e R s m args below meth c H locs cells slots ls C h1 h2 hW hS hl)
theorem j_iload_n {i : Fin 4} {x : Int32} (hd : decode M.2.1 pc = .ok (.iload_n i, 1)) (hL : L[(i : Nat)]? = some (some (.int x))) (k : J g M d bc bs (pc + 1) L (.int x :: st) n ad E Φ Ψ) : J g M d bc bs pc L (st) n ad E Φ Ψ := by
  intro l p e R s m args below meth c H locs cells slots ls C h1 h2 hW hS hl
  exact lv_iload_n C.1 C.2.1 hd rfl (lh_at hl hL) (k l p e R s m args below meth c H locs cells slots ls C h1 h2 hW hS hl)
theorem j_lload {i : Nat} {x : Int64} (hd : decode M.2.1 pc = .ok (.lload i, 2)) (hL : L[i]? = some (some (.long x))) (k : J g M d bc bs (pc + 2) L (.long x :: st) n ad E Φ Ψ) : J g M d bc bs pc L (st) n ad E Φ Ψ := by
  intro l p e R s m args below meth c H locs cells slots ls C h1 h2 hW hS hl
  exact lv_lload C.1 C.2.1 hd (lh_at hl hL) (k l p e R s m args below meth c H locs cells slots ls C h1 h2 hW hS hl)
theorem j_lload_n {i : Fin 4} {x : Int64} (hd : decode M.2.1 pc = .ok (.lload_n i, 1)) (hL : L[(i : Nat)]? = some (some (.long x))) (k : J g M d bc bs (pc + 1) L (.long x :: st) n ad E Φ Ψ) : J g M d bc bs pc L (st) n ad E Φ Ψ := by
  intro l p e R s m args below meth c H locs cells slots ls C h1 h2 hW hS hl
  exact lv_lload_n C.1 C.2.1 hd rfl (lh_at hl hL) (k l p e R s m args below meth c H locs cells slots ls C h1 h2 hW hS hl)
theorem j_dload {i : Nat} {x : UInt64} (hd : decode M.2.1 pc = .ok (.dload i, 2)) (hL : L[i]? = some (some (.double x))) (k : J g M d bc bs (pc + 2) L (.double x :: st) n ad E Φ Ψ) : J g M d bc bs pc L (st) n ad E Φ Ψ := by
  intro l p e R s m args below meth c H locs cells slots ls C h1 h2 hW hS hl
  exact lv_dload C.1 C.2.1 hd (lh_at hl hL) (k l p e R s m args below meth c H locs cells slots ls C h1 h2 hW hS hl)
theorem j_dload_n {i : Fin 4} {x : UInt64} (hd : decode M.2.1 pc = .ok (.dload_n i, 1)) (hL : L[(i : Nat)]? = some (some (.double x))) (k : J g M d bc bs (pc + 1) L (.double x :: st) n ad E Φ Ψ) : J g M d bc bs pc L (st) n ad E Φ Ψ := by
  intro l p e R s m args below meth c H locs cells slots ls C h1 h2 hW hS hl
  exact lv_dload_n C.1 C.2.1 hd rfl (lh_at hl hL) (k l p e R s m args below meth c H locs cells slots ls C h1 h2 hW hS hl)
theorem j_aload {i : Nat} {x : Nat} (hd : decode M.2.1 pc = .ok (.aload i, 2)) (hL : L[i]? = some (some (.ref x))) (k : J g M d bc bs (pc + 2) L (.ref x :: st) n ad E Φ Ψ) : J g M d bc bs pc L (st) n ad E Φ Ψ := by
  intro l p e R s m args below meth c H locs cells slots ls C h1 h2 hW hS hl
  exact lv_aload C.1 C.2.1 hd (lh_at hl hL) (k l p e R s m args below meth c H locs cells slots ls C h1 h2 hW hS hl)
theorem j_aload_n {i : Fin 4} {x : Nat} (hd : decode M.2.1 pc = .ok (.aload_n i, 1)) (hL : L[(i : Nat)]? = some (some (.ref x))) (k : J g M d bc bs (pc + 1) L (.ref x :: st) n ad E Φ Ψ) : J g M d bc bs pc L (st) n ad E Φ Ψ := by
  intro l p e R s m args below meth c H locs cells slots ls C h1 h2 hW hS hl
  exact lv_aload_n C.1 C.2.1 hd rfl (lh_at hl hL) (k l p e R s m args below meth c H locs cells slots ls C h1 h2 hW hS hl)
theorem j_istore {i : Nat} {x : Int32} {L' : List (Option Value)} (hd : decode M.2.1 pc = .ok (.istore i, 2)) (hn : i < M.2.2.1) (ok : okp L i = true) (hL : L.set i (some (.int x)) = L') (k : J g M d bc bs (pc + 2) L' st n ad E Φ Ψ) : J g M d bc bs pc L (.int x :: st) n ad E Φ Ψ := by
  intro l p e R s m args below meth c H locs cells slots ls C h1 h2 hW hS hl
  subst hL
  exact lv_istore C.1 C.2.1 hd (lh_asl hl) hn rfl (fun ls' hl' => k l p e R s m args below meth c H locs cells slots ls' C h1 h2 hW hS (lh_of1 ok hl'))
theorem j_istore_n {i : Fin 4} {x : Int32} {L' : List (Option Value)} (hd : decode M.2.1 pc = .ok (.istore_n i, 1)) (hn : (i : Nat) < M.2.2.1) (ok : okp L (i : Nat) = true) (hL : L.set (i : Nat) (some (.int x)) = L') (k : J g M d bc bs (pc + 1) L' st n ad E Φ Ψ) : J g M d bc bs pc L (.int x :: st) n ad E Φ Ψ := by
  intro l p e R s m args below meth c H locs cells slots ls C h1 h2 hW hS hl
  subst hL
  exact lv_istore_n C.1 C.2.1 hd rfl (lh_asl hl) hn rfl (fun ls' hl' => k l p e R s m args below meth c H locs cells slots ls' C h1 h2 hW hS (lh_of1 ok hl'))
theorem j_lstore {i : Nat} {x : Int64} {L' : List (Option Value)} (hd : decode M.2.1 pc = .ok (.lstore i, 2)) (hn : i + 1 < M.2.2.1) (ok : okp L i = true) (hL : (L.set i (some (.long x))).set (i + 1) none = L') (k : J g M d bc bs (pc + 2) L' st n ad E Φ Ψ) : J g M d bc bs pc L (.long x :: st) n ad E Φ Ψ := by
  intro l p e R s m args below meth c H locs cells slots ls C h1 h2 hW hS hl
  subst hL
  exact lv_lstore C.1 C.2.1 hd (lh_asl hl) hn rfl (fun ls' hl' => k l p e R s m args below meth c H locs cells slots ls' C h1 h2 hW hS (lh_of2 ok hl'))
theorem j_lstore_n {i : Fin 4} {x : Int64} {L' : List (Option Value)} (hd : decode M.2.1 pc = .ok (.lstore_n i, 1)) (hn : (i : Nat) + 1 < M.2.2.1) (ok : okp L (i : Nat) = true) (hL : (L.set (i : Nat) (some (.long x))).set ((i : Nat) + 1) none = L') (k : J g M d bc bs (pc + 1) L' st n ad E Φ Ψ) : J g M d bc bs pc L (.long x :: st) n ad E Φ Ψ := by
  intro l p e R s m args below meth c H locs cells slots ls C h1 h2 hW hS hl
  subst hL
  exact lv_lstore_n C.1 C.2.1 hd rfl (lh_asl hl) hn rfl (fun ls' hl' => k l p e R s m args below meth c H locs cells slots ls' C h1 h2 hW hS (lh_of2 ok hl'))
theorem j_dstore {i : Nat} {x : UInt64} {L' : List (Option Value)} (hd : decode M.2.1 pc = .ok (.dstore i, 2)) (hn : i + 1 < M.2.2.1) (ok : okp L i = true) (hL : (L.set i (some (.double x))).set (i + 1) none = L') (k : J g M d bc bs (pc + 2) L' st n ad E Φ Ψ) : J g M d bc bs pc L (.double x :: st) n ad E Φ Ψ := by
  intro l p e R s m args below meth c H locs cells slots ls C h1 h2 hW hS hl
  subst hL
  exact lv_dstore C.1 C.2.1 hd (lh_asl hl) hn rfl (fun ls' hl' => k l p e R s m args below meth c H locs cells slots ls' C h1 h2 hW hS (lh_of2 ok hl'))
theorem j_dstore_n {i : Fin 4} {x : UInt64} {L' : List (Option Value)} (hd : decode M.2.1 pc = .ok (.dstore_n i, 1)) (hn : (i : Nat) + 1 < M.2.2.1) (ok : okp L (i : Nat) = true) (hL : (L.set (i : Nat) (some (.double x))).set ((i : Nat) + 1) none = L') (k : J g M d bc bs (pc + 1) L' st n ad E Φ Ψ) : J g M d bc bs pc L (.double x :: st) n ad E Φ Ψ := by
  intro l p e R s m args below meth c H locs cells slots ls C h1 h2 hW hS hl
  subst hL
  exact lv_dstore_n C.1 C.2.1 hd rfl (lh_asl hl) hn rfl (fun ls' hl' => k l p e R s m args below meth c H locs cells slots ls' C h1 h2 hW hS (lh_of2 ok hl'))
theorem j_astore {i : Nat} {x : Nat} {L' : List (Option Value)} (hd : decode M.2.1 pc = .ok (.astore i, 2)) (hn : i < M.2.2.1) (ok : okp L i = true) (hL : L.set i (some (.ref x)) = L') (k : J g M d bc bs (pc + 2) L' st n ad E Φ Ψ) : J g M d bc bs pc L (.ref x :: st) n ad E Φ Ψ := by
  intro l p e R s m args below meth c H locs cells slots ls C h1 h2 hW hS hl
  subst hL
  exact lv_astore C.1 C.2.1 hd (lh_asl hl) hn rfl (fun ls' hl' => k l p e R s m args below meth c H locs cells slots ls' C h1 h2 hW hS (lh_of1 ok hl'))
theorem j_astore_n {i : Fin 4} {x : Nat} {L' : List (Option Value)} (hd : decode M.2.1 pc = .ok (.astore_n i, 1)) (hn : (i : Nat) < M.2.2.1) (ok : okp L (i : Nat) = true) (hL : L.set (i : Nat) (some (.ref x)) = L') (k : J g M d bc bs (pc + 1) L' st n ad E Φ Ψ) : J g M d bc bs pc L (.ref x :: st) n ad E Φ Ψ := by
  intro l p e R s m args below meth c H locs cells slots ls C h1 h2 hW hS hl
  subst hL
  exact lv_astore_n C.1 C.2.1 hd rfl (lh_asl hl) hn rfl (fun ls' hl' => k l p e R s m args below meth c H locs cells slots ls' C h1 h2 hW hS (lh_of1 ok hl'))
theorem j_iinc {i : Nat} {z : Int} {x v : Int32} {L' : List (Option Value)} (hd : decode M.2.1 pc = .ok (.iinc i z, 3)) (hn : i < M.2.2.1) (hx : L[i]? = some (some (.int x))) (hv : x + Int32.ofInt z = v) (ok : okp L i = true) (hL : L.set i (some (.int v)) = L') (k : J g M d bc bs (pc + 3) L' st n ad E Φ Ψ) : J g M d bc bs pc L st n ad E Φ Ψ := by
  intro l p e R s m args below meth c H locs cells slots ls C h1 h2 hW hS hl
  subst hL
  obtain ⟨j, hj⟩ := List.getElem?_of_mem (asl_mem.mpr hx)
  exact lv_iinc C.1 C.2.1 hd (lh_asl hl) hj hv hn rfl (fun ls' hl' => k l p e R s m args below meth c H locs cells slots ls' C h1 h2 hW hS (lh_of1 ok hl'))
theorem j_iconst {z : Int} {v : Int32} (hd : decode M.2.1 pc = .ok (.iconst z, 1)) (hv : Int32.ofInt z = v) (k : J g M d bc bs (pc + 1) L (.int v :: st) n ad E Φ Ψ) : J g M d bc bs pc L (st) n ad E Φ Ψ := by
  intro l p e R s m args below meth c H locs cells slots ls C h1 h2 hW hS hl
  exact lv_iconst C.1 C.2.1 hd hv (k l p e R s m args below meth c H locs cells slots ls C h1 h2 hW hS hl)
theorem j_bipush {z : Int} {v : Int32} (hd : decode M.2.1 pc = .ok (.bipush z, 2)) (hv : (Int8.ofInt z).toInt32 = v) (k : J g M d bc bs (pc + 2) L (.int v :: st) n ad E Φ Ψ) : J g M d bc bs pc L (st) n ad E Φ Ψ := by
  intro l p e R s m args below meth c H locs cells slots ls C h1 h2 hW hS hl
  exact lv_bipush C.1 C.2.1 hd hv (k l p e R s m args below meth c H locs cells slots ls C h1 h2 hW hS hl)
theorem j_sipush {z : Int} {v : Int32} (hd : decode M.2.1 pc = .ok (.sipush z, 3)) (hv : (Int16.ofInt z).toInt32 = v) (k : J g M d bc bs (pc + 3) L (.int v :: st) n ad E Φ Ψ) : J g M d bc bs pc L (st) n ad E Φ Ψ := by
  intro l p e R s m args below meth c H locs cells slots ls C h1 h2 hW hS hl
  exact lv_sipush C.1 C.2.1 hd hv (k l p e R s m args below meth c H locs cells slots ls C h1 h2 hW hS hl)
theorem j_lconst {z : Fin 2} {v : Int64} (hd : decode M.2.1 pc = .ok (.lconst z, 1)) (hv : Int64.ofNat (z : Nat) = v) (k : J g M d bc bs (pc + 1) L (.long v :: st) n ad E Φ Ψ) : J g M d bc bs pc L (st) n ad E Φ Ψ := by
  intro l p e R s m args below meth c H locs cells slots ls C h1 h2 hW hS hl
  exact lv_lconst C.1 C.2.1 hd hv (k l p e R s m args below meth c H locs cells slots ls C h1 h2 hW hS hl)
theorem j_dconst0  (hd : decode M.2.1 pc = .ok (.dconst 0, 1)) (k : J g M d bc bs (pc + 1) L (.double FP.dconst0 :: st) n ad E Φ Ψ) : J g M d bc bs pc L (st) n ad E Φ Ψ := by
  intro l p e R s m args below meth c H locs cells slots ls C h1 h2 hW hS hl
  exact lv_dconst0 C.1 C.2.1 hd (k l p e R s m args below meth c H locs cells slots ls C h1 h2 hW hS hl)
theorem j_ldc {i : Nat} {v : Int32} (hd : decode M.2.1 pc = .ok (.ldc i, 2)) (hc : Cond.constant M.1.cls i v ∈ TT) (k : J g M d bc bs (pc + 2) L (.int v :: st) n ad E Φ Ψ) : J g M d bc bs pc L (st) n ad E Φ Ψ := by
  intro l p e R s m args below meth c H locs cells slots ls C h1 h2 hW hS hl
  exact lv_ldc C.1 C.2.1 C.2.2.2.2.2.1 (C.2.2.2.2.2.2.1 _ hc) hd (k l p e R s m args below meth c H locs cells slots ls C h1 h2 hW hS hl)
theorem j_ldc2 {i : Nat} {v : Int64} (hd : decode M.2.1 pc = .ok (.ldc2_w i, 3)) (hc : Cond.constantLong M.1.cls i v ∈ TT) (k : J g M d bc bs (pc + 3) L (.long v :: st) n ad E Φ Ψ) : J g M d bc bs pc L (st) n ad E Φ Ψ := by
  intro l p e R s m args below meth c H locs cells slots ls C h1 h2 hW hS hl
  exact lv_ldc2 C.1 C.2.1 C.2.2.2.2.2.1 (C.2.2.2.2.2.2.1 _ hc) hd (k l p e R s m args below meth c H locs cells slots ls C h1 h2 hW hS hl)
theorem j_iadd {x y : Int32} (hd : decode M.2.1 pc = .ok (.iadd, 1)) (k : J g M d bc bs (pc + 1) L (.int (x + y) :: st) n ad E Φ Ψ) : J g M d bc bs pc L (.int y :: .int x :: st) n ad E Φ Ψ := by
  intro l p e R s m args below meth c H locs cells slots ls C h1 h2 hW hS hl
  exact lv_iadd C.1 C.2.1 hd (k l p e R s m args below meth c H locs cells slots ls C h1 h2 hW hS hl)
theorem j_isub {x y : Int32} (hd : decode M.2.1 pc = .ok (.isub, 1)) (k : J g M d bc bs (pc + 1) L (.int (x - y) :: st) n ad E Φ Ψ) : J g M d bc bs pc L (.int y :: .int x :: st) n ad E Φ Ψ := by
  intro l p e R s m args below meth c H locs cells slots ls C h1 h2 hW hS hl
  exact lv_isub C.1 C.2.1 hd (k l p e R s m args below meth c H locs cells slots ls C h1 h2 hW hS hl)
theorem j_imul {x y : Int32} (hd : decode M.2.1 pc = .ok (.imul, 1)) (k : J g M d bc bs (pc + 1) L (.int (x * y) :: st) n ad E Φ Ψ) : J g M d bc bs pc L (.int y :: .int x :: st) n ad E Φ Ψ := by
  intro l p e R s m args below meth c H locs cells slots ls C h1 h2 hW hS hl
  exact lv_imul C.1 C.2.1 hd (k l p e R s m args below meth c H locs cells slots ls C h1 h2 hW hS hl)
theorem j_iand {x y : Int32} (hd : decode M.2.1 pc = .ok (.iand, 1)) (k : J g M d bc bs (pc + 1) L (.int (x &&& y) :: st) n ad E Φ Ψ) : J g M d bc bs pc L (.int y :: .int x :: st) n ad E Φ Ψ := by
  intro l p e R s m args below meth c H locs cells slots ls C h1 h2 hW hS hl
  exact lv_iand C.1 C.2.1 hd (k l p e R s m args below meth c H locs cells slots ls C h1 h2 hW hS hl)
theorem j_irem {x y : Int32} (hd : decode M.2.1 pc = .ok (.irem, 1)) (hne : ¬ y = 0) (k : J g M d bc bs (pc + 1) L (.int (x - x / y * y) :: st) n ad E Φ Ψ) : J g M d bc bs pc L (.int y :: .int x :: st) n ad E Φ Ψ := by
  intro l p e R s m args below meth c H locs cells slots ls C h1 h2 hW hS hl
  exact lv_irem C.1 C.2.1 hd hne (k l p e R s m args below meth c H locs cells slots ls C h1 h2 hW hS hl)
theorem j_ineg {x : Int32} (hd : decode M.2.1 pc = .ok (.ineg, 1)) (k : J g M d bc bs (pc + 1) L (.int (-x) :: st) n ad E Φ Ψ) : J g M d bc bs pc L (.int x :: st) n ad E Φ Ψ := by
  intro l p e R s m args below meth c H locs cells slots ls C h1 h2 hW hS hl
  exact lv_ineg C.1 C.2.1 hd (k l p e R s m args below meth c H locs cells slots ls C h1 h2 hW hS hl)
theorem j_ladd {x y : Int64} (hd : decode M.2.1 pc = .ok (.ladd, 1)) (k : J g M d bc bs (pc + 1) L (.long (x + y) :: st) n ad E Φ Ψ) : J g M d bc bs pc L (.long y :: .long x :: st) n ad E Φ Ψ := by
  intro l p e R s m args below meth c H locs cells slots ls C h1 h2 hW hS hl
  exact lv_ladd C.1 C.2.1 hd (k l p e R s m args below meth c H locs cells slots ls C h1 h2 hW hS hl)
theorem j_lmul {x y : Int64} (hd : decode M.2.1 pc = .ok (.lmul, 1)) (k : J g M d bc bs (pc + 1) L (.long (x * y) :: st) n ad E Φ Ψ) : J g M d bc bs pc L (.long y :: .long x :: st) n ad E Φ Ψ := by
  intro l p e R s m args below meth c H locs cells slots ls C h1 h2 hW hS hl
  exact lv_lmul C.1 C.2.1 hd (k l p e R s m args below meth c H locs cells slots ls C h1 h2 hW hS hl)
theorem j_i2l {x : Int32} (hd : decode M.2.1 pc = .ok (.i2l, 1)) (k : J g M d bc bs (pc + 1) L (.long x.toInt64 :: st) n ad E Φ Ψ) : J g M d bc bs pc L (.int x :: st) n ad E Φ Ψ := by
  intro l p e R s m args below meth c H locs cells slots ls C h1 h2 hW hS hl
  exact lv_i2l C.1 C.2.1 hd rfl (k l p e R s m args below meth c H locs cells slots ls C h1 h2 hW hS hl)
theorem j_l2d {x : Int64} (hd : decode M.2.1 pc = .ok (.l2d, 1)) (k : J g M d bc bs (pc + 1) L (.double (FP.l2d x) :: st) n ad E Φ Ψ) : J g M d bc bs pc L (.long x :: st) n ad E Φ Ψ := by
  intro l p e R s m args below meth c H locs cells slots ls C h1 h2 hW hS hl
  exact lv_l2d C.1 C.2.1 hd (k l p e R s m args below meth c H locs cells slots ls C h1 h2 hW hS hl)
theorem j_i2d {x : Int32} (hd : decode M.2.1 pc = .ok (.i2d, 1)) (k : J g M d bc bs (pc + 1) L (.double (FP.i2d x) :: st) n ad E Φ Ψ) : J g M d bc bs pc L (.int x :: st) n ad E Φ Ψ := by
  intro l p e R s m args below meth c H locs cells slots ls C h1 h2 hW hS hl
  exact lv_i2d C.1 C.2.1 hd (k l p e R s m args below meth c H locs cells slots ls C h1 h2 hW hS hl)
theorem j_ddiv {x y : UInt64} (hd : decode M.2.1 pc = .ok (.ddiv, 1)) (hne : vf_n64 (FP.ddiv x y)) (k : J g M d bc bs (pc + 1) L (.double (FP.ddiv x y) :: st) n ad E Φ Ψ) : J g M d bc bs pc L (.double y :: .double x :: st) n ad E Φ Ψ := by
  intro l p e R s m args below meth c H locs cells slots ls C h1 h2 hW hS hl
  exact lv_ddiv C.1 C.2.1 hd hne (k l p e R s m args below meth c H locs cells slots ls C h1 h2 hW hS hl)
theorem j_lcmp {x y : Int64} (hd : decode M.2.1 pc = .ok (.lcmp, 1)) (k : J g M d bc bs (pc + 1) L (.int (lg_cmp x y) :: st) n ad E Φ Ψ) : J g M d bc bs pc L (.long y :: .long x :: st) n ad E Φ Ψ := by
  intro l p e R s m args below meth c H locs cells slots ls C h1 h2 hW hS hl
  exact W.lcmp C.1 C.2.1 hd (k l p e R s m args below meth c H locs cells slots ls C h1 h2 hW hS hl)
theorem j_dcmp {x y : UInt64} {op : CmpOp} (hd : decode M.2.1 pc = .ok (.dcmp op, 1)) (k : J g M d bc bs (pc + 1) L (.int (Op.cmpValue (FP.dcmp x y) op) :: st) n ad E Φ Ψ) : J g M d bc bs pc L (.double y :: .double x :: st) n ad E Φ Ψ := by
  intro l p e R s m args below meth c H locs cells slots ls C h1 h2 hW hS hl
  exact lv_dcmp C.1 C.2.1 hd (k l p e R s m args below meth c H locs cells slots ls C h1 h2 hW hS hl)
theorem j_dup {v : Value} (hd : decode M.2.1 pc = .ok (.dup, 1)) (hv : v.category = 1) (k : J g M d bc bs (pc + 1) L (v :: v :: st) n ad E Φ Ψ) : J g M d bc bs pc L (v :: st) n ad E Φ Ψ := by
  intro l p e R s m args below meth c H locs cells slots ls C h1 h2 hW hS hl
  exact lv_dup C.1 C.2.1 hd hv (k l p e R s m args below meth c H locs cells slots ls C h1 h2 hW hS hl)
theorem j_dup2 {v w : Value} (hd : decode M.2.1 pc = .ok (.dup2, 1)) (hv : v.category = 1) (hw : w.category = 1) (k : J g M d bc bs (pc + 1) L (v :: w :: v :: w :: st) n ad E Φ Ψ) : J g M d bc bs pc L (v :: w :: st) n ad E Φ Ψ := by
  intro l p e R s m args below meth c H locs cells slots ls C h1 h2 hW hS hl
  exact lv_dup2_11 C.1 C.2.1 hd hv hw (k l p e R s m args below meth c H locs cells slots ls C h1 h2 hW hS hl)
theorem j_pop {v : Value} (hd : decode M.2.1 pc = .ok (.pop, 1)) (hv : v.category = 1) (k : J g M d bc bs (pc + 1) L (st) n ad E Φ Ψ) : J g M d bc bs pc L (v :: st) n ad E Φ Ψ := by
  intro l p e R s m args below meth c H locs cells slots ls C h1 h2 hW hS hl
  exact lv_pop C.1 C.2.1 hd hv (k l p e R s m args below meth c H locs cells slots ls C h1 h2 hW hS hl)
theorem j_if_eq {x : Int32} {off : Int} {tgt : Nat} (hd : decode M.2.1 pc = .ok (.ifCond .eq off, 3)) (ht : (pc : Int) + off = (tgt : Int)) (kt : x = 0 → J g M d bc bs tgt L st n ad E Φ Ψ) (kf : ¬ x = 0 → J g M d bc bs (pc + 3) L st n ad E Φ Ψ) : J g M d bc bs pc L (.int x :: st) n ad E Φ Ψ := by
  intro l p e R s m args below meth c H locs cells slots ls C h1 h2 hW hS hl
  exact lv_if_eq C.1 C.2.1 hd ht (fun q => kt q l p e R s m args below meth c H locs cells slots ls C h1 h2 hW hS hl) (fun q => kf q l p e R s m args below meth c H locs cells slots ls C h1 h2 hW hS hl)
theorem j_if_eq_t {x : Int32} {off : Int} {tgt : Nat} (hd : decode M.2.1 pc = .ok (.ifCond .eq off, 3)) (ht : (pc : Int) + off = (tgt : Int)) (h : x = 0) (kt : J g M d bc bs tgt L st n ad E Φ Ψ) : J g M d bc bs pc L (.int x :: st) n ad E Φ Ψ := j_if_eq hd ht (fun _ => kt) (fun q => absurd h q)
theorem j_if_eq_f {x : Int32} {off : Int} {tgt : Nat} (hd : decode M.2.1 pc = .ok (.ifCond .eq off, 3)) (ht : (pc : Int) + off = (tgt : Int)) (h : ¬ x = 0) (kf : J g M d bc bs (pc + 3) L st n ad E Φ Ψ) : J g M d bc bs pc L (.int x :: st) n ad E Φ Ψ := j_if_eq hd ht (fun q => absurd q h) (fun _ => kf)
theorem j_icmp_eq {x y : Int32} {off : Int} {tgt : Nat} (hd : decode M.2.1 pc = .ok (.if_icmp .eq off, 3)) (ht : (pc : Int) + off = (tgt : Int)) (kt : x = y → J g M d bc bs tgt L st n ad E Φ Ψ) (kf : ¬ x = y → J g M d bc bs (pc + 3) L st n ad E Φ Ψ) : J g M d bc bs pc L (.int y :: .int x :: st) n ad E Φ Ψ := by
  intro l p e R s m args below meth c H locs cells slots ls C h1 h2 hW hS hl
  exact lv_icmp_eq C.1 C.2.1 hd ht (fun q => kt q l p e R s m args below meth c H locs cells slots ls C h1 h2 hW hS hl) (fun q => kf q l p e R s m args below meth c H locs cells slots ls C h1 h2 hW hS hl)
theorem j_icmp_eq_t {x y : Int32} {off : Int} {tgt : Nat} (hd : decode M.2.1 pc = .ok (.if_icmp .eq off, 3)) (ht : (pc : Int) + off = (tgt : Int)) (h : x = y) (kt : J g M d bc bs tgt L st n ad E Φ Ψ) : J g M d bc bs pc L (.int y :: .int x :: st) n ad E Φ Ψ := j_icmp_eq hd ht (fun _ => kt) (fun q => absurd h q)
theorem j_icmp_eq_f {x y : Int32} {off : Int} {tgt : Nat} (hd : decode M.2.1 pc = .ok (.if_icmp .eq off, 3)) (ht : (pc : Int) + off = (tgt : Int)) (h : ¬ x = y) (kf : J g M d bc bs (pc + 3) L st n ad E Φ Ψ) : J g M d bc bs pc L (.int y :: .int x :: st) n ad E Φ Ψ := j_icmp_eq hd ht (fun q => absurd q h) (fun _ => kf)
theorem j_if_ne {x : Int32} {off : Int} {tgt : Nat} (hd : decode M.2.1 pc = .ok (.ifCond .ne off, 3)) (ht : (pc : Int) + off = (tgt : Int)) (kt : ¬ x = 0 → J g M d bc bs tgt L st n ad E Φ Ψ) (kf : x = 0 → J g M d bc bs (pc + 3) L st n ad E Φ Ψ) : J g M d bc bs pc L (.int x :: st) n ad E Φ Ψ := by
  intro l p e R s m args below meth c H locs cells slots ls C h1 h2 hW hS hl
  exact lv_if_ne C.1 C.2.1 hd ht (fun q => kt q l p e R s m args below meth c H locs cells slots ls C h1 h2 hW hS hl) (fun q => kf q l p e R s m args below meth c H locs cells slots ls C h1 h2 hW hS hl)
theorem j_if_ne_t {x : Int32} {off : Int} {tgt : Nat} (hd : decode M.2.1 pc = .ok (.ifCond .ne off, 3)) (ht : (pc : Int) + off = (tgt : Int)) (h : ¬ x = 0) (kt : J g M d bc bs tgt L st n ad E Φ Ψ) : J g M d bc bs pc L (.int x :: st) n ad E Φ Ψ := j_if_ne hd ht (fun _ => kt) (fun q => absurd q h)
theorem j_if_ne_f {x : Int32} {off : Int} {tgt : Nat} (hd : decode M.2.1 pc = .ok (.ifCond .ne off, 3)) (ht : (pc : Int) + off = (tgt : Int)) (h : x = 0) (kf : J g M d bc bs (pc + 3) L st n ad E Φ Ψ) : J g M d bc bs pc L (.int x :: st) n ad E Φ Ψ := j_if_ne hd ht (fun q => absurd h q) (fun _ => kf)
theorem j_icmp_ne {x y : Int32} {off : Int} {tgt : Nat} (hd : decode M.2.1 pc = .ok (.if_icmp .ne off, 3)) (ht : (pc : Int) + off = (tgt : Int)) (kt : ¬ x = y → J g M d bc bs tgt L st n ad E Φ Ψ) (kf : x = y → J g M d bc bs (pc + 3) L st n ad E Φ Ψ) : J g M d bc bs pc L (.int y :: .int x :: st) n ad E Φ Ψ := by
  intro l p e R s m args below meth c H locs cells slots ls C h1 h2 hW hS hl
  exact lv_icmp_ne C.1 C.2.1 hd ht (fun q => kt q l p e R s m args below meth c H locs cells slots ls C h1 h2 hW hS hl) (fun q => kf q l p e R s m args below meth c H locs cells slots ls C h1 h2 hW hS hl)
theorem j_icmp_ne_t {x y : Int32} {off : Int} {tgt : Nat} (hd : decode M.2.1 pc = .ok (.if_icmp .ne off, 3)) (ht : (pc : Int) + off = (tgt : Int)) (h : ¬ x = y) (kt : J g M d bc bs tgt L st n ad E Φ Ψ) : J g M d bc bs pc L (.int y :: .int x :: st) n ad E Φ Ψ := j_icmp_ne hd ht (fun _ => kt) (fun q => absurd q h)
theorem j_icmp_ne_f {x y : Int32} {off : Int} {tgt : Nat} (hd : decode M.2.1 pc = .ok (.if_icmp .ne off, 3)) (ht : (pc : Int) + off = (tgt : Int)) (h : x = y) (kf : J g M d bc bs (pc + 3) L st n ad E Φ Ψ) : J g M d bc bs pc L (.int y :: .int x :: st) n ad E Φ Ψ := j_icmp_ne hd ht (fun q => absurd h q) (fun _ => kf)
theorem j_if_lt {x : Int32} {off : Int} {tgt : Nat} (hd : decode M.2.1 pc = .ok (.ifCond .lt off, 3)) (ht : (pc : Int) + off = (tgt : Int)) (kt : x < 0 → J g M d bc bs tgt L st n ad E Φ Ψ) (kf : ¬ x < 0 → J g M d bc bs (pc + 3) L st n ad E Φ Ψ) : J g M d bc bs pc L (.int x :: st) n ad E Φ Ψ := by
  intro l p e R s m args below meth c H locs cells slots ls C h1 h2 hW hS hl
  exact lv_if_lt C.1 C.2.1 hd ht (fun q => kt q l p e R s m args below meth c H locs cells slots ls C h1 h2 hW hS hl) (fun q => kf q l p e R s m args below meth c H locs cells slots ls C h1 h2 hW hS hl)
theorem j_if_lt_t {x : Int32} {off : Int} {tgt : Nat} (hd : decode M.2.1 pc = .ok (.ifCond .lt off, 3)) (ht : (pc : Int) + off = (tgt : Int)) (h : x < 0) (kt : J g M d bc bs tgt L st n ad E Φ Ψ) : J g M d bc bs pc L (.int x :: st) n ad E Φ Ψ := j_if_lt hd ht (fun _ => kt) (fun q => absurd h q)
theorem j_if_lt_f {x : Int32} {off : Int} {tgt : Nat} (hd : decode M.2.1 pc = .ok (.ifCond .lt off, 3)) (ht : (pc : Int) + off = (tgt : Int)) (h : ¬ x < 0) (kf : J g M d bc bs (pc + 3) L st n ad E Φ Ψ) : J g M d bc bs pc L (.int x :: st) n ad E Φ Ψ := j_if_lt hd ht (fun q => absurd q h) (fun _ => kf)
theorem j_icmp_lt {x y : Int32} {off : Int} {tgt : Nat} (hd : decode M.2.1 pc = .ok (.if_icmp .lt off, 3)) (ht : (pc : Int) + off = (tgt : Int)) (kt : x < y → J g M d bc bs tgt L st n ad E Φ Ψ) (kf : ¬ x < y → J g M d bc bs (pc + 3) L st n ad E Φ Ψ) : J g M d bc bs pc L (.int y :: .int x :: st) n ad E Φ Ψ := by
  intro l p e R s m args below meth c H locs cells slots ls C h1 h2 hW hS hl
  exact lv_icmp_lt C.1 C.2.1 hd ht (fun q => kt q l p e R s m args below meth c H locs cells slots ls C h1 h2 hW hS hl) (fun q => kf q l p e R s m args below meth c H locs cells slots ls C h1 h2 hW hS hl)
theorem j_icmp_lt_t {x y : Int32} {off : Int} {tgt : Nat} (hd : decode M.2.1 pc = .ok (.if_icmp .lt off, 3)) (ht : (pc : Int) + off = (tgt : Int)) (h : x < y) (kt : J g M d bc bs tgt L st n ad E Φ Ψ) : J g M d bc bs pc L (.int y :: .int x :: st) n ad E Φ Ψ := j_icmp_lt hd ht (fun _ => kt) (fun q => absurd h q)
theorem j_icmp_lt_f {x y : Int32} {off : Int} {tgt : Nat} (hd : decode M.2.1 pc = .ok (.if_icmp .lt off, 3)) (ht : (pc : Int) + off = (tgt : Int)) (h : ¬ x < y) (kf : J g M d bc bs (pc + 3) L st n ad E Φ Ψ) : J g M d bc bs pc L (.int y :: .int x :: st) n ad E Φ Ψ := j_icmp_lt hd ht (fun q => absurd q h) (fun _ => kf)
theorem j_if_ge {x : Int32} {off : Int} {tgt : Nat} (hd : decode M.2.1 pc = .ok (.ifCond .ge off, 3)) (ht : (pc : Int) + off = (tgt : Int)) (kt : 0 ≤ x → J g M d bc bs tgt L st n ad E Φ Ψ) (kf : ¬ 0 ≤ x → J g M d bc bs (pc + 3) L st n ad E Φ Ψ) : J g M d bc bs pc L (.int x :: st) n ad E Φ Ψ := by
  intro l p e R s m args below meth c H locs cells slots ls C h1 h2 hW hS hl
  exact lv_if_ge C.1 C.2.1 hd ht (fun q => kt q l p e R s m args below meth c H locs cells slots ls C h1 h2 hW hS hl) (fun q => kf q l p e R s m args below meth c H locs cells slots ls C h1 h2 hW hS hl)
theorem j_if_ge_t {x : Int32} {off : Int} {tgt : Nat} (hd : decode M.2.1 pc = .ok (.ifCond .ge off, 3)) (ht : (pc : Int) + off = (tgt : Int)) (h : 0 ≤ x) (kt : J g M d bc bs tgt L st n ad E Φ Ψ) : J g M d bc bs pc L (.int x :: st) n ad E Φ Ψ := j_if_ge hd ht (fun _ => kt) (fun q => absurd h q)
theorem j_if_ge_f {x : Int32} {off : Int} {tgt : Nat} (hd : decode M.2.1 pc = .ok (.ifCond .ge off, 3)) (ht : (pc : Int) + off = (tgt : Int)) (h : ¬ 0 ≤ x) (kf : J g M d bc bs (pc + 3) L st n ad E Φ Ψ) : J g M d bc bs pc L (.int x :: st) n ad E Φ Ψ := j_if_ge hd ht (fun q => absurd q h) (fun _ => kf)
theorem j_icmp_ge {x y : Int32} {off : Int} {tgt : Nat} (hd : decode M.2.1 pc = .ok (.if_icmp .ge off, 3)) (ht : (pc : Int) + off = (tgt : Int)) (kt : y ≤ x → J g M d bc bs tgt L st n ad E Φ Ψ) (kf : ¬ y ≤ x → J g M d bc bs (pc + 3) L st n ad E Φ Ψ) : J g M d bc bs pc L (.int y :: .int x :: st) n ad E Φ Ψ := by
  intro l p e R s m args below meth c H locs cells slots ls C h1 h2 hW hS hl
  exact lv_icmp_ge C.1 C.2.1 hd ht (fun q => kt q l p e R s m args below meth c H locs cells slots ls C h1 h2 hW hS hl) (fun q => kf q l p e R s m args below meth c H locs cells slots ls C h1 h2 hW hS hl)
theorem j_icmp_ge_t {x y : Int32} {off : Int} {tgt : Nat} (hd : decode M.2.1 pc = .ok (.if_icmp .ge off, 3)) (ht : (pc : Int) + off = (tgt : Int)) (h : y ≤ x) (kt : J g M d bc bs tgt L st n ad E Φ Ψ) : J g M d bc bs pc L (.int y :: .int x :: st) n ad E Φ Ψ := j_icmp_ge hd ht (fun _ => kt) (fun q => absurd h q)
theorem j_icmp_ge_f {x y : Int32} {off : Int} {tgt : Nat} (hd : decode M.2.1 pc = .ok (.if_icmp .ge off, 3)) (ht : (pc : Int) + off = (tgt : Int)) (h : ¬ y ≤ x) (kf : J g M d bc bs (pc + 3) L st n ad E Φ Ψ) : J g M d bc bs pc L (.int y :: .int x :: st) n ad E Φ Ψ := j_icmp_ge hd ht (fun q => absurd q h) (fun _ => kf)
theorem j_if_gt {x : Int32} {off : Int} {tgt : Nat} (hd : decode M.2.1 pc = .ok (.ifCond .gt off, 3)) (ht : (pc : Int) + off = (tgt : Int)) (kt : 0 < x → J g M d bc bs tgt L st n ad E Φ Ψ) (kf : ¬ 0 < x → J g M d bc bs (pc + 3) L st n ad E Φ Ψ) : J g M d bc bs pc L (.int x :: st) n ad E Φ Ψ := by
  intro l p e R s m args below meth c H locs cells slots ls C h1 h2 hW hS hl
  exact lv_if_gt C.1 C.2.1 hd ht (fun q => kt q l p e R s m args below meth c H locs cells slots ls C h1 h2 hW hS hl) (fun q => kf q l p e R s m args below meth c H locs cells slots ls C h1 h2 hW hS hl)
theorem j_if_gt_t {x : Int32} {off : Int} {tgt : Nat} (hd : decode M.2.1 pc = .ok (.ifCond .gt off, 3)) (ht : (pc : Int) + off = (tgt : Int)) (h : 0 < x) (kt : J g M d bc bs tgt L st n ad E Φ Ψ) : J g M d bc bs pc L (.int x :: st) n ad E Φ Ψ := j_if_gt hd ht (fun _ => kt) (fun q => absurd h q)
theorem j_if_gt_f {x : Int32} {off : Int} {tgt : Nat} (hd : decode M.2.1 pc = .ok (.ifCond .gt off, 3)) (ht : (pc : Int) + off = (tgt : Int)) (h : ¬ 0 < x) (kf : J g M d bc bs (pc + 3) L st n ad E Φ Ψ) : J g M d bc bs pc L (.int x :: st) n ad E Φ Ψ := j_if_gt hd ht (fun q => absurd q h) (fun _ => kf)
theorem j_icmp_gt {x y : Int32} {off : Int} {tgt : Nat} (hd : decode M.2.1 pc = .ok (.if_icmp .gt off, 3)) (ht : (pc : Int) + off = (tgt : Int)) (kt : y < x → J g M d bc bs tgt L st n ad E Φ Ψ) (kf : ¬ y < x → J g M d bc bs (pc + 3) L st n ad E Φ Ψ) : J g M d bc bs pc L (.int y :: .int x :: st) n ad E Φ Ψ := by
  intro l p e R s m args below meth c H locs cells slots ls C h1 h2 hW hS hl
  exact lv_icmp_gt C.1 C.2.1 hd ht (fun q => kt q l p e R s m args below meth c H locs cells slots ls C h1 h2 hW hS hl) (fun q => kf q l p e R s m args below meth c H locs cells slots ls C h1 h2 hW hS hl)
theorem j_icmp_gt_t {x y : Int32} {off : Int} {tgt : Nat} (hd : decode M.2.1 pc = .ok (.if_icmp .gt off, 3)) (ht : (pc : Int) + off = (tgt : Int)) (h : y < x) (kt : J g M d bc bs tgt L st n ad E Φ Ψ) : J g M d bc bs pc L (.int y :: .int x :: st) n ad E Φ Ψ := j_icmp_gt hd ht (fun _ => kt) (fun q => absurd h q)
theorem j_icmp_gt_f {x y : Int32} {off : Int} {tgt : Nat} (hd : decode M.2.1 pc = .ok (.if_icmp .gt off, 3)) (ht : (pc : Int) + off = (tgt : Int)) (h : ¬ y < x) (kf : J g M d bc bs (pc + 3) L st n ad E Φ Ψ) : J g M d bc bs pc L (.int y :: .int x :: st) n ad E Φ Ψ := j_icmp_gt hd ht (fun q => absurd q h) (fun _ => kf)
theorem j_if_le {x : Int32} {off : Int} {tgt : Nat} (hd : decode M.2.1 pc = .ok (.ifCond .le off, 3)) (ht : (pc : Int) + off = (tgt : Int)) (kt : x ≤ 0 → J g M d bc bs tgt L st n ad E Φ Ψ) (kf : ¬ x ≤ 0 → J g M d bc bs (pc + 3) L st n ad E Φ Ψ) : J g M d bc bs pc L (.int x :: st) n ad E Φ Ψ := by
  intro l p e R s m args below meth c H locs cells slots ls C h1 h2 hW hS hl
  exact lv_if_le C.1 C.2.1 hd ht (fun q => kt q l p e R s m args below meth c H locs cells slots ls C h1 h2 hW hS hl) (fun q => kf q l p e R s m args below meth c H locs cells slots ls C h1 h2 hW hS hl)
theorem j_if_le_t {x : Int32} {off : Int} {tgt : Nat} (hd : decode M.2.1 pc = .ok (.ifCond .le off, 3)) (ht : (pc : Int) + off = (tgt : Int)) (h : x ≤ 0) (kt : J g M d bc bs tgt L st n ad E Φ Ψ) : J g M d bc bs pc L (.int x :: st) n ad E Φ Ψ := j_if_le hd ht (fun _ => kt) (fun q => absurd h q)
theorem j_if_le_f {x : Int32} {off : Int} {tgt : Nat} (hd : decode M.2.1 pc = .ok (.ifCond .le off, 3)) (ht : (pc : Int) + off = (tgt : Int)) (h : ¬ x ≤ 0) (kf : J g M d bc bs (pc + 3) L st n ad E Φ Ψ) : J g M d bc bs pc L (.int x :: st) n ad E Φ Ψ := j_if_le hd ht (fun q => absurd q h) (fun _ => kf)
theorem j_icmp_le {x y : Int32} {off : Int} {tgt : Nat} (hd : decode M.2.1 pc = .ok (.if_icmp .le off, 3)) (ht : (pc : Int) + off = (tgt : Int)) (kt : x ≤ y → J g M d bc bs tgt L st n ad E Φ Ψ) (kf : ¬ x ≤ y → J g M d bc bs (pc + 3) L st n ad E Φ Ψ) : J g M d bc bs pc L (.int y :: .int x :: st) n ad E Φ Ψ := by
  intro l p e R s m args below meth c H locs cells slots ls C h1 h2 hW hS hl
  exact lv_icmp_le C.1 C.2.1 hd ht (fun q => kt q l p e R s m args below meth c H locs cells slots ls C h1 h2 hW hS hl) (fun q => kf q l p e R s m args below meth c H locs cells slots ls C h1 h2 hW hS hl)
theorem j_icmp_le_t {x y : Int32} {off : Int} {tgt : Nat} (hd : decode M.2.1 pc = .ok (.if_icmp .le off, 3)) (ht : (pc : Int) + off = (tgt : Int)) (h : x ≤ y) (kt : J g M d bc bs tgt L st n ad E Φ Ψ) : J g M d bc bs pc L (.int y :: .int x :: st) n ad E Φ Ψ := j_icmp_le hd ht (fun _ => kt) (fun q => absurd h q)
theorem j_icmp_le_f {x y : Int32} {off : Int} {tgt : Nat} (hd : decode M.2.1 pc = .ok (.if_icmp .le off, 3)) (ht : (pc : Int) + off = (tgt : Int)) (h : ¬ x ≤ y) (kf : J g M d bc bs (pc + 3) L st n ad E Φ Ψ) : J g M d bc bs pc L (.int y :: .int x :: st) n ad E Φ Ψ := j_icmp_le hd ht (fun q => absurd q h) (fun _ => kf)
theorem j_goto {off : Int} {tgt : Nat} (hd : decode M.2.1 pc = .ok (.goto off, 3)) (ht : (pc : Int) + off = (tgt : Int)) (k : J g M d bc bs tgt L st n ad E Φ Ψ) : J g M d bc bs pc L st n ad E Φ Ψ := by
  intro l p e R s m args below meth c H locs cells slots ls C h1 h2 hW hS hl
  exact lv_goto C.1 C.2.1 hd ht (k l p e R s m args below meth c H locs cells slots ls C h1 h2 hW hS hl)
theorem j_tableIn {dflt lo hi : Int} {offs : Array Int} {len : Nat} {x : Int32} {off : Int} {tgt : Nat} (hd : decode M.2.1 pc = .ok (.tableswitch dflt lo hi offs, len)) (q1 : ¬ x.toInt < lo) (q2 : ¬ hi < x.toInt) (ho : offs[(x.toInt - lo).toNat]? = some off) (ht : (pc : Int) + off = (tgt : Int)) (k : J g M d bc bs tgt L st n ad E Φ Ψ) : J g M d bc bs pc L (.int x :: st) n ad E Φ Ψ := by
  intro l p e R s m args below meth c H locs cells slots ls C h1 h2 hW hS hl
  exact lv_tableIn C.1 C.2.1 hd q1 q2 ho ht (k l p e R s m args below meth c H locs cells slots ls C h1 h2 hW hS hl)
theorem j_tableOut {dflt lo hi : Int} {offs : Array Int} {len : Nat} {x : Int32} {tgt : Nat} (hd : decode M.2.1 pc = .ok (.tableswitch dflt lo hi offs, len)) (q1 : x.toInt < lo ∨ hi < x.toInt) (ht : (pc : Int) + dflt = (tgt : Int)) (k : J g M d bc bs tgt L st n ad E Φ Ψ) : J g M d bc bs pc L (.int x :: st) n ad E Φ Ψ := by
  intro l p e R s m args below meth c H locs cells slots ls C h1 h2 hW hS hl
  exact lv_tableOut C.1 C.2.1 hd q1 ht (k l p e R s m args below meth c H locs cells slots ls C h1 h2 hW hS hl)
theorem j_topi {x y : Int32} (h : x = y) (k : J g M d bc bs pc L (.int y :: st) n ad E Φ Ψ) : J g M d bc bs pc L (.int x :: st) n ad E Φ Ψ := h ▸ k
theorem j_topl {x y : Int64} (h : x = y) (k : J g M d bc bs pc L (.long y :: st) n ad E Φ Ψ) : J g M d bc bs pc L (.long x :: st) n ad E Φ Ψ := h ▸ k
theorem j_world {E' : Nat → va_E} (h : ∀ k, k < n → E k = E' k) (k : J g M d bc bs pc L st n ad E' Φ Ψ) : J g M d bc bs pc L st n ad E Φ Ψ := by
  intro l p e R s m args below meth c H locs cells slots ls C h1 h2 hW hS hl
  exact k l p e R s m args below meth c H locs cells slots ls C h1 h2 (hW.congr (fun _ _ => rfl) h) hS hl
theorem j_drop {n' : Nat} (h : n' ≤ n) (k : J g M d bc bs pc L st n' ad E Φ Ψ) : J g M d bc bs pc L st n ad E Φ Ψ := by
  intro l p e R s m args below meth c H locs cells slots ls C h1 h2 hW hS hl
  exact k l p e R s m args below meth c H locs cells slots ls C h1 h2 (hW.less h) hS hl
theorem j_bud {bc' bs' : Nat} (q1 : bc' ≤ bc) (q2 : bs' ≤ bs) (k : J g M d bc' bs' pc L st n ad E Φ Ψ) : J g M d bc bs pc L st n ad E Φ Ψ := by
  intro l p e R s m args below meth c H locs cells slots ls C h1 h2 hW hS hl
  exact k l p e R s m args below meth c H locs cells slots ls C (by omega) (by omega) hW hS hl
theorem j_dep {d' : Nat} (q : d' ≤ d) (k : J g M d' bc bs pc L st n ad E Φ Ψ) : J g M d bc bs pc L st n ad E Φ Ψ := by
  intro l p e R s m args below meth c H locs cells slots ls C h1 h2 hW hS hl
  obtain ⟨c1, c2, c3, c4, c5, c6, c7, c8, c9, c10, c11, c12, c13⟩ := C
  exact k l p e R s m args below meth c H locs cells slots ls ⟨c1, c2, c3, c4, c5, c6, c7, c8, c9, c10, by omega, by omega, c13⟩ h1 h2 hW hS hl
theorem j_locals {L' : List (Option Value)} (h : ∀ (i : Nat) (v : Value), L'[i]? = some (some v) → L[i]? = some (some v)) (k : J g M d bc bs pc L' st n ad E Φ Ψ) : J g M d bc bs pc L st n ad E Φ Ψ := by
  intro l p e R s m args below meth c H locs cells slots ls C h1 h2 hW hS hl
  exact k l p e R s m args below meth c H locs cells slots ls C h1 h2 hW hS (lh_sub hl h)
theorem j_post {Φ' : Option Value → jR} {Ψ' : String → jR} (q1 : ∀ v n ad E, Φ' v n ad E → Φ v n ad E) (q2 : ∀ x n ad E, Ψ' x n ad E → Ψ x n ad E) (k : J g M d bc bs pc L st n ad E Φ' Ψ') : J g M d bc bs pc L st n ad E Φ Ψ := by
  intro l p e R s m args below meth c H locs cells slots ls C h1 h2 hW hS hl T hT X
  obtain ⟨t, a1, oc, b1, b2, b3⟩ := k l p e R s m args below meth c H locs cells slots ls C h1 h2 hW hS hl T hT X
  refine ⟨t, a1, oc, b1, b2, ?_⟩
  rcases b3 with ⟨⟨⟨v, n', ad', E', e1, e2, e3⟩, hF⟩, hL⟩ | ⟨q, e0, X0, ce, L0, ⟨⟨n', ad', E', e2, e3⟩, hF⟩, hr⟩
  · exact Or.inl ⟨⟨⟨v, n', ad', E', e1, q1 _ _ _ _ e2, e3⟩, hF⟩, hL⟩
  · exact Or.inr ⟨q, e0, X0, ce, L0, ⟨⟨n', ad', E', q2 _ _ _ _ e2, e3⟩, hF⟩, hr⟩
/-- two places of the world have two addresses -/
theorem j_inj (h : (∀ i j, i < n → j < n → ad i = ad j → i = j) → J g M d bc bs pc L st n ad E Φ Ψ) : J g M d bc bs pc L st n ad E Φ Ψ := by
  intro l p e R s m args below meth c H locs cells slots ls C h1 h2 hW hS hl
  exact h (fun i j hi hj q => hW.inj hi hj q) l p e R s m args below meth c H locs cells slots ls C h1 h2 hW hS hl
theorem j_iret {v : Int32} (hd : decode M.2.1 pc = .ok (.ireturn, 1)) (hr : M.2.2.2.1 = some .int) (h : Φ (some (.int v)) n ad E) : J g M d bc bs pc L [.int v] n ad E Φ Ψ := by
  intro l p e R s m args below meth c H locs cells slots ls C h1 h2 hW hS hl
  refine vx_ret (W.widen (k := R.cells) (n := R.slots) (by omega) (by omega) ?_)
  exact W.iret C.1 C.2.1 (C.2.2.2.1.trans hr) (fun t ht hq => ⟨⟨_, _, _, _, rfl, h, by rw [ht]; exact hW⟩, hS.F ht⟩) hS.2.2 hd C.2.2.2.2.1
theorem j_lret {v : Int64} (hd : decode M.2.1 pc = .ok (.lreturn, 1)) (hr : M.2.2.2.1 = some .long) (h : Φ (some (.long v)) n ad E) : J g M d bc bs pc L [.long v] n ad E Φ Ψ := by
  intro l p e R s m args below meth c H locs cells slots ls C h1 h2 hW hS hl
  refine vx_ret (W.widen (k := R.cells) (n := R.slots) (by omega) (by omega) ?_)
  exact W.lret C.1 C.2.1 (C.2.2.2.1.trans hr) (fun t ht hq => ⟨⟨_, _, _, _, rfl, h, by rw [ht]; exact hW⟩, hS.F ht⟩) hS.2.2 hd C.2.2.2.2.1
theorem j_dret {v : UInt64} (hd : decode M.2.1 pc = .ok (.dreturn, 1)) (hr : M.2.2.2.1 = some .double) (h : Φ (some (.double v)) n ad E) : J g M d bc bs pc L [.double v] n ad E Φ Ψ := by
  intro l p e R s m args below meth c H locs cells slots ls C h1 h2 hW hS hl
  refine vx_ret (W.widen (k := R.cells) (n := R.slots) (by omega) (by omega) ?_)
  exact W.dret C.1 C.2.1 (C.2.2.2.1.trans hr) (fun t ht hq => ⟨⟨_, _, _, _, rfl, h, by rw [ht]; exact hW⟩, hS.F ht⟩) hS.2.2 hd C.2.2.2.2.1
theorem j_zret {v : Int32} (hd : decode M.2.1 pc = .ok (.ireturn, 1)) (hr : M.2.2.2.1 = some .boolean) (hn : narrow .boolean (.int v) = .int v) (h : Φ (some (.int v)) n ad E) : J g M d bc bs pc L [.int v] n ad E Φ Ψ := by
  intro l p e R s m args below meth c H locs cells slots ls C h1 h2 hW hS hl
  refine vx_ret (W.widen (k := R.cells) (n := R.slots) (by omega) (by omega) ?_)
  exact W.zret C.1 C.2.1 (C.2.2.2.1.trans hr) hn (fun t ht hq => ⟨⟨_, _, _, _, rfl, h, by rw [ht]; exact hW⟩, hS.F ht⟩) hS.2.2 hd C.2.2.2.2.1
theorem j_vret (hd : decode M.2.1 pc = .ok (.return_, 1)) (hr : M.2.2.2.1 = none) (h : Φ none n ad E) : J g M d bc bs pc L [] n ad E Φ Ψ := by
  intro l p e R s m args below meth c H locs cells slots ls C h1 h2 hW hS hl
  refine vx_ret (W.widen (k := R.cells) (n := R.slots) (by omega) (by omega) ?_)
  exact W.vret C.1 C.2.1 (C.2.2.2.1.trans hr) (fun t ht hq => ⟨⟨_, _, _, _, rfl, h, by rw [ht]; exact hW⟩, hS.F ht⟩) hS.2.2 hd C.2.2.2.2.1
/-- what a getfield or putfield of own's pool entry idx means: field i of the objects of class ci -/
def jFl (own : String) (idx : Nat) (C : String) (T : u_T) (N ci i : Nat) : Prop := vwCl[ci]? = some (C, T, N) ∧ i < N ∧ (∀ w ∈ u_ws C T N, w ∈ TT) ∧ (Cond.fieldLink own idx (T i).1 (T i).2.1 (T i).2.2.1 ∈ TT ∨ ∃ host, Cond.fieldLinkNest own idx (T i).1 (T i).2.1 (T i).2.2.1 host ∈ NW)
def jFp (T : u_T) (N : Nat) (ty0 : Nat → FieldType) : Prop := (∀ k, k < N → parseFieldDescriptor (T k).2.2.1 = some (ty0 k)) ∧ ∀ a, a < N → ∀ b, b < N → a ≠ b → (T a).2.1 ≠ (T b).2.1
theorem j_get {C0 : String} {T0 : u_T} {N0 ci i idx k : Nat} {fs : List Value} {v : Value} (f : jFl M.1.cls idx C0 T0 N0 ci i) (hd : decode M.2.1 pc = .ok (.getfield idx, 3)) (hk : k < n) (hE : E k = .inr (ci, fs)) (hv : fs[i]? = some v) (kk : J g M d bc bs (pc + 3) L (v :: st) n ad E Φ Ψ) : J g M d bc bs pc L (.ref (ad k) :: st) n ad E Φ Ψ := by
  intro l p e R s m args below meth c H locs cells slots ls C h1 h2 hW hS hl
  obtain ⟨f1, f2, f3, f4⟩ := f
  have hts := C.2.2.2.2.2.2.1
  have hK := C.2.2.2.2.2.2.2.2.2.2.2.2
  rcases f4 with f4 | ⟨host, f4⟩
  · exact va_get C.1 C.2.1 hts f3 C.2.2.2.2.2.1 hK.1 hW.1 k (by rw [jws_at hk, hE]) f1 i f2 (hts _ f4) (fun _ h9 => h9) hv hd (kk l p e R s m args below meth c H locs cells slots ls C h1 h2 hW hS hl)
  · exact va_getN C.1 C.2.1 hts f3 C.2.2.2.2.2.1 hK.1 hW.1 k (by rw [jws_at hk, hE]) f1 i f2 (va_Nw.use rfl (hK.2.2.2.2.2.2.2.2.1 _ f4)) (fun _ h9 => h9) hv hd (kk l p e R s m args below meth c H locs cells slots ls C h1 h2 hW hS hl)
theorem j_put {C0 : String} {T0 : u_T} {ty0 : Nat → FieldType} {N0 ci i idx k : Nat} {fs : List Value} {v : Value} (f : jFl M.1.cls idx C0 T0 N0 ci i) (fp : jFp T0 N0 ty0) (hd : decode M.2.1 pc = .ok (.putfield idx, 3)) (hk : k < n) (hE : E k = .inr (ci, fs)) (hfin : (T0 i).2.2.2 = false ∨ (M.1.name = "<init>" ∧ (T0 i).1 = M.1.cls ∧ Cond.fieldLink M.1.cls idx (T0 i).1 (T0 i).2.1 (T0 i).2.2.1 ∈ TT ∧ (T0 i).2.2.2 = true)) (hn : narrow (ty0 i) v = v) (hfit : fits (ty0 i) v = true) (hlen : i < fs.length) (kk : J g M d bc bs (pc + 3) L st n ad (va_up E k (.inr (ci, fs.set i v))) Φ Ψ) : J g M d bc bs pc L (v :: .ref (ad k) :: st) n ad E Φ Ψ := by
  intro l p e R s m args below meth c H locs cells slots ls C h1 h2 hW hS hl
  obtain ⟨f1, f2, f3, f4⟩ := f
  have hts := C.2.2.2.2.2.2.1
  have hK := C.2.2.2.2.2.2.2.2.2.2.2.2
  have K : ∀ (H1 : Heap) (locs1 : List Loc), va_P g.2.1 vwCl ((jws n ad E).set k (ad k, .inr (ci, fs.set i v))) H1 → va_D (jA g) ((jws n ad E).set k (ad k, .inr (ci, fs.set i v))) → va_S (jA g) s.heap H1 locs1 → W p l e R s m args below meth c H1 locs1 cells slots (vx_MQ below (jQ g Φ) (jX g Ψ) args s R.cells R.slots (jA g)) (F0 m (pc + 3) ls st) := by
    intro H1 locs1 q1 q2 q3
    rw [jws_set hk] at q1 q2
    exact kk l p e R s m args below meth c H1 locs1 cells slots ls C h1 h2 ⟨q1, q2⟩ q3 hl
  rcases hfin with hfin | ⟨hi, hdecl, hlk, hfin⟩
  · rcases f4 with f4 | ⟨host, f4⟩
    · exact va_put C.1 C.2.1 hts f3 ty0 fp.1 fp.2 C.2.2.2.2.2.1 hK.1 hW.1 hW.2 hS k (by rw [jws_at hk, hE]) f1 i f2 (hts _ f4) (fun _ h9 => h9) hfin (fp.1 i f2) hn hfit hlen hd K
    · exact va_putN C.1 C.2.1 hts f3 ty0 fp.1 fp.2 C.2.2.2.2.2.1 hK.1 hW.1 hW.2 hS k (by rw [jws_at hk, hE]) f1 i f2 (va_Nw.use rfl (hK.2.2.2.2.2.2.2.2.1 _ f4)) (fun _ h9 => h9) hfin (fp.1 i f2) hn hfit hlen hd K
  · exact va_putF C.1 C.2.1 hts f3 ty0 fp.1 fp.2 C.2.2.2.2.2.1 hK.1 hW.1 hW.2 hS k (by rw [jws_at hk, hE]) f1 i f2 (hts _ hlk) (fun _ h9 => h9) hfin (C.2.2.2.2.2.2.2.2.1.trans hi) hdecl (fp.1 i f2) hn hfit hlen hd K
/-! arrays -/
abbrev aI (g : jG) (N : Nat) (f : Nat → Int32) : va_E := .inl (g.2.2.1.1, N, .inl f)
abbrev aL (g : jG) (N : Nat) (f : Nat → Int64) : va_E := .inl (g.2.2.1.2.1, N, .inr (.inl f))
abbrev aO (g : jG) (N : Nat) (f : Nat → Option Nat) : va_E := .inl (g.2.2.1.2.2, N, .inr (.inr (.inr (.inr f))))
theorem j_iald {k N j : Nat} {f : Nat → Int32} {x : Int32} (hd : decode M.2.1 pc = .ok (.iaload, 1)) (hk : k < n) (hE : E k = aI g N f) (hN : N < 2 ^ 31) (hj : j < N) (hx : f j = x) (kk : J g M d bc bs (pc + 1) L (.int x :: st) n ad E Φ Ψ) : J g M d bc bs pc L (.int (nI j) :: .ref (ad k) :: st) n ad E Φ Ψ := by
  intro l p e R s m args below meth c H locs cells slots ls C h1 h2 hW hS hl
  have K := kk l p e R s m args below meth c H locs cells slots ls C h1 h2 hW hS hl
  rw [← hx, ← nI_clamp (show j < 2 ^ 31 by omega)] at K
  exact va_iald C.1 C.2.1 C.2.2.2.2.2.2.2.2.2.2.2.2.1 hW.1 k 0 (by rw [jws_at hk, hE]) rfl (vp_in_nI hj hN) hd K
theorem j_iast {k N j : Nat} {f : Nat → Int32} {x : Int32} (hd : decode M.2.1 pc = .ok (.iastore, 1)) (hk : k < n) (hE : E k = aI g N f) (hN : N < 2 ^ 31) (hj : j < N) (kk : J g M d bc bs (pc + 1) L st n ad (va_up E k (aI g N (upd f j x))) Φ Ψ) : J g M d bc bs pc L (.int x :: .int (nI j) :: .ref (ad k) :: st) n ad E Φ Ψ := by
  intro l p e R s m args below meth c H locs cells slots ls C h1 h2 hW hS hl
  refine va_iast C.1 C.2.1 C.2.2.2.2.2.2.2.2.2.2.2.2.1 hW.1 hW.2 hS k 0 (by rw [jws_at hk, hE]) rfl (vp_in_nI hj hN) hd (fun H1 locs1 q1 q2 q3 => ?_)
  rw [jws_set hk, nI_clamp (show j < 2 ^ 31 by omega)] at q1 q2
  exact kk l p e R s m args below meth c H1 locs1 cells slots ls C h1 h2 ⟨q1, q2⟩ q3 hl
theorem j_lald {k N j : Nat} {f : Nat → Int64} {x : Int64} (hd : decode M.2.1 pc = .ok (.laload, 1)) (hk : k < n) (hE : E k = aL g N f) (hN : N < 2 ^ 31) (hj : j < N) (hx : f j = x) (kk : J g M d bc bs (pc + 1) L (.long x :: st) n ad E Φ Ψ) : J g M d bc bs pc L (.int (nI j) :: .ref (ad k) :: st) n ad E Φ Ψ := by
  intro l p e R s m args below meth c H locs cells slots ls C h1 h2 hW hS hl
  have K := kk l p e R s m args below meth c H locs cells slots ls C h1 h2 hW hS hl
  rw [← hx, ← nI_clamp (show j < 2 ^ 31 by omega)] at K
  exact va_lald C.1 C.2.1 C.2.2.2.2.2.2.2.2.2.2.2.2.1 hW.1 k 1 (by rw [jws_at hk, hE]) rfl (vp_in_nI hj hN) hd K
theorem j_last {k N j : Nat} {f : Nat → Int64} {x : Int64} (hd : decode M.2.1 pc = .ok (.lastore, 1)) (hk : k < n) (hE : E k = aL g N f) (hN : N < 2 ^ 31) (hj : j < N) (kk : J g M d bc bs (pc + 1) L st n ad (va_up E k (aL g N (vp_updL f j x))) Φ Ψ) : J g M d bc bs pc L (.long x :: .int (nI j) :: .ref (ad k) :: st) n ad E Φ Ψ := by
  intro l p e R s m args below meth c H locs cells slots ls C h1 h2 hW hS hl
  refine va_last C.1 C.2.1 C.2.2.2.2.2.2.2.2.2.2.2.2.1 hW.1 hW.2 hS k 1 (by rw [jws_at hk, hE]) rfl (vp_in_nI hj hN) hd (fun H1 locs1 q1 q2 q3 => ?_)
  rw [jws_set hk, nI_clamp (show j < 2 ^ 31 by omega)] at q1 q2
  exact kk l p e R s m args below meth c H1 locs1 cells slots ls C h1 h2 ⟨q1, q2⟩ q3 hl
theorem j_aald {k N j : Nat} {f : Nat → Option Nat} {a : Nat} (hd : decode M.2.1 pc = .ok (.aaload, 1)) (hk : k < n) (hE : E k = aO g N f) (hN : N < 2 ^ 31) (hj : j < N) (hx : f j = some a) (kk : J g M d bc bs (pc + 1) L (.ref a :: st) n ad E Φ Ψ) : J g M d bc bs pc L (.int (nI j) :: .ref (ad k) :: st) n ad E Φ Ψ := by
  intro l p e R s m args below meth c H locs cells slots ls C h1 h2 hW hS hl
  have K := kk l p e R s m args below meth c H locs cells slots ls C h1 h2 hW hS hl
  have hlt : (nI j).toNatClampNeg < N := by rw [nI_clamp (show j < 2 ^ 31 by omega)]; exact hj
  have hin : vp_in (nI j) N := vp_in_nI hj hN
  have hc := hW.1 k _ (jws_at hk)
  rw [hE] at hc
  exact W.aald (v := .ref a) (ty := .array .int) C.1 C.2.1 (show H[ad k]? = some (vp_cell _ _) from hc) ((C.2.2.2.2.2.2.2.2.2.2.2.2.1.2 2 _ rfl).1 N (fun j => va_rf (f j))) rfl (fun q => by cases q) (by show ¬ (_ ∨ (arrV _ _ _).slots.size ≤ _); rw [arrV_size]; exact hin) (by show (arrV _ _ _).slots[_]? = _; rw [arrV_read _ _ hlt, nI_clamp (show j < 2 ^ 31 by omega), hx]; rfl) rfl rfl hd K
theorem j_alen {k : Nat} {cA : ClassId} {x : vp_A} {ty : FieldType} (t0 : Nat) (hd : decode M.2.1 pc = .ok (.arraylength, 1)) (hk : k < n) (hE : E k = .inl (cA, x)) (ht : (jT g)[t0]? = some (cA, ty)) (kk : J g M d bc bs (pc + 1) L (.int (nI x.1) :: st) n ad E Φ Ψ) : J g M d bc bs pc L (.ref (ad k) :: st) n ad E Φ Ψ := by
  intro l p e R s m args below meth c H locs cells slots ls C h1 h2 hW hS hl
  exact va_alen C.1 C.2.1 C.2.2.2.2.2.2.2.2.2.2.2.2.1 hW.1 k t0 (by rw [jws_at hk, hE]) ht rfl hd (kk l p e R s m args below meth c H locs cells slots ls C h1 h2 hW hS hl)
theorem j_slen (hd : decode M.2.1 pc = .ok (.arraylength, 1)) (kk : J g M d bc bs (pc + 1) L (.int (nI g.1.2.2.1) :: st) n ad E Φ Ψ) : J g M d bc bs pc L (.ref g.1.2.1 :: st) n ad E Φ Ψ := by
  intro l p e R s m args below meth c H locs cells slots ls C h1 h2 hW hS hl
  obtain ⟨-, -, -, -, hX, hb1, hb2, -⟩ := C.2.2.2.2.2.2.2.2.2.2.2.2
  exact va_slen C.1 C.2.1 hX (Nat.lt_of_lt_of_le hb1 hb2) (Nat.not_le.mpr hb1) hS hd (kk l p e R s m args below meth c H locs cells slots ls C h1 h2 hW hS hl)
theorem j_sald {j : Nat} (hd : decode M.2.1 pc = .ok (.iaload, 1)) (hN : g.1.2.2.1 < 2 ^ 31) (hj : j < g.1.2.2.1) (kk : J g M d bc bs (pc + 1) L (.int (g.1.2.2.2 j) :: st) n ad E Φ Ψ) : J g M d bc bs pc L (.int (nI j) :: .ref g.1.2.1 :: st) n ad E Φ Ψ := by
  intro l p e R s m args below meth c H locs cells slots ls C h1 h2 hW hS hl
  obtain ⟨-, -, -, -, hX, hb1, hb2, -⟩ := C.2.2.2.2.2.2.2.2.2.2.2.2
  have K := kk l p e R s m args below meth c H locs cells slots ls C h1 h2 hW hS hl
  rw [← nI_clamp (show j < 2 ^ 31 by omega)] at K
  exact va_sld C.1 C.2.1 hX (Nat.lt_of_lt_of_le hb1 hb2) (Nat.not_le.mpr hb1) hS (vp_in_nI hj hN) hd K
end JR
end
section
/-! The rows of J that call, make and throw. -/
section JCALL
variable {g : jG} {M M' : jM} {d bc bs d' bc' bs' pc nA idx : Nat} {L : List (Option Value)} {st rest As : List Value} {n : Nat} {ad : Nat → Nat} {E : Nat → va_E} {Φ Φ' : Option Value → jR} {Ψ Ψ' : String → jR}
/-- facts of a callee that its calls share -/
def jYm (M' : jM) (nA : Nat) : Prop := jCode M' ∈ TT ∧ Cond.initialized M'.1.cls ∈ TT ∧ (M'.1.cls ≠ "java/lang/invoke/MethodHandle" ∧ M'.1.cls ≠ "java/lang/invoke/VarHandle") ∧ (parseMethodDescriptor M'.1.desc).map (fun d => d.parameters.length) = some nA ∧ plainName M'.1.cls = true ∧ M'.2.2.1 ≤ 13
theorem j_goes {p : Program} {l : Launch} {e : Env} {R : Room} {s : State} {m : MethodId} {args : Array Value} {below : List Frame} {meth : Method} {c : Code} {H : Heap} {locs : List Loc} {cells slots mc ms : Nat} {ls : Array Slot} {st0 : List Value} {Q : State → Prop} {a : Array Value}
    (hr : vx_Run p l e R s m args below meth c H locs cells slots mc ms (F0 m pc ls st0) rest (jQ g Φ' a) (jX g Ψ') (jA g)) (hS : va_S (jA g) s.heap H locs)
    (kk : ∀ (v : Option Value) (n' : Nat) (ad' : Nat → Nat) (E' : Nat → va_E) (H1 : Heap) (locs1 : List Loc), Φ' v n' ad' E' → jWd g n' ad' E' H1 → va_S (jA g) s.heap H1 locs1 → W p l e R s m args below meth c H1 locs1 (cells + mc) (slots + ms) Q (F0 m (pc + 3) ls (v.toList ++ rest)))
    (kx : ∀ (X : String) (ce : Cell) (q : Addr) (n' : Nat) (ad' : Nat → Nat) (E' : Nat → va_E) (H1 : Heap) (locs1 : List Loc), Ψ' X n' ad' E' → jWd g n' ad' E' H1 → va_S (jA g) s.heap H1 locs1 → H1[q]? = some ce → ce.vm = .none → s.vm.findClass X = some ce.cls → vx_W p l e R s m args below meth c H1 locs1 (cells + mc) (slots + ms) Q (F0 m pc ls rest) q) :
    W p l e R s m args below meth c H locs cells slots Q (F0 m pc ls st0) := by
  intro T hT X
  rcases hr T hT X with ⟨v, st₀, t, T', L, h0, X', hL, e1, e2, ⟨⟨v2, n', ad', E', hv, hp, hb⟩, hF⟩, st⟩ | ⟨q, st₀, t, T', L, Ex, ce, h0, X', hL, e1, e2, ⟨⟨n', ad', E', hp, hb⟩, hF⟩, hce, hcv, hcl, st⟩
  · obtain rfl : v = v2 := Outcome.returned.inj hv
    obtain ⟨k1, k2, k3⟩ := vx_keep h0 e1 hS (fun _ _ h => h) (fun _ h => h) hL hF
    obtain ⟨t2, a1, b1⟩ := kk v n' ad' E' T'.heap (locs ++ L) hp (by rw [e1]; exact hb) k3 T' rfl X'
    exact ⟨t2, st t2 a1, b1⟩
  · obtain ⟨k1, k2, k3⟩ := vx_keep h0 e1 hS (fun _ _ h => h) (fun _ h => h) hL hF
    obtain ⟨t2, a1, b1⟩ := kx Ex ce q n' ad' E' T'.heap (locs ++ L) hp (by rw [e1]; exact hb) k3 (by rw [e1]; exact hce) hcv hcl T' rfl X'
    exact ⟨t2, st.trans a1, b1⟩
theorem jW_pay {s : State} {args : Array Value} (hts : ∀ w ∈ TT, w.before args s = true) (h : jCode M' ∈ TT) : ∀ w ∈ jW M', ∀ (a' : Array Value) (U : State), s.WarmedH U.vm → w.before a' U = true := fun w hw a' U hW => word_at hW (jW_good h w hw).2 (hts w (jW_good h w hw).1)
theorem jB {R : Room} {s : State} {args : Array Value} {own : String} (hts : ∀ w ∈ TT, w.before args s = true) (f : jYm M' nA) (hh : M'.2.2.2.2 = []) (hl : Cond.methodLink own idx M'.1 ∈ TT) (hd : d' + 1 ≤ R.frames) (hlo : 32 * (d' + 1) ≤ R.locals) :
    CallB R s args own idx M'.1 M'.2.1 M'.2.2.1 M'.2.2.2.1 (jW M') ({ frames := d', cells := bc', slots := bs', locals := 32 * d' }) bc' bs' nA := by
  obtain ⟨f1, f2, f3, f4, f5, f6⟩ := f
  have hc : jCode M' = .code M'.1 M'.2.1 M'.2.2.1 M'.2.2.2.1 := by unfold jCode; rw [hh]; rfl
  refine ⟨rfl, rfl, hd, by show 8 + (M'.2.2.1 + 11) + 32 * d' ≤ R.locals; omega, jW_pay hts f1, by rw [← hc]; exact List.mem_cons_self, by rw [← hc]; exact hts _ f1, hts _ f2, f3, fun sig h => ?_, hts _ hl⟩
  rw [h] at f4
  exact (Option.some.inj f4).symm
theorem jOut {p : Program} {l : Launch} {e : Env} {R : Room} {s : State} {m : MethodId} {args : Array Value} {below : List Frame} {meth : Method} {c : Code} {H : Heap} {locs : List Loc} {cells slots : Nat} {ls : Array Slot} {q : Addr} {ce : Cell} {X : String} (C : jC g M d l p R s m args meth c) (hh : M.2.2.2.2 = []) (hΨ : Ψ X n ad E) (hW : jWd g n ad E H) (hS : va_S (jA g) s.heap H locs) (e1 : H[q]? = some ce) (e2 : ce.vm = .none) (e3 : s.vm.findClass X = some ce.cls) (hc : cells ≤ R.cells) (hs : slots ≤ R.slots) :
    vx_W p l e R s m args below meth c H locs cells slots (vx_MQ below (jQ g Φ) (jX g Ψ) args s R.cells R.slots (jA g)) (F0 m pc ls rest) q := by
  refine vx_out (E := X) ?_ C.2.2.2.2.1 e1 e2 e3 (fun t ht _ => ⟨⟨n, ad, E, hΨ, by rw [ht]; exact hW⟩, hS.F ht⟩) hS.2.2 hc hs
  have := C.2.2.2.2.2.2.2.1
  rw [hh] at this
  intro x hx
  rw [this] at hx
  cases hx
/-- how a thrown class is met: passed on, or caught -/
def jMeets (g : jG) (M : jM) (d bc bs pc : Nat) (L : List (Option Value)) (Φ : Option Value → jR) (Ψ : String → jR) (X : String) (n : Nat) (ad : Nat → Nat) (E : Nat → va_E) : Prop :=
  (M.2.2.2.2 = [] ∧ Ψ X n ad E) ∨ ∃ (pre : List ExceptionTableEntry) (x : ExceptionTableEntry) (suf : List ExceptionTableEntry) (name : String), tableOf M.2.2.2.2 = pre ++ x :: suf ∧ (∀ z ∈ pre, covers z pc = false ∨ (z.catchType ≠ 0 ∧ ∃ nm : String, Cond.classLink M.1.cls z.catchType nm ∈ TT ∧ (X, nm) ∈ jNc)) ∧ covers x pc = true ∧ x.catchType ≠ 0 ∧ Cond.classLink M.1.cls x.catchType name ∈ TT ∧ Cond.castable X name ∈ NW ∧ ∀ q : Nat, J g M d bc bs x.handlerPc L [.ref q] n ad E Φ Ψ
theorem jMeet {l : Launch} {p : Program} {e : Env} {R : Room} {s : State} {m : MethodId} {args : Array Value} {below : List Frame} {meth : Method} {c : Code} {H : Heap} {locs : List Loc} {cells slots : Nat} {ls : Array Slot} {q : Addr} {ce : Cell} {X : String} (C : jC g M d l p R s m args meth c) (h1 : cells + bc ≤ R.cells) (h2 : slots + bs ≤ R.slots) (hl : lh ls M.2.2.1 L) (hΨ : jMeets g M d bc bs pc L Φ Ψ X n ad E) (hW : jWd g n ad E H) (hS : va_S (jA g) s.heap H locs) (e1 : H[q]? = some ce) (e2 : ce.vm = .none) (e3 : s.vm.findClass X = some ce.cls) :
    vx_W p l e R s m args below meth c H locs cells slots (vx_MQ below (jQ g Φ) (jX g Ψ) args s R.cells R.slots (jA g)) (F0 m pc ls rest) q := by
  rcases hΨ with ⟨hh, hΨ⟩ | ⟨pre, x, suf, name, t1, t2, t3, t4, t5, t6, t7⟩
  · exact jOut C hh hΨ hW hS e1 e2 e3 (by omega) (by omega)
  · have hts := C.2.2.2.2.2.2.1
    have hK := C.2.2.2.2.2.2.2.2.2.2.2.2
    refine vx_catch (E := X) C.2.2.2.2.2.1 pre x suf (C.2.2.2.2.2.2.2.1.trans t1) (fun z hz => ?_) t3 t4 (hts _ t5) (va_Nw.use rfl (hK.2.2.2.2.2.2.2.2.1 _ t6)) e1 e2 e3 (t7 q l p e R s m args below meth c H locs cells slots ls C h1 h2 hW hS hl)
    rcases t2 z hz with a | ⟨a, nm, b1, b2⟩
    · exact Or.inl a
    · exact Or.inr ⟨a, nm, hts _ b1, hK.2.2.2.2.2.2.2.2.2 _ b2⟩
theorem j_callV {k ci N0 : Nat} {T0 : u_T} {fs : List Value} (f : jYm M' nA) (fi : Cond.instanceMethod M'.1 ∈ TT) (fs' : Cond.selects M'.1.cls M'.1 M'.1 ∈ TT) (hh : M'.2.2.2.2 = []) (hl : Cond.methodLink M.1.cls idx M'.1 ∈ TT) (hcl : vwCl[ci]? = some (M'.1.cls, T0, N0)) (hd : decode M.2.1 pc = .ok (.invokevirtual idx, 3)) (hdep : d' + 1 ≤ d) (hk : k < n) (hE : E k = .inr (ci, fs)) (hA : As.length = nA) (hst : As.reverse ++ .ref (ad k) :: rest = st) (hcat : (rest.map fun v => v.category).sum ≤ 8) (hnL : (lg_sl (.ref (ad k) :: As)).length ≤ M'.2.2.1)
    (hJ : JE g M' d' bc' bs' (.ref (ad k) :: As) n ad E Φ' Ψ') (kk : ∀ v n' ad' E', Φ' v n' ad' E' → J g M d bc bs (pc + 3) L (v.toList ++ rest) n' ad' E' Φ Ψ) (kx : ∀ X n' ad' E', Ψ' X n' ad' E' → jMeets g M d bc bs pc L Φ Ψ X n' ad' E') : J g M d (bc' + bc) (bs' + bs) pc L st n ad E Φ Ψ := by
  intro l p e R s m args below meth c H locs cells slots ls C h1 h2 hW hS hlh
  subst hst
  have hts := C.2.2.2.2.2.2.1
  have hK := C.2.2.2.2.2.2.2.2.2.2.2.2
  have hdR := C.2.2.2.2.2.2.2.2.2.2.1
  have hlR := C.2.2.2.2.2.2.2.2.2.2.2.1
  have hM := jMet f.2.2.2.2.1 C.2.2.2.2.2.2.2.2.2.1 hnL hJ
  refine j_goes (vx_runV ⟨C.1, C.2.1, C.2.2.1, C.2.2.2.2.2.1, hts⟩ hM ⟨jB hts f hh hl (by omega) (by omega), hts _ fi, hts _ fs'⟩ ⟨jPre.blind, va_recv hK.1 hW.1 hcl (by rw [jws_at hk, hE]), fun U hU hWm => ⟨rfl, hK.to hS hU hWm, by rw [hU]; exact hW⟩⟩ rfl hA hlh.1 rfl (lv_room hcat) hd ⟨by omega, by omega⟩) hS
    (fun v n' ad' E' H1 locs1 q1 q2 q3 => kk v n' ad' E' q1 l p e R s m args below meth c H1 locs1 _ _ ls C (by omega) (by omega) q2 q3 hlh)
    (fun X ce q n' ad' E' H1 locs1 q1 q2 q3 q4 q5 q6 => jMeet C (by omega) (by omega) hlh (kx X n' ad' E' q1) q2 q3 q4 q5 q6)
theorem j_callS (f : jYm M' nA) (fi : Cond.static M'.1 ∈ TT) (hl : Cond.methodLink M.1.cls idx M'.1 ∈ TT) (hd : decode M.2.1 pc = .ok (.invokestatic idx, 3)) (hdep : d' + 1 ≤ d) (hA : As.length = nA) (hst : As.reverse ++ rest = st) (hcat : (rest.map fun v => v.category).sum ≤ 8) (hnL : (lg_sl As).length ≤ M'.2.2.1)
    (hJ : JE g M' d' bc' bs' As n ad E Φ' Ψ') (kk : ∀ v n' ad' E', Φ' v n' ad' E' → J g M d bc bs (pc + 3) L (v.toList ++ rest) n' ad' E' Φ Ψ) (kx : ∀ X n' ad' E', Ψ' X n' ad' E' → jMeets g M d bc bs pc L Φ Ψ X n' ad' E') : J g M d (bc' + bc) (bs' + bs) pc L st n ad E Φ Ψ := by
  intro l p e R s m args below meth c H locs cells slots ls C h1 h2 hW hS hlh
  subst hst
  have hts := C.2.2.2.2.2.2.1
  have hK := C.2.2.2.2.2.2.2.2.2.2.2.2
  have hdR := C.2.2.2.2.2.2.2.2.2.2.1
  have hlR := C.2.2.2.2.2.2.2.2.2.2.2.1
  have hM := jMet f.2.2.2.2.1 C.2.2.2.2.2.2.2.2.2.1 hnL hJ
  have hr : vx_Run p l e R s m args below meth c H locs cells slots bc' bs' (F0 m pc ls (As.reverse ++ rest)) rest (jQ g Φ' As.toArray) (jX g Ψ') (jA g) := by
    by_cases hh : M'.2.2.2.2.isEmpty = true
    · exact vx_runS ⟨C.1, C.2.1, C.2.2.1, C.2.2.2.2.2.1, hts⟩ hM ⟨jB hts f (List.isEmpty_iff.mp hh) hl (by omega) (by omega), hts _ fi⟩ ⟨jPre.blind, fun U hU hWm => ⟨rfl, hK.to hS hU hWm, by rw [hU]; exact hW⟩⟩ rfl hA hlh.1 rfl (lv_room hcat) hd ⟨by omega, by omega⟩
    · have hc : jCode M' = .codeWith M'.1 M'.2.1 M'.2.2.1 M'.2.2.2.1 M'.2.2.2.2 := if_neg hh
      obtain ⟨f1, f2, f3, f4, f5, f6⟩ := f
      refine vx_runSX (hh := M'.2.2.2.2) ⟨C.1, C.2.1, C.2.2.1, C.2.2.2.2.2.1, hts⟩ hM ⟨⟨rfl, rfl, by show d' + 1 ≤ R.frames; omega, by show 8 + (M'.2.2.1 + 11) + 32 * d' ≤ R.locals; omega, jW_pay hts f1, by rw [← hc]; exact List.mem_cons_self⟩, by rw [← hc]; exact hts _ f1, hts _ f2, f3, fun sig h => ?_, hts _ hl, hts _ fi⟩ ⟨jPre.blind, fun U hU hWm => ⟨rfl, hK.to hS hU hWm, by rw [hU]; exact hW⟩⟩ rfl hA hlh.1 rfl (lv_room hcat) hd ⟨by omega, by omega⟩
      rw [h] at f4
      exact (Option.some.inj f4).symm
  exact j_goes hr hS
    (fun v n' ad' E' H1 locs1 q1 q2 q3 => kk v n' ad' E' q1 l p e R s m args below meth c H1 locs1 _ _ ls C (by omega) (by omega) q2 q3 hlh)
    (fun X ce q n' ad' E' H1 locs1 q1 q2 q3 q4 q5 q6 => jMeet C (by omega) (by omega) hlh (kx X n' ad' E' q1) q2 q3 q4 q5 q6)
/-- a constructor of our own -/
theorem j_callI {k : Nat} (f : jYm M' nA) (hn1 : M'.1.name = "<init>") (hr1 : M'.2.2.2.1 = none) (fi : Cond.instanceMethod M'.1 ∈ TT) (hh : M'.2.2.2.2 = []) (hl : Cond.methodLink M.1.cls idx M'.1 ∈ TT ∨ ∃ host, Cond.methodLinkNest M.1.cls idx M'.1 host ∈ NW) (hd : decode M.2.1 pc = .ok (.invokespecial idx, 3)) (hdep : d' + 1 ≤ d) (hA : As.length = nA) (hst : As.reverse ++ .ref (ad k) :: rest = st) (hcat : (rest.map fun v => v.category).sum ≤ 8) (hnL : (lg_sl (.ref (ad k) :: As)).length ≤ M'.2.2.1)
    (hJ : JE g M' d' bc' bs' (.ref (ad k) :: As) n ad E Φ' Ψ') (kk : ∀ v n' ad' E', Φ' v n' ad' E' → J g M d bc bs (pc + 3) L (v.toList ++ rest) n' ad' E' Φ Ψ) (kx : ∀ X n' ad' E', Ψ' X n' ad' E' → jMeets g M d bc bs pc L Φ Ψ X n' ad' E') : J g M d (bc' + bc) (bs' + bs) pc L st n ad E Φ Ψ := by
  intro l p e R s m args below meth c H locs cells slots ls C h1 h2 hW hS hlh
  subst hst
  have hts := C.2.2.2.2.2.2.1
  have hK := C.2.2.2.2.2.2.2.2.2.2.2.2
  have hdR := C.2.2.2.2.2.2.2.2.2.2.1
  have hlR := C.2.2.2.2.2.2.2.2.2.2.2.1
  have hM := jMet f.2.2.2.2.1 C.2.2.2.2.2.2.2.2.2.1 hnL hJ
  have hr : vx_Run p l e R s m args below meth c H locs cells slots bc' bs' (F0 m pc ls (As.reverse ++ .ref (ad k) :: rest)) rest (jQ g Φ' (Value.ref (ad k) :: As).toArray) (jX g Ψ') (jA g) := by
    obtain ⟨f1, f2, f3, f4, f5, f6⟩ := f
    have hc : jCode M' = .code M'.1 M'.2.1 M'.2.2.1 none := by unfold jCode; rw [hh, hr1]; rfl
    have hsig : ∀ sig, parseMethodDescriptor M'.1.desc = some sig → nA = sig.parameters.length := fun sig h => by
      rw [h] at f4
      exact (Option.some.inj f4).symm
    rcases hl with hl | ⟨host, hl⟩
    · exact vx_runI ⟨C.1, C.2.1, C.2.2.1, C.2.2.2.2.2.1, hts⟩ hM ⟨⟨rfl, rfl, by show d' + 1 ≤ R.frames; omega, by show 8 + (M'.2.2.1 + 11) + 32 * d' ≤ R.locals; omega, jW_pay hts f1, by rw [← hc]; exact List.mem_cons_self, by rw [← hc]; exact hts _ f1, hts _ f2, f3, hsig, hts _ hl⟩, hn1, hts _ fi⟩ ⟨jPre.blind, fun U hU hWm => ⟨rfl, hK.to hS hU hWm, by rw [hU]; exact hW⟩⟩ rfl hA hlh.1 rfl (lv_room hcat) hd ⟨by omega, by omega⟩
    · exact vx_runIN ⟨C.1, C.2.1, C.2.2.1, C.2.2.2.2.2.1, hts⟩ hM ⟨⟨⟨rfl, rfl, by show d' + 1 ≤ R.frames; omega, by show 8 + (M'.2.2.1 + 11) + 32 * d' ≤ R.locals; omega, jW_pay hts f1, by rw [← hc]; exact List.mem_cons_self⟩, by rw [← hc]; exact hts _ f1, hts _ f2, f3, hsig, va_Nw.use rfl (hK.2.2.2.2.2.2.2.2.1 _ hl)⟩, hn1, hts _ fi⟩ ⟨jPre.blind, fun U hU hWm => ⟨rfl, hK.to hS hU hWm, by rw [hU]; exact hW⟩⟩ rfl hA hlh.1 rfl (lv_room hcat) hd ⟨by omega, by omega⟩
  exact j_goes hr hS
    (fun v n' ad' E' H1 locs1 q1 q2 q3 => kk v n' ad' E' q1 l p e R s m args below meth c H1 locs1 _ _ ls C (by omega) (by omega) q2 q3 hlh)
    (fun X ce q n' ad' E' H1 locs1 q1 q2 q3 q4 q5 q6 => jMeet C (by omega) (by omega) hlh (kx X n' ad' E' q1) q2 q3 q4 q5 q6)
/-- Object.<init> -/
theorem j_objInit {a : Nat} (f1 : Cond.methodLink M.1.cls idx Lib.objectInit ∈ TT) (f2 : Cond.instanceMethod Lib.objectInit ∈ TT) (f3 : Cond.code Lib.objectInit ⟨#[0xb1]⟩ 1 none ∈ TT) (hd : decode M.2.1 pc = .ok (.invokespecial idx, 3)) (hdep : 1 ≤ d) (hcat : (rest.map fun v => v.category).sum ≤ 8) (kk : J g M d bc bs (pc + 3) L rest n ad E Φ Ψ) : J g M d bc bs pc L (.ref a :: rest) n ad E Φ Ψ := by
  intro l p e R s m args below meth c H locs cells slots ls C h1 h2 hW hS hlh
  have hts := C.2.2.2.2.2.2.1
  have hdR := C.2.2.2.2.2.2.2.2.2.2.1
  have hlR := C.2.2.2.2.2.2.2.2.2.2.2.1
  exact W.objInit C.1 C.2.1 C.2.2.2.2.2.1 (hts _ f1) (hts _ f2) (hts _ f3) rfl (hlh.1.trans C.2.2.1.symm) rfl hd (by omega) (by show 2 * 0 + _ + 12 ≤ _; omega) (kk l p e R s m args below meth c H locs cells slots ls C h1 h2 hW hS hlh)
/-! Math -/
theorem j_mmax {x y : Int32} (f1 : Cond.methodLink M.1.cls idx Lib.Math.max.name ∈ TT) (f2 : Cond.static Lib.Math.max.name ∈ TT) (f3 : Cond.initialized "java/lang/Math" ∈ TT) (f4 : Cond.code Lib.Math.max.name Lib.Math.max.code 2 (some .int) ∈ TT) (hd : decode M.2.1 pc = .ok (.invokestatic idx, 3)) (hdep : 1 ≤ d) (hcat : (rest.map fun v => v.category).sum ≤ 8) (kk : J g M d bc bs (pc + 3) L (.int (if x < y then y else x) :: rest) n ad E Φ Ψ) : J g M d bc bs pc L (.int y :: .int x :: rest) n ad E Φ Ψ := by
  intro l p e R s m args below meth c H locs cells slots ls C h1 h2 hW hS hlh
  have hts := C.2.2.2.2.2.2.1
  have hdR := C.2.2.2.2.2.2.2.2.2.2.1
  have hlR := C.2.2.2.2.2.2.2.2.2.2.2.1
  exact va_mmax C.1 C.2.1 (C.2.2.1.trans hlh.1.symm) C.2.2.2.2.2.1 (hts _ f1) (hts _ f2) (hts _ f3) (hts _ f4) (by omega) (by omega) (by omega) (by omega) hd (kk l p e R s m args below meth c H locs cells slots ls C h1 h2 hW hS hlh)
theorem j_mmin {x y : Int32} (f1 : Cond.methodLink M.1.cls idx Lib.Math.min.name ∈ TT) (f2 : Cond.static Lib.Math.min.name ∈ TT) (f3 : Cond.initialized "java/lang/Math" ∈ TT) (f4 : Cond.code Lib.Math.min.name Lib.Math.min.code 2 (some .int) ∈ TT) (hd : decode M.2.1 pc = .ok (.invokestatic idx, 3)) (hdep : 1 ≤ d) (hcat : (rest.map fun v => v.category).sum ≤ 8) (kk : J g M d bc bs (pc + 3) L (.int (if y < x then y else x) :: rest) n ad E Φ Ψ) : J g M d bc bs pc L (.int y :: .int x :: rest) n ad E Φ Ψ := by
  intro l p e R s m args below meth c H locs cells slots ls C h1 h2 hW hS hlh
  have hts := C.2.2.2.2.2.2.1
  have hdR := C.2.2.2.2.2.2.2.2.2.2.1
  have hlR := C.2.2.2.2.2.2.2.2.2.2.2.1
  exact va_mmin C.1 C.2.1 (C.2.2.1.trans hlh.1.symm) C.2.2.2.2.2.1 (hts _ f1) (hts _ f2) (hts _ f3) (hts _ f4) (by omega) (by omega) (by omega) (by omega) hd (kk l p e R s m args below meth c H locs cells slots ls C h1 h2 hW hS hlh)
theorem j_mmaxl {x y : Int64} (f1 : Cond.methodLink M.1.cls idx Lib.MathLoose.max_long.x ∈ TT) (f2 : Cond.static Lib.MathLoose.max_long.x ∈ TT) (f3 : Cond.initialized "java/lang/Math" ∈ TT) (f4 : Cond.code Lib.MathLoose.max_long.x Lib.MathLoose.max_long.code 4 (some .long) ∈ TT) (hd : decode M.2.1 pc = .ok (.invokestatic idx, 3)) (hdep : 1 ≤ d) (hcat : (rest.map fun v => v.category).sum ≤ 8) (kk : J g M d bc bs (pc + 3) L (.long (if y < x then x else y) :: rest) n ad E Φ Ψ) : J g M d bc bs pc L (.long y :: .long x :: rest) n ad E Φ Ψ := by
  intro l p e R s m args below meth c H locs cells slots ls C h1 h2 hW hS hlh
  have hts := C.2.2.2.2.2.2.1
  have hdR := C.2.2.2.2.2.2.2.2.2.2.1
  have hlR := C.2.2.2.2.2.2.2.2.2.2.2.1
  exact va_mmax_long C.1 C.2.1 (C.2.2.1.trans hlh.1.symm) C.2.2.2.2.2.1 (hts _ f1) (hts _ f2) (hts _ f3) (hts _ f4) (by omega) (by omega) (by omega) (by omega) hd (kk l p e R s m args below meth c H locs cells slots ls C h1 h2 hW hS hlh)
/-- System.arraycopy between int rows -/
theorem j_copy {k0 k1 n0 n1 sp dp cnt : Nat} {f0 f1 : Nat → Int32} (w1 : Cond.methodLink M.1.cls idx arraycopyName ∈ TT) (w2 : Cond.native arraycopyName ∈ TT) (w3 : Cond.static arraycopyName ∈ TT) (w4 : Cond.initialized "java/lang/System" ∈ TT) (hd : decode M.2.1 pc = .ok (.invokestatic idx, 3)) (hdep : 2 ≤ d) (hcat : (rest.map fun v => v.category).sum ≤ 8) (hk0 : k0 < n) (hE0 : E k0 = aI g n0 f0) (hk1 : k1 < n) (hE1 : E k1 = aI g n1 f1) (q0 : n0 < 2 ^ 31) (q1 : n1 < 2 ^ 31) (q2 : sp + cnt ≤ n0) (q3 : dp + cnt ≤ n1)
    (kk : J g M d bc bs (pc + 3) L rest n ad (va_up E k1 (aI g n1 (va_cpy f0 f1 sp dp cnt))) Φ Ψ) : J g M d bc bs pc L (.int (nI cnt) :: .int (nI dp) :: .ref (ad k1) :: .int (nI sp) :: .ref (ad k0) :: rest) n ad E Φ Ψ := by
  intro l p e R s m args below meth c H locs cells slots ls C h1 h2 hW hS hlh
  have hts := C.2.2.2.2.2.2.1
  have hdR := C.2.2.2.2.2.2.2.2.2.2.1
  have hlR := C.2.2.2.2.2.2.2.2.2.2.2.1
  have hK := C.2.2.2.2.2.2.2.2.2.2.2.2
  have hfw : nativeFrameWords "java/lang/System" "arraycopy" 5 ≤ 40 := by decide +kernel
  refine va_copyi C.1 C.2.1 (C.2.2.1.trans hlh.1.symm) C.2.2.2.2.2.1 (hts _ w1) (hts _ w2) (hts _ w3) (hts _ w4) hK.1 hW.1 hW.2 hS k0 k1 0 0 (by rw [jws_at hk0, hE0]) (by rw [jws_at hk1, hE1]) rfl rfl rfl (nI_pos (by omega)) (nI_pos (by omega)) (nI_pos (by omega)) (by rw [nI_clamp (by omega), nI_clamp (by omega)]; exact q2) (by rw [nI_clamp (by omega), nI_clamp (by omega)]; exact q3) (fun i _ => rfl) (by omega) (by omega) hd (fun H1 locs1 r1 r2 r3 => ?_)
  rw [nI_clamp (by omega), nI_clamp (by omega), nI_clamp (by omega), jws_set hk1] at r1 r2
  exact kk l p e R s m args below meth c H1 locs1 cells slots ls C h1 h2 ⟨r1, r2⟩ r3 hlh
/-! new -/
theorem j_new {C0 : String} {T0 : u_T} {ty0 : Nat → FieldType} {N0 ci : Nat} {fs : List Value} (hc : vwCl[ci]? = some (C0, T0, N0)) (f3 : ∀ w ∈ u_ws C0 T0 N0, w ∈ TT) (fp : jFp T0 N0 ty0) (w1 : Cond.classLink M.1.cls idx C0 ∈ TT) (w2 : Cond.instantiable C0 N0 ∈ TT) (w3 : Cond.initialized C0 ∈ TT) (hfs : ∀ j, j < N0 → defaultValue (ty0 j) = vp_V fs j) (hd : decode M.2.1 pc = .ok (.new idx, 3))
    (kk : ∀ ad' : Nat → Nat, (∀ i, i < n → ad' i = ad i) → J g M d bc bs (pc + 3) L (.ref (ad' n) :: st) (n + 1) ad' (va_up E n (.inr (ci, fs))) Φ Ψ) : J g M d (bc + 1) (bs + N0) pc L st n ad E Φ Ψ := by
  intro l p e R s m args below meth c H locs cells slots ls C h1 h2 hW hS hlh
  have hts := C.2.2.2.2.2.2.1
  have hK := C.2.2.2.2.2.2.2.2.2.2.2.2
  refine va_new C.1 C.2.1 hts f3 ty0 fp.1 C.2.2.2.2.2.1 (hts _ w1) (hts _ w2) (hts _ w3) hK.1 hW.1 hW.2 hS (fun q hq => Nat.le_trans hK.2.2.2.2.2.2.1 hq) hc hfs (by omega) (by omega) hd (fun q H1 r1 r2 r3 => ?_)
  rw [jws_push] at r1 r2
  have K := kk (va_up ad n q) (fun i hi => if_neg (Nat.ne_of_lt hi)) l p e R s m args below meth c H1 locs (cells + 1) (slots + N0) ls C (by omega) (by omega) ⟨r1, r2⟩ r3 hlh
  rwa [show va_up ad n q n = q from if_pos rfl] at K
theorem jRAi {s : State} {a b : ClassId} (h1 : va_RA s a .int) (h2 : va_RA s b .int) : a = b := Option.some.inj (Eq.trans (Eq.symm h1) h2)
theorem jRAl {s : State} {a b : ClassId} (h1 : va_RA s a .long) (h2 : va_RA s b .long) : a = b := Option.some.inj (Eq.trans (Eq.symm h1) h2)
theorem jRAo {s : State} {a b : ClassId} (h1 : va_RA s a (.array .int)) (h2 : va_RA s b (.array .int)) : a = b := Option.some.inj (Eq.trans (Eq.symm h1) h2)
theorem j_newI {N : Nat} (w1 : Cond.arrayClass .int ∈ TT) (hN : N ≤ 100000) (hd : decode M.2.1 pc = .ok (.newarray .int, 2)) (kk : ∀ ad' : Nat → Nat, (∀ i, i < n → ad' i = ad i) → J g M d bc bs (pc + 2) L (.ref (ad' n) :: st) (n + 1) ad' (va_up E n (aI g N (fun _ => 0))) Φ Ψ) : J g M d (bc + 1) (bs + N) pc L (.int (nI N) :: st) n ad E Φ Ψ := by
  intro l p e R s m args below meth c H locs cells slots ls C h1 h2 hW hS hlh
  have hts := C.2.2.2.2.2.2.1
  have hK := C.2.2.2.2.2.2.2.2.2.2.2.2
  refine va_newa (atype := .int) (ty := .int) (a0 := (N, .inl (fun _ => 0))) C.1 C.2.1 (hts _ w1) rfl hK.1 hW.1 hW.2 hS (fun q hq => Nat.le_trans hK.2.2.2.2.2.2.1 hq) (fun _ => rfl) (nI_pos (by omega)) (nI_clamp (by omega)) (by show N * 4 ≤ _; omega) (by omega) (by omega) hd (fun q cA H1 r0 r1 r2 r3 => ?_)
  obtain rfl : cA = g.2.2.1.1 := jRAi (r0.2 3 (cA, .int) rfl).2 (hK.1.2 0 _ rfl).2
  rw [jws_push] at r1 r2
  have K := kk (va_up ad n q) (fun i hi => if_neg (Nat.ne_of_lt hi)) l p e R s m args below meth c H1 locs (cells + 1) (slots + N) ls C (by omega) (by omega) ⟨r1, r2⟩ r3 hlh
  rwa [show va_up ad n q n = q from if_pos rfl] at K
theorem j_newL {N : Nat} (w1 : Cond.arrayClass .long ∈ TT) (hN : N ≤ 100000) (hd : decode M.2.1 pc = .ok (.newarray .long, 2)) (kk : ∀ ad' : Nat → Nat, (∀ i, i < n → ad' i = ad i) → J g M d bc bs (pc + 2) L (.ref (ad' n) :: st) (n + 1) ad' (va_up E n (aL g N (fun _ => 0))) Φ Ψ) : J g M d (bc + 1) (bs + N) pc L (.int (nI N) :: st) n ad E Φ Ψ := by
  intro l p e R s m args below meth c H locs cells slots ls C h1 h2 hW hS hlh
  have hts := C.2.2.2.2.2.2.1
  have hK := C.2.2.2.2.2.2.2.2.2.2.2.2
  refine va_newa (atype := .long) (ty := .long) (a0 := (N, .inr (.inl (fun _ => 0)))) C.1 C.2.1 (hts _ w1) rfl hK.1 hW.1 hW.2 hS (fun q hq => Nat.le_trans hK.2.2.2.2.2.2.1 hq) (fun _ => rfl) (nI_pos (by omega)) (nI_clamp (by omega)) (by show N * 8 ≤ _; omega) (by omega) (by omega) hd (fun q cA H1 r0 r1 r2 r3 => ?_)
  obtain rfl : cA = g.2.2.1.2.1 := jRAl (r0.2 3 (cA, .long) rfl).2 (hK.1.2 1 _ rfl).2
  rw [jws_push] at r1 r2
  have K := kk (va_up ad n q) (fun i hi => if_neg (Nat.ne_of_lt hi)) l p e R s m args below meth c H1 locs (cells + 1) (slots + N) ls C (by omega) (by omega) ⟨r1, r2⟩ r3 hlh
  rwa [show va_up ad n q n = q from if_pos rfl] at K
/-- new int[N][K] -/
theorem j_newII {N K0 : Nat} (w1 : Cond.arrayClass .int ∈ TT) (w2 : Cond.classLink M.1.cls idx "[[I" ∈ TT) (hN : N ≤ 1000) (hK0 : K0 ≤ 1000) (hd : decode M.2.1 pc = .ok (.multianewarray idx 2, 4)) (kk : ∀ ad' : Nat → Nat, (∀ i, i < n → ad' i = ad i) → J g M d bc bs (pc + 4) L (.ref (ad' n) :: st) (n + 1 + N) ad' (fun k => if k < n then E k else if k = n then aO g N (fun i => if i < N then some (ad' (n + 1 + i)) else none) else aI g K0 (fun _ => 0)) Φ Ψ) : J g M d (bc + 1 + N) (bs + N + N * K0) pc L (.int (nI K0) :: .int (nI N) :: st) n ad E Φ Ψ := by
  intro l p e R s m args below meth c H locs cells slots ls C h1 h2 hW hS hlh
  have hts := C.2.2.2.2.2.2.1
  have hK := C.2.2.2.2.2.2.2.2.2.2.2.2
  have hP0 : va_P g.2.1 vwCl (jws n ad E ++ va_pl [] (fun _ => aI g K0 (fun _ => 0))) H := by
    show va_P g.2.1 vwCl (jws n ad E ++ []) H
    rw [List.append_nil]; exact hW.1
  have hD0 : va_D (jA g) (jws n ad E ++ va_pl [] (fun _ => aI g K0 (fun _ => 0))) := by
    show va_D (jA g) (jws n ad E ++ [])
    rw [List.append_nil]; exact hW.2
  refine va_mna (ty := .int) (cy := g.2.2.1.1) (z := (K0, .inl (fun _ => 0))) (N' := N) (K' := K0) C.1 C.2.1 C.2.2.2.2.2.1 (hts _ w2) hK.2.2.2.2.2.2.2.1 (hts _ w1) (hK.1.2 0 _ rfl).2 hK.1 hP0 hD0 hS (fun q hq => Nat.le_trans hK.2.2.2.2.2.2.1 hq) (nI_pos (by omega)) (nI_pos (by omega)) (nI_clamp (by omega)) (nI_clamp (by omega)) (by omega) (by show K0 * 4 ≤ _; omega) (by omega) rfl rfl (by omega) (by omega) (fun c => arrV_new c K0 (.int 0)) hd (fun q r cA H1 rinj rnot r0 r1 r2 r3 => ?_)
  obtain rfl : cA = g.2.2.1.2.2 := jRAo (r0.2 3 (cA, .array .int) rfl).2 (hK.1.2 2 _ rfl).2
  have hX : (jws n ad E ++ [(q, .inl (g.2.2.1.2.2, N, .inr (.inr (.inr (.inr (fun i => if i < N then some (r i) else none))))))]) ++ va_pl ([] ++ (List.range N).map r) (vr_up (fun _ => aI g K0 (fun _ => 0)) ((List.range N).map r) (.inl (g.2.2.1.1, (K0, .inl (fun _ => 0))))) = jws (n + 1 + N) (fun k => if k < n then ad k else if k = n then q else r (k - (n + 1))) (fun k => if k < n then E k else if k = n then aO g N (fun i => if i < N then some (r i) else none) else aI g K0 (fun _ => 0)) := by
    unfold jws
    rw [List.range_add, List.range_succ, List.map_append, List.map_append, List.map_map]
    congr 1
    · congr 1
      · apply List.map_congr_left
        intro k hk
        have := List.mem_range.mp hk
        simp [this]
      · simp
    · unfold va_pl
      rw [List.nil_append, List.map_map]
      apply List.map_congr_left
      intro k hk
      have hk' := List.mem_range.mp hk
      have e1 : ¬ (n + 1 + k < n) := by omega
      have e2 : ¬ (n + 1 + k = n) := by omega
      have e3 : n + 1 + k - (n + 1) = k := by omega
      simp only [Function.comp, e1, e2, e3, if_false]
      rw [vr_up_in (List.mem_map.mpr ⟨k, hk, rfl⟩)]
  rw [hX] at r1 r2
  have K := kk (fun k => if k < n then ad k else if k = n then q else r (k - (n + 1))) (fun i hi => if_pos hi) l p e R s m args below meth c H1 locs (cells + 1 + N) (slots + N + N * K0) ls C (by omega) (by omega) (jWd.congr ⟨r1, r2⟩ (fun _ _ => rfl) (fun k hk => ?_)) r3 hlh
  · simpa using K
  · have : (fun i => if i < N then some (r i) else none) = (fun i => if i < N then some (if n + 1 + i < n then ad (n + 1 + i) else if n + 1 + i = n then q else r (n + 1 + i - (n + 1))) else none) := by
      funext i
      have e1 : ¬ (n + 1 + i < n) := by omega
      have e2 : ¬ (n + 1 + i = n) := by omega
      have e3 : n + 1 + i - (n + 1) = i := by omega
      simp only [e1, e2, e3, if_false]
    rw [this]
/-! throw new X("text") -/
def jTh (own : String) (ik is ic : Nat) (cls text : String) (names : List String) : Prop := own = RX3 ∧ Bundle.fit cls = true ∧ (∀ x ∈ names, Bundle.fit x = true) ∧ Cond.classLink own ik cls ∈ TT ∧ Cond.initialized cls ∈ TT ∧ (is, text) ∈ jStr ∧ (∀ w ∈ vx_atS own ic cls names, w ∈ TT ∨ w ∈ NW) ∧ (∀ w ∈ Cond.classLink own ik cls :: Cond.initialized cls :: vx_atS own ic cls names, vx_ot w = true) ∧ names.length = 2
theorem jTh_hat {s : State} {args : Array Value} {own cls text : String} {ik is ic : Nat} {names : List String} (hts : ∀ w ∈ TT, w.before args s = true) (hK : jK g s) (f : jTh own ik is ic cls text names) : ∀ w ∈ vx_atS own ic cls names, w.before args s = true := fun w hw => by
  rcases f.2.2.2.2.2.2.1 w hw with h | h
  · exact hts w h
  · exact va_Nw.use (jNw_tab (List.mem_filter.mp h).2) (hK.2.2.2.2.2.2.2.2.1 w h)
theorem j_throw {ik is ic : Nat} {cls text : String} {names : List String} (f : jTh M.1.cls ik is ic cls text names) (hh : M.2.2.2.2 = []) (d0 : decode M.2.1 pc = .ok (.new ik, 3)) (d3 : decode M.2.1 (pc + 3) = .ok (.dup, 1)) (d4 : decode M.2.1 (pc + 4) = .ok (.ldc is, 2)) (d6 : decode M.2.1 (pc + 6) = .ok (.invokespecial ic, 3)) (d9 : decode M.2.1 (pc + 9) = .ok (.athrow, 1)) (hdep : 6 ≤ d) (hcat : (st.map fun v => v.category).sum ≤ 8) (h : Ψ cls n ad E) : J g M d (bc + 1) (bs + 6) pc L st n ad E Φ Ψ := by
  intro l p e R s m args below meth c H locs cells slots ls C h1 h2 hW hS hlh
  have hts := C.2.2.2.2.2.2.1
  have hK := C.2.2.2.2.2.2.2.2.2.2.2.2
  have hdR := C.2.2.2.2.2.2.2.2.2.2.1
  have hlR := C.2.2.2.2.2.2.2.2.2.2.2.1
  have hlen := f.2.2.2.2.2.2.2.2
  refine vx_throwS (cls := cls) (text := text) (names := names) (sa := g.2.2.2 is) C.1 C.2.1 C.2.2.2.2.2.2.2.2.2.1 C.2.2.2.2.2.1 f.2.1 f.2.2.1 (hts _ f.2.2.2.1) (hts _ f.2.2.2.2.1) (by rw [f.1]; exact hK.2.1 _ f.2.2.2.2.2.1) (jTh_hat hts hK f) f.2.2.2.2.2.2.2.1 hK.2.2.1 hK.2.2.2.1 hS (hlh.1.trans C.2.2.1.symm) d0 d3 d4 d6 d9 ?_ (by omega) (by rw [hlen]; omega) (by omega) (by omega) C.2.2.2.2.1 (fun t _ hz hq => ⟨⟨n, ad, E, h, ?_⟩, ?_⟩) hS.2.2 (by omega) (by omega)
  · have := C.2.2.2.2.2.2.2.1
    rw [hh] at this
    intro x hx
    rw [this] at hx
    cases hx
  · exact ⟨hW.1.kept (fun k q hk => hq q.1 ((hW.1 k q hk).lt)), hW.2⟩
  · exact ⟨Nat.le_trans hS.1 hz, fun q h1 h2 => (hq q (Nat.lt_of_lt_of_le h1 hS.1)).trans (hS.2.1 q h1 h2)⟩
theorem j_throwW {ik is ic : Nat} {cls text : String} {names : List String} (f : jTh M.1.cls ik is ic cls text names) (hh : M.2.2.2.2 = []) (d0 : decode M.2.1 pc = .ok (.new ik, 3)) (d3 : decode M.2.1 (pc + 3) = .ok (.dup, 1)) (d4 : decode M.2.1 (pc + 4) = .ok (.ldc_w is, 3)) (d6 : decode M.2.1 (pc + 7) = .ok (.invokespecial ic, 3)) (d9 : decode M.2.1 (pc + 10) = .ok (.athrow, 1)) (hdep : 6 ≤ d) (hcat : (st.map fun v => v.category).sum ≤ 8) (h : Ψ cls n ad E) : J g M d (bc + 1) (bs + 6) pc L st n ad E Φ Ψ := by
  intro l p e R s m args below meth c H locs cells slots ls C h1 h2 hW hS hlh
  have hts := C.2.2.2.2.2.2.1
  have hK := C.2.2.2.2.2.2.2.2.2.2.2.2
  have hdR := C.2.2.2.2.2.2.2.2.2.2.1
  have hlR := C.2.2.2.2.2.2.2.2.2.2.2.1
  have hlen := f.2.2.2.2.2.2.2.2
  refine vx_throwSW (cls := cls) (text := text) (names := names) (sa := g.2.2.2 is) C.1 C.2.1 C.2.2.2.2.2.2.2.2.2.1 C.2.2.2.2.2.1 f.2.1 f.2.2.1 (hts _ f.2.2.2.1) (hts _ f.2.2.2.2.1) (by rw [f.1]; exact hK.2.1 _ f.2.2.2.2.2.1) (jTh_hat hts hK f) f.2.2.2.2.2.2.2.1 hK.2.2.1 hK.2.2.2.1 hS (hlh.1.trans C.2.2.1.symm) d0 d3 d4 d6 d9 ?_ (by omega) (by rw [hlen]; omega) (by omega) (by omega) C.2.2.2.2.1 (fun t _ hz hq => ⟨⟨n, ad, E, h, ?_⟩, ?_⟩) hS.2.2 (by omega) (by omega)
  · have := C.2.2.2.2.2.2.2.1
    rw [hh] at this
    intro x hx
    rw [this] at hx
    cases hx
  · exact ⟨hW.1.kept (fun k q hk => hq q.1 ((hW.1 k q hk).lt)), hW.2⟩
  · exact ⟨Nat.le_trans hS.1 hz, fun q h1 h2 => (hq q (Nat.lt_of_lt_of_le h1 hS.1)).trans (hS.2.1 q h1 h2)⟩
end JCALL
end
section
/-! By program: the methods, what links to what. -/
abbrev mX0_init : jM := (yX0_init, cX0_init, 1, none, [])
theorem cm_X0_init : jYm mX0_init 0 := ⟨tt_of 126 (by decide +kernel) rfl, tt_of 52 (by decide +kernel) rfl, ⟨by decide +kernel, by decide +kernel⟩, by decide +kernel, by decide +kernel, by decide +kernel⟩
theorem ci_X0_init : Cond.instanceMethod mX0_init.1 ∈ TT := tt_of 125 (by decide +kernel) rfl
abbrev mX0_countIn : jM := (yX0_countIn, cX0_countIn, 4, none, [])
theorem cm_X0_countIn : jYm mX0_countIn 1 := ⟨tt_of 245 (by decide +kernel) rfl, tt_of 52 (by decide +kernel) rfl, ⟨by decide +kernel, by decide +kernel⟩, by decide +kernel, by decide +kernel, by decide +kernel⟩
theorem ci_X0_countIn : Cond.instanceMethod mX0_countIn.1 ∈ TT := tt_of 243 (by decide +kernel) rfl
theorem cs_X0_countIn : Cond.selects mX0_countIn.1.cls mX0_countIn.1 mX0_countIn.1 ∈ TT := tt_of 244 (by decide +kernel) rfl
abbrev mX0_countOf : jM := (yX0_countOf, cX0_countOf, 7, (some .int), [])
theorem cm_X0_countOf : jYm mX0_countOf 3 := ⟨tt_of 248 (by decide +kernel) rfl, tt_of 52 (by decide +kernel) rfl, ⟨by decide +kernel, by decide +kernel⟩, by decide +kernel, by decide +kernel, by decide +kernel⟩
theorem ct_X0_countOf : Cond.static mX0_countOf.1 ∈ TT := tt_of 247 (by decide +kernel) rfl
abbrev mX0_outWithSwap : jM := (yX0_outWithSwap, cX0_outWithSwap, 6, (some .int), [])
theorem cm_X0_outWithSwap : jYm mX0_outWithSwap 2 := ⟨tt_of 253 (by decide +kernel) rfl, tt_of 52 (by decide +kernel) rfl, ⟨by decide +kernel, by decide +kernel⟩, by decide +kernel, by decide +kernel, by decide +kernel⟩
theorem ci_X0_outWithSwap : Cond.instanceMethod mX0_outWithSwap.1 ∈ TT := tt_of 251 (by decide +kernel) rfl
theorem cs_X0_outWithSwap : Cond.selects mX0_outWithSwap.1.cls mX0_outWithSwap.1 mX0_outWithSwap.1 ∈ TT := tt_of 252 (by decide +kernel) rfl
abbrev mX0_swapped : jM := (yX0_swapped, cX0_swapped, 3, (some .int), [])
theorem cm_X0_swapped : jYm mX0_swapped 3 := ⟨tt_of 256 (by decide +kernel) rfl, tt_of 52 (by decide +kernel) rfl, ⟨by decide +kernel, by decide +kernel⟩, by decide +kernel, by decide +kernel, by decide +kernel⟩
theorem ct_X0_swapped : Cond.static mX0_swapped.1 ∈ TT := tt_of 255 (by decide +kernel) rfl
abbrev mX0_bestPartner : jM := (yX0_bestPartner, cX0_bestPartner, 6, (some .int), [])
theorem cm_X0_bestPartner : jYm mX0_bestPartner 1 := ⟨tt_of 449 (by decide +kernel) rfl, tt_of 52 (by decide +kernel) rfl, ⟨by decide +kernel, by decide +kernel⟩, by decide +kernel, by decide +kernel, by decide +kernel⟩
theorem ci_X0_bestPartner : Cond.instanceMethod mX0_bestPartner.1 ∈ TT := tt_of 447 (by decide +kernel) rfl
theorem cs_X0_bestPartner : Cond.selects mX0_bestPartner.1.cls mX0_bestPartner.1 mX0_bestPartner.1 ∈ TT := tt_of 448 (by decide +kernel) rfl
abbrev mX1_init : jM := (yX1_init, cX1_init, 2, none, [])
theorem cm_X1_init : jYm mX1_init 1 := ⟨tt_of 104 (by decide +kernel) rfl, tt_of 50 (by decide +kernel) rfl, ⟨by decide +kernel, by decide +kernel⟩, by decide +kernel, by decide +kernel, by decide +kernel⟩
theorem ci_X1_init : Cond.instanceMethod mX1_init.1 ∈ TT := tt_of 103 (by decide +kernel) rfl
abbrev mX1_clearAll : jM := (yX1_clearAll, cX1_clearAll, 1, none, [])
theorem cm_X1_clearAll : jYm mX1_clearAll 0 := ⟨tt_of 499 (by decide +kernel) rfl, tt_of 50 (by decide +kernel) rfl, ⟨by decide +kernel, by decide +kernel⟩, by decide +kernel, by decide +kernel, by decide +kernel⟩
theorem ci_X1_clearAll : Cond.instanceMethod mX1_clearAll.1 ∈ TT := tt_of 497 (by decide +kernel) rfl
theorem cs_X1_clearAll : Cond.selects mX1_clearAll.1.cls mX1_clearAll.1 mX1_clearAll.1 ∈ TT := tt_of 498 (by decide +kernel) rfl
abbrev mX1_row : jM := (yX1_row, cX1_row, 3, (some (.array .int)), [])
theorem cm_X1_row : jYm mX1_row 1 := ⟨tt_of 483 (by decide +kernel) rfl, tt_of 50 (by decide +kernel) rfl, ⟨by decide +kernel, by decide +kernel⟩, by decide +kernel, by decide +kernel, by decide +kernel⟩
theorem ci_X1_row : Cond.instanceMethod mX1_row.1 ∈ TT := tt_of 481 (by decide +kernel) rfl
theorem cs_X1_row : Cond.selects mX1_row.1.cls mX1_row.1 mX1_row.1 ∈ TT := tt_of 482 (by decide +kernel) rfl
abbrev mX1_addLatest : jM := (yX1_addLatest, cX1_addLatest, 4, none, [])
theorem cm_X1_addLatest : jYm mX1_addLatest 1 := ⟨tt_of 519 (by decide +kernel) rfl, tt_of 50 (by decide +kernel) rfl, ⟨by decide +kernel, by decide +kernel⟩, by decide +kernel, by decide +kernel, by decide +kernel⟩
theorem ci_X1_addLatest : Cond.instanceMethod mX1_addLatest.1 ∈ TT := tt_of 517 (by decide +kernel) rfl
theorem cs_X1_addLatest : Cond.selects mX1_addLatest.1.cls mX1_addLatest.1 mX1_addLatest.1 ∈ TT := tt_of 518 (by decide +kernel) rfl
abbrev mX1_dropLatest : jM := (yX1_dropLatest, cX1_dropLatest, 1, none, [])
theorem cm_X1_dropLatest : jYm mX1_dropLatest 0 := ⟨tt_of 623 (by decide +kernel) rfl, tt_of 50 (by decide +kernel) rfl, ⟨by decide +kernel, by decide +kernel⟩, by decide +kernel, by decide +kernel, by decide +kernel⟩
theorem ci_X1_dropLatest : Cond.instanceMethod mX1_dropLatest.1 ∈ TT := tt_of 621 (by decide +kernel) rfl
theorem cs_X1_dropLatest : Cond.selects mX1_dropLatest.1.cls mX1_dropLatest.1 mX1_dropLatest.1 ∈ TT := tt_of 622 (by decide +kernel) rfl
abbrev mX2_init : jM := (yX2_init, cX2_init, 1, none, [])
theorem cm_X2_init : jYm mX2_init 0 := ⟨tt_of 73 (by decide +kernel) rfl, tt_of 49 (by decide +kernel) rfl, ⟨by decide +kernel, by decide +kernel⟩, by decide +kernel, by decide +kernel, by decide +kernel⟩
theorem ci_X2_init : Cond.instanceMethod mX2_init.1 ∈ TT := tt_of 72 (by decide +kernel) rfl
abbrev mX2_layDry : jM := (yX2_layDry, cX2_layDry, 4, none, [])
theorem cm_X2_layDry : jYm mX2_layDry 2 := ⟨tt_of 139 (by decide +kernel) rfl, tt_of 49 (by decide +kernel) rfl, ⟨by decide +kernel, by decide +kernel⟩, by decide +kernel, by decide +kernel, by decide +kernel⟩
theorem ci_X2_layDry : Cond.instanceMethod mX2_layDry.1 ∈ TT := tt_of 137 (by decide +kernel) rfl
theorem cs_X2_layDry : Cond.selects mX2_layDry.1.cls mX2_layDry.1 mX2_layDry.1 ∈ TT := tt_of 138 (by decide +kernel) rfl
abbrev mX2_copyFrom : jM := (yX2_copyFrom, cX2_copyFrom, 3, none, [])
theorem cm_X2_copyFrom : jYm mX2_copyFrom 1 := ⟨tt_of 264 (by decide +kernel) rfl, tt_of 49 (by decide +kernel) rfl, ⟨by decide +kernel, by decide +kernel⟩, by decide +kernel, by decide +kernel, by decide +kernel⟩
theorem ci_X2_copyFrom : Cond.instanceMethod mX2_copyFrom.1 ∈ TT := tt_of 262 (by decide +kernel) rfl
theorem cs_X2_copyFrom : Cond.selects mX2_copyFrom.1.cls mX2_copyFrom.1 mX2_copyFrom.1 ∈ TT := tt_of 263 (by decide +kernel) rfl
abbrev mX2_puddleCount : jM := (yX2_puddleCount, cX2_puddleCount, 1, (some .int), [])
theorem cm_X2_puddleCount : jYm mX2_puddleCount 0 := ⟨tt_of 225 (by decide +kernel) rfl, tt_of 49 (by decide +kernel) rfl, ⟨by decide +kernel, by decide +kernel⟩, by decide +kernel, by decide +kernel, by decide +kernel⟩
theorem ci_X2_puddleCount : Cond.instanceMethod mX2_puddleCount.1 ∈ TT := tt_of 223 (by decide +kernel) rfl
theorem cs_X2_puddleCount : Cond.selects mX2_puddleCount.1.cls mX2_puddleCount.1 mX2_puddleCount.1 ∈ TT := tt_of 224 (by decide +kernel) rfl
abbrev mX2_numberOf : jM := (yX2_numberOf, cX2_numberOf, 3, (some .int), [])
theorem cm_X2_numberOf : jYm mX2_numberOf 2 := ⟨tt_of 213 (by decide +kernel) rfl, tt_of 49 (by decide +kernel) rfl, ⟨by decide +kernel, by decide +kernel⟩, by decide +kernel, by decide +kernel, by decide +kernel⟩
theorem ci_X2_numberOf : Cond.instanceMethod mX2_numberOf.1 ∈ TT := tt_of 211 (by decide +kernel) rfl
theorem cs_X2_numberOf : Cond.selects mX2_numberOf.1.cls mX2_numberOf.1 mX2_numberOf.1 ∈ TT := tt_of 212 (by decide +kernel) rfl
abbrev mX2_level : jM := (yX2_level, cX2_level, 3, (some .int), [])
theorem cm_X2_level : jYm mX2_level 2 := ⟨tt_of 209 (by decide +kernel) rfl, tt_of 49 (by decide +kernel) rfl, ⟨by decide +kernel, by decide +kernel⟩, by decide +kernel, by decide +kernel, by decide +kernel⟩
theorem ci_X2_level : Cond.instanceMethod mX2_level.1 ∈ TT := tt_of 207 (by decide +kernel) rfl
theorem cs_X2_level : Cond.selects mX2_level.1.cls mX2_level.1 mX2_level.1 ∈ TT := tt_of 208 (by decide +kernel) rfl
abbrev mX2_add : jM := (yX2_add, cX2_add, 4, none, [])
theorem cm_X2_add : jYm mX2_add 3 := ⟨tt_of 525 (by decide +kernel) rfl, tt_of 49 (by decide +kernel) rfl, ⟨by decide +kernel, by decide +kernel⟩, by decide +kernel, by decide +kernel, by decide +kernel⟩
theorem ci_X2_add : Cond.instanceMethod mX2_add.1 ∈ TT := tt_of 523 (by decide +kernel) rfl
theorem cs_X2_add : Cond.selects mX2_add.1.cls mX2_add.1 mX2_add.1 ∈ TT := tt_of 524 (by decide +kernel) rfl
abbrev mX2_exchange : jM := (yX2_exchange, cX2_exchange, 4, none, [])
theorem cm_X2_exchange : jYm mX2_exchange 2 := ⟨tt_of 553 (by decide +kernel) rfl, tt_of 49 (by decide +kernel) rfl, ⟨by decide +kernel, by decide +kernel⟩, by decide +kernel, by decide +kernel, by decide +kernel⟩
theorem ci_X2_exchange : Cond.instanceMethod mX2_exchange.1 ∈ TT := tt_of 551 (by decide +kernel) rfl
theorem cs_X2_exchange : Cond.selects mX2_exchange.1.cls mX2_exchange.1 mX2_exchange.1 ∈ TT := tt_of 552 (by decide +kernel) rfl
abbrev mX2_changedFrom : jM := (yX2_changedFrom, cX2_changedFrom, 4, (some .int), [])
theorem cm_X2_changedFrom : jYm mX2_changedFrom 1 := ⟨tt_of 487 (by decide +kernel) rfl, tt_of 49 (by decide +kernel) rfl, ⟨by decide +kernel, by decide +kernel⟩, by decide +kernel, by decide +kernel, by decide +kernel⟩
theorem ci_X2_changedFrom : Cond.instanceMethod mX2_changedFrom.1 ∈ TT := tt_of 485 (by decide +kernel) rfl
theorem cs_X2_changedFrom : Cond.selects mX2_changedFrom.1.cls mX2_changedFrom.1 mX2_changedFrom.1 ∈ TT := tt_of 486 (by decide +kernel) rfl
abbrev mX2_takeFrom : jM := (yX2_takeFrom, cX2_takeFrom, 4, (some .int), [])
theorem cm_X2_takeFrom : jYm mX2_takeFrom 1 := ⟨tt_of 610 (by decide +kernel) rfl, tt_of 49 (by decide +kernel) rfl, ⟨by decide +kernel, by decide +kernel⟩, by decide +kernel, by decide +kernel, by decide +kernel⟩
theorem ci_X2_takeFrom : Cond.instanceMethod mX2_takeFrom.1 ∈ TT := tt_of 608 (by decide +kernel) rfl
theorem cs_X2_takeFrom : Cond.selects mX2_takeFrom.1.cls mX2_takeFrom.1 mX2_takeFrom.1 ∈ TT := tt_of 609 (by decide +kernel) rfl
abbrev mX2_alikeSteps : jM := (yX2_alikeSteps, cX2_alikeSteps, 5, (some .int), [])
theorem cm_X2_alikeSteps : jYm mX2_alikeSteps 2 := ⟨tt_of 548 (by decide +kernel) rfl, tt_of 49 (by decide +kernel) rfl, ⟨by decide +kernel, by decide +kernel⟩, by decide +kernel, by decide +kernel, by decide +kernel⟩
theorem ci_X2_alikeSteps : Cond.instanceMethod mX2_alikeSteps.1 ∈ TT := tt_of 546 (by decide +kernel) rfl
theorem cs_X2_alikeSteps : Cond.selects mX2_alikeSteps.1.cls mX2_alikeSteps.1 mX2_alikeSteps.1 ∈ TT := tt_of 547 (by decide +kernel) rfl
abbrev mX2_partSum : jM := (yX2_partSum, cX2_partSum, 9, (some .long), [])
theorem cm_X2_partSum : jYm mX2_partSum 4 := ⟨tt_of 205 (by decide +kernel) rfl, tt_of 49 (by decide +kernel) rfl, ⟨by decide +kernel, by decide +kernel⟩, by decide +kernel, by decide +kernel, by decide +kernel⟩
theorem ci_X2_partSum : Cond.instanceMethod mX2_partSum.1 ∈ TT := tt_of 203 (by decide +kernel) rfl
theorem cs_X2_partSum : Cond.selects mX2_partSum.1.cls mX2_partSum.1 mX2_partSum.1 ∈ TT := tt_of 204 (by decide +kernel) rfl
abbrev mX2_wholeSum : jM := (yX2_wholeSum, cX2_wholeSum, 1, (some .long), [])
theorem cm_X2_wholeSum : jYm mX2_wholeSum 0 := ⟨tt_of 201 (by decide +kernel) rfl, tt_of 49 (by decide +kernel) rfl, ⟨by decide +kernel, by decide +kernel⟩, by decide +kernel, by decide +kernel, by decide +kernel⟩
theorem ci_X2_wholeSum : Cond.instanceMethod mX2_wholeSum.1 ∈ TT := tt_of 199 (by decide +kernel) rfl
theorem cs_X2_wholeSum : Cond.selects mX2_wholeSum.1.cls mX2_wholeSum.1 mX2_wholeSum.1 ∈ TT := tt_of 200 (by decide +kernel) rfl
abbrev mX2_dryInPart : jM := (yX2_dryInPart, cX2_dryInPart, 8, (some .int), [])
theorem cm_X2_dryInPart : jYm mX2_dryInPart 4 := ⟨tt_of 233 (by decide +kernel) rfl, tt_of 49 (by decide +kernel) rfl, ⟨by decide +kernel, by decide +kernel⟩, by decide +kernel, by decide +kernel, by decide +kernel⟩
theorem ci_X2_dryInPart : Cond.instanceMethod mX2_dryInPart.1 ∈ TT := tt_of 231 (by decide +kernel) rfl
theorem cs_X2_dryInPart : Cond.selects mX2_dryInPart.1.cls mX2_dryInPart.1 mX2_dryInPart.1 ∈ TT := tt_of 232 (by decide +kernel) rfl
abbrev mX2_upToLevel : jM := (yX2_upToLevel, cX2_upToLevel, 4, (some .int), [])
theorem cm_X2_upToLevel : jYm mX2_upToLevel 1 := ⟨tt_of 221 (by decide +kernel) rfl, tt_of 49 (by decide +kernel) rfl, ⟨by decide +kernel, by decide +kernel⟩, by decide +kernel, by decide +kernel, by decide +kernel⟩
theorem ci_X2_upToLevel : Cond.instanceMethod mX2_upToLevel.1 ∈ TT := tt_of 219 (by decide +kernel) rfl
theorem cs_X2_upToLevel : Cond.selects mX2_upToLevel.1.cls mX2_upToLevel.1 mX2_upToLevel.1 ∈ TT := tt_of 220 (by decide +kernel) rfl
abbrev mX2_allDry : jM := (yX2_allDry, cX2_allDry, 1, (some .boolean), [])
theorem cm_X2_allDry : jYm mX2_allDry 0 := ⟨tt_of 268 (by decide +kernel) rfl, tt_of 49 (by decide +kernel) rfl, ⟨by decide +kernel, by decide +kernel⟩, by decide +kernel, by decide +kernel, by decide +kernel⟩
theorem ci_X2_allDry : Cond.instanceMethod mX2_allDry.1 ∈ TT := tt_of 266 (by decide +kernel) rfl
theorem cs_X2_allDry : Cond.selects mX2_allDry.1.cls mX2_allDry.1 mX2_allDry.1 ∈ TT := tt_of 267 (by decide +kernel) rfl
abbrev mX2_flowFor : jM := (yX2_flowFor, cX2_flowFor, 4, (some .int), [])
theorem cm_X2_flowFor : jYm mX2_flowFor 1 := ⟨tt_of 386 (by decide +kernel) rfl, tt_of 49 (by decide +kernel) rfl, ⟨by decide +kernel, by decide +kernel⟩, by decide +kernel, by decide +kernel, by decide +kernel⟩
theorem ci_X2_flowFor : Cond.instanceMethod mX2_flowFor.1 ∈ TT := tt_of 384 (by decide +kernel) rfl
theorem cs_X2_flowFor : Cond.selects mX2_flowFor.1.cls mX2_flowFor.1 mX2_flowFor.1 ∈ TT := tt_of 385 (by decide +kernel) rfl
abbrev mX2_flowOneHour : jM := (yX2_flowOneHour, cX2_flowOneHour, 1, (some .int), [])
theorem cm_X2_flowOneHour : jYm mX2_flowOneHour 0 := ⟨tt_of 273 (by decide +kernel) rfl, tt_of 49 (by decide +kernel) rfl, ⟨by decide +kernel, by decide +kernel⟩, by decide +kernel, by decide +kernel, by decide +kernel⟩
theorem ci_X2_flowOneHour : Cond.instanceMethod mX2_flowOneHour.1 ∈ TT := tt_of 271 (by decide +kernel) rfl
theorem cs_X2_flowOneHour : Cond.selects mX2_flowOneHour.1.cls mX2_flowOneHour.1 mX2_flowOneHour.1 ∈ TT := tt_of 272 (by decide +kernel) rfl
abbrev mX2_dryUp : jM := (yX2_dryUp, cX2_dryUp, 4, none, [])
theorem cm_X2_dryUp : jYm mX2_dryUp 0 := ⟨tt_of 277 (by decide +kernel) rfl, tt_of 49 (by decide +kernel) rfl, ⟨by decide +kernel, by decide +kernel⟩, by decide +kernel, by decide +kernel, by decide +kernel⟩
theorem ci_X2_dryUp : Cond.instanceMethod mX2_dryUp.1 ∈ TT := tt_of 276 (by decide +kernel) rfl
theorem cs_X2_dryUp : Cond.selects mX2_dryUp.1.cls mX2_dryUp.1 mX2_dryUp.1 ∈ TT := tt_of 0 (by decide +kernel) rfl
abbrev mX2_runDown : jM := (yX2_runDown, cX2_runDown, 6, (some .int), [])
theorem cm_X2_runDown : jYm mX2_runDown 0 := ⟨tt_of 281 (by decide +kernel) rfl, tt_of 49 (by decide +kernel) rfl, ⟨by decide +kernel, by decide +kernel⟩, by decide +kernel, by decide +kernel, by decide +kernel⟩
theorem ci_X2_runDown : Cond.instanceMethod mX2_runDown.1 ∈ TT := tt_of 280 (by decide +kernel) rfl
theorem cs_X2_runDown : Cond.selects mX2_runDown.1.cls mX2_runDown.1 mX2_runDown.1 ∈ TT := tt_of 1 (by decide +kernel) rfl
abbrev mX3_init : jM := (yX3_init, cX3_init, 1, none, [])
theorem cm_X3_init : jYm mX3_init 0 := ⟨tt_of 65 (by decide +kernel) rfl, tt_of 48 (by decide +kernel) rfl, ⟨by decide +kernel, by decide +kernel⟩, by decide +kernel, by decide +kernel, by decide +kernel⟩
theorem ci_X3_init : Cond.instanceMethod mX3_init.1 ∈ TT := tt_of 64 (by decide +kernel) rfl
abbrev mX3_lay : jM := (yX3_lay, cX3_lay, 3, (some .int), [])
theorem cm_X3_lay : jYm mX3_lay 2 := ⟨tt_of 495 (by decide +kernel) rfl, tt_of 48 (by decide +kernel) rfl, ⟨by decide +kernel, by decide +kernel⟩, by decide +kernel, by decide +kernel, by decide +kernel⟩
theorem ci_X3_lay : Cond.instanceMethod mX3_lay.1 ∈ TT := tt_of 493 (by decide +kernel) rfl
theorem cs_X3_lay : Cond.selects mX3_lay.1.cls mX3_lay.1 mX3_lay.1 ∈ TT := tt_of 494 (by decide +kernel) rfl
abbrev mX3_rain : jM := (yX3_rain, cX3_rain, 4, (some .int), [])
theorem cm_X3_rain : jYm mX3_rain 3 := ⟨tt_of 507 (by decide +kernel) rfl, tt_of 48 (by decide +kernel) rfl, ⟨by decide +kernel, by decide +kernel⟩, by decide +kernel, by decide +kernel, by decide +kernel⟩
theorem ci_X3_rain : Cond.instanceMethod mX3_rain.1 ∈ TT := tt_of 505 (by decide +kernel) rfl
theorem cs_X3_rain : Cond.selects mX3_rain.1.cls mX3_rain.1 mX3_rain.1 ∈ TT := tt_of 506 (by decide +kernel) rfl
abbrev mX3_splash : jM := (yX3_splash, cX3_splash, 8, (some .int), [])
theorem cm_X3_splash : jYm mX3_splash 5 := ⟨tt_of 532 (by decide +kernel) rfl, tt_of 48 (by decide +kernel) rfl, ⟨by decide +kernel, by decide +kernel⟩, by decide +kernel, by decide +kernel, by decide +kernel⟩
theorem ci_X3_splash : Cond.instanceMethod mX3_splash.1 ∈ TT := tt_of 530 (by decide +kernel) rfl
theorem cs_X3_splash : Cond.selects mX3_splash.1.cls mX3_splash.1 mX3_splash.1 ∈ TT := tt_of 531 (by decide +kernel) rfl
abbrev mX3_swap : jM := (yX3_swap, cX3_swap, 5, (some .int), [])
theorem cm_X3_swap : jYm mX3_swap 2 := ⟨tt_of 544 (by decide +kernel) rfl, tt_of 48 (by decide +kernel) rfl, ⟨by decide +kernel, by decide +kernel⟩, by decide +kernel, by decide +kernel, by decide +kernel⟩
theorem ci_X3_swap : Cond.instanceMethod mX3_swap.1 ∈ TT := tt_of 542 (by decide +kernel) rfl
theorem cs_X3_swap : Cond.selects mX3_swap.1.cls mX3_swap.1 mX3_swap.1 ∈ TT := tt_of 543 (by decide +kernel) rfl
abbrev mX3_turn : jM := (yX3_turn, cX3_turn, 4, (some .int), [])
theorem cm_X3_turn : jYm mX3_turn 1 := ⟨tt_of 560 (by decide +kernel) rfl, tt_of 48 (by decide +kernel) rfl, ⟨by decide +kernel, by decide +kernel⟩, by decide +kernel, by decide +kernel, by decide +kernel⟩
theorem ci_X3_turn : Cond.instanceMethod mX3_turn.1 ∈ TT := tt_of 558 (by decide +kernel) rfl
theorem cs_X3_turn : Cond.selects mX3_turn.1.cls mX3_turn.1 mX3_turn.1 ∈ TT := tt_of 559 (by decide +kernel) rfl
abbrev mX3_bail : jM := (yX3_bail, cX3_bail, 7, (some .int), [])
theorem cm_X3_bail : jYm mX3_bail 2 := ⟨tt_of 567 (by decide +kernel) rfl, tt_of 48 (by decide +kernel) rfl, ⟨by decide +kernel, by decide +kernel⟩, by decide +kernel, by decide +kernel, by decide +kernel⟩
theorem ci_X3_bail : Cond.instanceMethod mX3_bail.1 ∈ TT := tt_of 565 (by decide +kernel) rfl
theorem cs_X3_bail : Cond.selects mX3_bail.1.cls mX3_bail.1 mX3_bail.1 ∈ TT := tt_of 566 (by decide +kernel) rfl
abbrev mX3_passHours : jM := (yX3_passHours, cX3_passHours, 3, (some .int), [])
theorem cm_X3_passHours : jYm mX3_passHours 1 := ⟨tt_of 575 (by decide +kernel) rfl, tt_of 48 (by decide +kernel) rfl, ⟨by decide +kernel, by decide +kernel⟩, by decide +kernel, by decide +kernel, by decide +kernel⟩
theorem ci_X3_passHours : Cond.instanceMethod mX3_passHours.1 ∈ TT := tt_of 573 (by decide +kernel) rfl
theorem cs_X3_passHours : Cond.selects mX3_passHours.1.cls mX3_passHours.1 mX3_passHours.1 ∈ TT := tt_of 574 (by decide +kernel) rfl
abbrev mX3_mark : jM := (yX3_mark, cX3_mark, 1, (some .int), [])
theorem cm_X3_mark : jYm mX3_mark 0 := ⟨tt_of 583 (by decide +kernel) rfl, tt_of 48 (by decide +kernel) rfl, ⟨by decide +kernel, by decide +kernel⟩, by decide +kernel, by decide +kernel, by decide +kernel⟩
theorem ci_X3_mark : Cond.instanceMethod mX3_mark.1 ∈ TT := tt_of 581 (by decide +kernel) rfl
theorem cs_X3_mark : Cond.selects mX3_mark.1.cls mX3_mark.1 mX3_mark.1 ∈ TT := tt_of 582 (by decide +kernel) rfl
abbrev mX3_back : jM := (yX3_back, cX3_back, 2, (some .int), [])
theorem cm_X3_back : jYm mX3_back 1 := ⟨tt_of 606 (by decide +kernel) rfl, tt_of 48 (by decide +kernel) rfl, ⟨by decide +kernel, by decide +kernel⟩, by decide +kernel, by decide +kernel, by decide +kernel⟩
theorem ci_X3_back : Cond.instanceMethod mX3_back.1 ∈ TT := tt_of 604 (by decide +kernel) rfl
theorem cs_X3_back : Cond.selects mX3_back.1.cls mX3_back.1 mX3_back.1 ∈ TT := tt_of 605 (by decide +kernel) rfl
abbrev mX3_undo : jM := (yX3_undo, cX3_undo, 2, (some .int), [])
theorem cm_X3_undo : jYm mX3_undo 0 := ⟨tt_of 618 (by decide +kernel) rfl, tt_of 48 (by decide +kernel) rfl, ⟨by decide +kernel, by decide +kernel⟩, by decide +kernel, by decide +kernel, by decide +kernel⟩
theorem ci_X3_undo : Cond.instanceMethod mX3_undo.1 ∈ TT := tt_of 616 (by decide +kernel) rfl
theorem cs_X3_undo : Cond.selects mX3_undo.1.cls mX3_undo.1 mX3_undo.1 ∈ TT := tt_of 617 (by decide +kernel) rfl
abbrev mX3_setSun : jM := (yX3_setSun, cX3_setSun, 3, (some .int), [])
theorem cm_X3_setSun : jYm mX3_setSun 1 := ⟨tt_of 630 (by decide +kernel) rfl, tt_of 48 (by decide +kernel) rfl, ⟨by decide +kernel, by decide +kernel⟩, by decide +kernel, by decide +kernel, by decide +kernel⟩
theorem ci_X3_setSun : Cond.instanceMethod mX3_setSun.1 ∈ TT := tt_of 628 (by decide +kernel) rfl
theorem cs_X3_setSun : Cond.selects mX3_setSun.1.cls mX3_setSun.1 mX3_setSun.1 ∈ TT := tt_of 629 (by decide +kernel) rfl
abbrev mX3_setEdge : jM := (yX3_setEdge, cX3_setEdge, 4, (some .int), [])
theorem cm_X3_setEdge : jYm mX3_setEdge 2 := ⟨tt_of 637 (by decide +kernel) rfl, tt_of 48 (by decide +kernel) rfl, ⟨by decide +kernel, by decide +kernel⟩, by decide +kernel, by decide +kernel, by decide +kernel⟩
theorem ci_X3_setEdge : Cond.instanceMethod mX3_setEdge.1 ∈ TT := tt_of 635 (by decide +kernel) rfl
theorem cs_X3_setEdge : Cond.selects mX3_setEdge.1.cls mX3_setEdge.1 mX3_setEdge.1 ∈ TT := tt_of 636 (by decide +kernel) rfl
abbrev mX3_flights : jM := (yX3_flights, cX3_flights, 1, (some .int), [])
theorem cm_X3_flights : jYm mX3_flights 0 := ⟨tt_of 169 (by decide +kernel) rfl, tt_of 48 (by decide +kernel) rfl, ⟨by decide +kernel, by decide +kernel⟩, by decide +kernel, by decide +kernel, by decide +kernel⟩
theorem ci_X3_flights : Cond.instanceMethod mX3_flights.1 ∈ TT := tt_of 167 (by decide +kernel) rfl
theorem cs_X3_flights : Cond.selects mX3_flights.1.cls mX3_flights.1 mX3_flights.1 ∈ TT := tt_of 168 (by decide +kernel) rfl
abbrev mX3_steps : jM := (yX3_steps, cX3_steps, 1, (some .int), [])
theorem cm_X3_steps : jYm mX3_steps 0 := ⟨tt_of 173 (by decide +kernel) rfl, tt_of 48 (by decide +kernel) rfl, ⟨by decide +kernel, by decide +kernel⟩, by decide +kernel, by decide +kernel, by decide +kernel⟩
theorem ci_X3_steps : Cond.instanceMethod mX3_steps.1 ∈ TT := tt_of 171 (by decide +kernel) rfl
theorem cs_X3_steps : Cond.selects mX3_steps.1.cls mX3_steps.1 mX3_steps.1 ∈ TT := tt_of 172 (by decide +kernel) rfl
abbrev mX3_hours : jM := (yX3_hours, cX3_hours, 1, (some .int), [])
theorem cm_X3_hours : jYm mX3_hours 0 := ⟨tt_of 177 (by decide +kernel) rfl, tt_of 48 (by decide +kernel) rfl, ⟨by decide +kernel, by decide +kernel⟩, by decide +kernel, by decide +kernel, by decide +kernel⟩
theorem ci_X3_hours : Cond.instanceMethod mX3_hours.1 ∈ TT := tt_of 175 (by decide +kernel) rfl
theorem cs_X3_hours : Cond.selects mX3_hours.1.cls mX3_hours.1 mX3_hours.1 ∈ TT := tt_of 176 (by decide +kernel) rfl
abbrev mX3_sun : jM := (yX3_sun, cX3_sun, 1, (some .int), [])
theorem cm_X3_sun : jYm mX3_sun 0 := ⟨tt_of 181 (by decide +kernel) rfl, tt_of 48 (by decide +kernel) rfl, ⟨by decide +kernel, by decide +kernel⟩, by decide +kernel, by decide +kernel, by decide +kernel⟩
theorem ci_X3_sun : Cond.instanceMethod mX3_sun.1 ∈ TT := tt_of 179 (by decide +kernel) rfl
theorem cs_X3_sun : Cond.selects mX3_sun.1.cls mX3_sun.1 mX3_sun.1 ∈ TT := tt_of 180 (by decide +kernel) rfl
abbrev mX3_edgeOf : jM := (yX3_edgeOf, cX3_edgeOf, 2, (some .int), [])
theorem cm_X3_edgeOf : jYm mX3_edgeOf 1 := ⟨tt_of 459 (by decide +kernel) rfl, tt_of 48 (by decide +kernel) rfl, ⟨by decide +kernel, by decide +kernel⟩, by decide +kernel, by decide +kernel, by decide +kernel⟩
theorem ci_X3_edgeOf : Cond.instanceMethod mX3_edgeOf.1 ∈ TT := tt_of 457 (by decide +kernel) rfl
theorem cs_X3_edgeOf : Cond.selects mX3_edgeOf.1.cls mX3_edgeOf.1 mX3_edgeOf.1 ∈ TT := tt_of 458 (by decide +kernel) rfl
abbrev mX3_marks : jM := (yX3_marks, cX3_marks, 1, (some .int), [])
theorem cm_X3_marks : jYm mX3_marks 0 := ⟨tt_of 185 (by decide +kernel) rfl, tt_of 48 (by decide +kernel) rfl, ⟨by decide +kernel, by decide +kernel⟩, by decide +kernel, by decide +kernel, by decide +kernel⟩
theorem ci_X3_marks : Cond.instanceMethod mX3_marks.1 ∈ TT := tt_of 183 (by decide +kernel) rfl
theorem cs_X3_marks : Cond.selects mX3_marks.1.cls mX3_marks.1 mX3_marks.1 ∈ TT := tt_of 184 (by decide +kernel) rfl
abbrev mX3_deeds : jM := (yX3_deeds, cX3_deeds, 1, (some .int), [])
theorem cm_X3_deeds : jYm mX3_deeds 0 := ⟨tt_of 189 (by decide +kernel) rfl, tt_of 48 (by decide +kernel) rfl, ⟨by decide +kernel, by decide +kernel⟩, by decide +kernel, by decide +kernel, by decide +kernel⟩
theorem ci_X3_deeds : Cond.instanceMethod mX3_deeds.1 ∈ TT := tt_of 187 (by decide +kernel) rfl
theorem cs_X3_deeds : Cond.selects mX3_deeds.1.cls mX3_deeds.1 mX3_deeds.1 ∈ TT := tt_of 188 (by decide +kernel) rfl
abbrev mX3_gone : jM := (yX3_gone, cX3_gone, 1, (some .long), [])
theorem cm_X3_gone : jYm mX3_gone 0 := ⟨tt_of 193 (by decide +kernel) rfl, tt_of 48 (by decide +kernel) rfl, ⟨by decide +kernel, by decide +kernel⟩, by decide +kernel, by decide +kernel, by decide +kernel⟩
theorem ci_X3_gone : Cond.instanceMethod mX3_gone.1 ∈ TT := tt_of 191 (by decide +kernel) rfl
theorem cs_X3_gone : Cond.selects mX3_gone.1.cls mX3_gone.1 mX3_gone.1 ∈ TT := tt_of 192 (by decide +kernel) rfl
abbrev mX3_levelAt : jM := (yX3_levelAt, cX3_levelAt, 3, (some .int), [])
theorem cm_X3_levelAt : jYm mX3_levelAt 2 := ⟨tt_of 648 (by decide +kernel) rfl, tt_of 48 (by decide +kernel) rfl, ⟨by decide +kernel, by decide +kernel⟩, by decide +kernel, by decide +kernel, by decide +kernel⟩
theorem ci_X3_levelAt : Cond.instanceMethod mX3_levelAt.1 ∈ TT := tt_of 646 (by decide +kernel) rfl
theorem cs_X3_levelAt : Cond.selects mX3_levelAt.1.cls mX3_levelAt.1 mX3_levelAt.1 ∈ TT := tt_of 647 (by decide +kernel) rfl
abbrev mX3_sumOf : jM := (yX3_sumOf, cX3_sumOf, 5, (some .long), [])
theorem cm_X3_sumOf : jYm mX3_sumOf 4 := ⟨tt_of 655 (by decide +kernel) rfl, tt_of 48 (by decide +kernel) rfl, ⟨by decide +kernel, by decide +kernel⟩, by decide +kernel, by decide +kernel, by decide +kernel⟩
theorem ci_X3_sumOf : Cond.instanceMethod mX3_sumOf.1 ∈ TT := tt_of 653 (by decide +kernel) rfl
theorem cs_X3_sumOf : Cond.selects mX3_sumOf.1.cls mX3_sumOf.1 mX3_sumOf.1 ∈ TT := tt_of 654 (by decide +kernel) rfl
abbrev mX3_sumTo : jM := (yX3_sumTo, cX3_sumTo, 3, (some .long), [])
theorem cm_X3_sumTo : jYm mX3_sumTo 2 := ⟨tt_of 662 (by decide +kernel) rfl, tt_of 48 (by decide +kernel) rfl, ⟨by decide +kernel, by decide +kernel⟩, by decide +kernel, by decide +kernel, by decide +kernel⟩
theorem ci_X3_sumTo : Cond.instanceMethod mX3_sumTo.1 ∈ TT := tt_of 660 (by decide +kernel) rfl
theorem cs_X3_sumTo : Cond.selects mX3_sumTo.1.cls mX3_sumTo.1 mX3_sumTo.1 ∈ TT := tt_of 661 (by decide +kernel) rfl
abbrev mX3_flightSum : jM := (yX3_flightSum, cX3_flightSum, 2, (some .long), [])
theorem cm_X3_flightSum : jYm mX3_flightSum 1 := ⟨tt_of 403 (by decide +kernel) rfl, tt_of 48 (by decide +kernel) rfl, ⟨by decide +kernel, by decide +kernel⟩, by decide +kernel, by decide +kernel, by decide +kernel⟩
theorem ci_X3_flightSum : Cond.instanceMethod mX3_flightSum.1 ∈ TT := tt_of 401 (by decide +kernel) rfl
theorem cs_X3_flightSum : Cond.selects mX3_flightSum.1.cls mX3_flightSum.1 mX3_flightSum.1 ∈ TT := tt_of 402 (by decide +kernel) rfl
abbrev mX3_stepSum : jM := (yX3_stepSum, cX3_stepSum, 2, (some .long), [])
theorem cm_X3_stepSum : jYm mX3_stepSum 1 := ⟨tt_of 467 (by decide +kernel) rfl, tt_of 48 (by decide +kernel) rfl, ⟨by decide +kernel, by decide +kernel⟩, by decide +kernel, by decide +kernel, by decide +kernel⟩
theorem ci_X3_stepSum : Cond.instanceMethod mX3_stepSum.1 ∈ TT := tt_of 465 (by decide +kernel) rfl
theorem cs_X3_stepSum : Cond.selects mX3_stepSum.1.cls mX3_stepSum.1 mX3_stepSum.1 ∈ TT := tt_of 466 (by decide +kernel) rfl
abbrev mX3_total : jM := (yX3_total, cX3_total, 1, (some .long), [])
theorem cm_X3_total : jYm mX3_total 0 := ⟨tt_of 197 (by decide +kernel) rfl, tt_of 48 (by decide +kernel) rfl, ⟨by decide +kernel, by decide +kernel⟩, by decide +kernel, by decide +kernel, by decide +kernel⟩
theorem ci_X3_total : Cond.instanceMethod mX3_total.1 ∈ TT := tt_of 195 (by decide +kernel) rfl
theorem cs_X3_total : Cond.selects mX3_total.1.cls mX3_total.1 mX3_total.1 ∈ TT := tt_of 196 (by decide +kernel) rfl
abbrev mX3_firstReaching : jM := (yX3_firstReaching, cX3_firstReaching, 6, (some .int), [])
theorem cm_X3_firstReaching : jYm mX3_firstReaching 2 := ⟨tt_of 677 (by decide +kernel) rfl, tt_of 48 (by decide +kernel) rfl, ⟨by decide +kernel, by decide +kernel⟩, by decide +kernel, by decide +kernel, by decide +kernel⟩
theorem ci_X3_firstReaching : Cond.instanceMethod mX3_firstReaching.1 ∈ TT := tt_of 675 (by decide +kernel) rfl
theorem cs_X3_firstReaching : Cond.selects mX3_firstReaching.1.cls mX3_firstReaching.1 mX3_firstReaching.1 ∈ TT := tt_of 676 (by decide +kernel) rfl
abbrev mX3_bestRun : jM := (yX3_bestRun, cX3_bestRun, 7, (some .long), [])
theorem cm_X3_bestRun : jYm mX3_bestRun 1 := ⟨tt_of 431 (by decide +kernel) rfl, tt_of 48 (by decide +kernel) rfl, ⟨by decide +kernel, by decide +kernel⟩, by decide +kernel, by decide +kernel, by decide +kernel⟩
theorem ci_X3_bestRun : Cond.instanceMethod mX3_bestRun.1 ∈ TT := tt_of 429 (by decide +kernel) rfl
theorem cs_X3_bestRun : Cond.selects mX3_bestRun.1.cls mX3_bestRun.1 mX3_bestRun.1 ∈ TT := tt_of 430 (by decide +kernel) rfl
abbrev mX3_dryIn : jM := (yX3_dryIn, cX3_dryIn, 5, (some .int), [])
theorem cm_X3_dryIn : jYm mX3_dryIn 4 := ⟨tt_of 688 (by decide +kernel) rfl, tt_of 48 (by decide +kernel) rfl, ⟨by decide +kernel, by decide +kernel⟩, by decide +kernel, by decide +kernel, by decide +kernel⟩
theorem ci_X3_dryIn : Cond.instanceMethod mX3_dryIn.1 ∈ TT := tt_of 686 (by decide +kernel) rfl
theorem cs_X3_dryIn : Cond.selects mX3_dryIn.1.cls mX3_dryIn.1 mX3_dryIn.1 ∈ TT := tt_of 687 (by decide +kernel) rfl
abbrev mX3_dry : jM := (yX3_dry, cX3_dry, 1, (some .int), [])
theorem cm_X3_dry : jYm mX3_dry 0 := ⟨tt_of 217 (by decide +kernel) rfl, tt_of 48 (by decide +kernel) rfl, ⟨by decide +kernel, by decide +kernel⟩, by decide +kernel, by decide +kernel, by decide +kernel⟩
theorem ci_X3_dry : Cond.instanceMethod mX3_dry.1 ∈ TT := tt_of 215 (by decide +kernel) rfl
theorem cs_X3_dry : Cond.selects mX3_dry.1.cls mX3_dry.1 mX3_dry.1 ∈ TT := tt_of 216 (by decide +kernel) rfl
abbrev mX3_dryAt : jM := (yX3_dryAt, cX3_dryAt, 4, (some .int), [])
theorem cm_X3_dryAt : jYm mX3_dryAt 1 := ⟨tt_of 695 (by decide +kernel) rfl, tt_of 48 (by decide +kernel) rfl, ⟨by decide +kernel, by decide +kernel⟩, by decide +kernel, by decide +kernel, by decide +kernel⟩
theorem ci_X3_dryAt : Cond.instanceMethod mX3_dryAt.1 ∈ TT := tt_of 693 (by decide +kernel) rfl
theorem cs_X3_dryAt : Cond.selects mX3_dryAt.1.cls mX3_dryAt.1 mX3_dryAt.1 ∈ TT := tt_of 694 (by decide +kernel) rfl
abbrev mX3_longestDry : jM := (yX3_longestDry, cX3_longestDry, 5, (some .int), [])
theorem cm_X3_longestDry : jYm mX3_longestDry 1 := ⟨tt_of 440 (by decide +kernel) rfl, tt_of 48 (by decide +kernel) rfl, ⟨by decide +kernel, by decide +kernel⟩, by decide +kernel, by decide +kernel, by decide +kernel⟩
theorem ci_X3_longestDry : Cond.instanceMethod mX3_longestDry.1 ∈ TT := tt_of 438 (by decide +kernel) rfl
theorem cs_X3_longestDry : Cond.selects mX3_longestDry.1.cls mX3_longestDry.1 mX3_longestDry.1 ∈ TT := tt_of 439 (by decide +kernel) rfl
abbrev mX3_driestFlight : jM := (yX3_driestFlight, cX3_driestFlight, 5, (some .int), [])
theorem cm_X3_driestFlight : jYm mX3_driestFlight 0 := ⟨tt_of 229 (by decide +kernel) rfl, tt_of 48 (by decide +kernel) rfl, ⟨by decide +kernel, by decide +kernel⟩, by decide +kernel, by decide +kernel, by decide +kernel⟩
theorem ci_X3_driestFlight : Cond.instanceMethod mX3_driestFlight.1 ∈ TT := tt_of 227 (by decide +kernel) rfl
theorem cs_X3_driestFlight : Cond.selects mX3_driestFlight.1.cls mX3_driestFlight.1 mX3_driestFlight.1 ∈ TT := tt_of 228 (by decide +kernel) rfl
abbrev mX3_lowestIn : jM := (yX3_lowestIn, cX3_lowestIn, 8, (some .int), [])
theorem cm_X3_lowestIn : jYm mX3_lowestIn 4 := ⟨tt_of 707 (by decide +kernel) rfl, tt_of 48 (by decide +kernel) rfl, ⟨by decide +kernel, by decide +kernel⟩, by decide +kernel, by decide +kernel, by decide +kernel⟩
theorem ci_X3_lowestIn : Cond.instanceMethod mX3_lowestIn.1 ∈ TT := tt_of 705 (by decide +kernel) rfl
theorem cs_X3_lowestIn : Cond.selects mX3_lowestIn.1.cls mX3_lowestIn.1 mX3_lowestIn.1 ∈ TT := tt_of 706 (by decide +kernel) rfl
abbrev mX3_highestAt : jM := (yX3_highestAt, cX3_highestAt, 4, (some .int), [])
theorem cm_X3_highestAt : jYm mX3_highestAt 1 := ⟨tt_of 445 (by decide +kernel) rfl, tt_of 48 (by decide +kernel) rfl, ⟨by decide +kernel, by decide +kernel⟩, by decide +kernel, by decide +kernel, by decide +kernel⟩
theorem ci_X3_highestAt : Cond.instanceMethod mX3_highestAt.1 ∈ TT := tt_of 443 (by decide +kernel) rfl
theorem cs_X3_highestAt : Cond.selects mX3_highestAt.1.cls mX3_highestAt.1 mX3_highestAt.1 ∈ TT := tt_of 444 (by decide +kernel) rfl
abbrev mX3_upTo : jM := (yX3_upTo, cX3_upTo, 2, (some .int), [])
theorem cm_X3_upTo : jYm mX3_upTo 1 := ⟨tt_of 237 (by decide +kernel) rfl, tt_of 48 (by decide +kernel) rfl, ⟨by decide +kernel, by decide +kernel⟩, by decide +kernel, by decide +kernel, by decide +kernel⟩
theorem ci_X3_upTo : Cond.instanceMethod mX3_upTo.1 ∈ TT := tt_of 235 (by decide +kernel) rfl
theorem cs_X3_upTo : Cond.selects mX3_upTo.1.cls mX3_upTo.1 mX3_upTo.1 ∈ TT := tt_of 236 (by decide +kernel) rfl
abbrev mX3_levelInOrder : jM := (yX3_levelInOrder, cX3_levelInOrder, 5, (some .int), [])
theorem cm_X3_levelInOrder : jYm mX3_levelInOrder 1 := ⟨tt_of 719 (by decide +kernel) rfl, tt_of 48 (by decide +kernel) rfl, ⟨by decide +kernel, by decide +kernel⟩, by decide +kernel, by decide +kernel, by decide +kernel⟩
theorem ci_X3_levelInOrder : Cond.instanceMethod mX3_levelInOrder.1 ∈ TT := tt_of 717 (by decide +kernel) rfl
theorem cs_X3_levelInOrder : Cond.selects mX3_levelInOrder.1.cls mX3_levelInOrder.1 mX3_levelInOrder.1 ∈ TT := tt_of 718 (by decide +kernel) rfl
abbrev mX3_outOfOrder : jM := (yX3_outOfOrder, cX3_outOfOrder, 1, (some .int), [])
theorem cm_X3_outOfOrder : jYm mX3_outOfOrder 0 := ⟨tt_of 241 (by decide +kernel) rfl, tt_of 48 (by decide +kernel) rfl, ⟨by decide +kernel, by decide +kernel⟩, by decide +kernel, by decide +kernel, by decide +kernel⟩
theorem ci_X3_outOfOrder : Cond.instanceMethod mX3_outOfOrder.1 ∈ TT := tt_of 239 (by decide +kernel) rfl
theorem cs_X3_outOfOrder : Cond.selects mX3_outOfOrder.1.cls mX3_outOfOrder.1 mX3_outOfOrder.1 ∈ TT := tt_of 240 (by decide +kernel) rfl
abbrev mX3_alike : jM := (yX3_alike, cX3_alike, 3, (some .int), [])
theorem cm_X3_alike : jYm mX3_alike 2 := ⟨tt_of 726 (by decide +kernel) rfl, tt_of 48 (by decide +kernel) rfl, ⟨by decide +kernel, by decide +kernel⟩, by decide +kernel, by decide +kernel, by decide +kernel⟩
theorem ci_X3_alike : Cond.instanceMethod mX3_alike.1 ∈ TT := tt_of 724 (by decide +kernel) rfl
theorem cs_X3_alike : Cond.selects mX3_alike.1.cls mX3_alike.1 mX3_alike.1 ∈ TT := tt_of 725 (by decide +kernel) rfl
abbrev mX3_changedSince : jM := (yX3_changedSince, cX3_changedSince, 2, (some .int), [])
theorem cm_X3_changedSince : jYm mX3_changedSince 1 := ⟨tt_of 475 (by decide +kernel) rfl, tt_of 48 (by decide +kernel) rfl, ⟨by decide +kernel, by decide +kernel⟩, by decide +kernel, by decide +kernel, by decide +kernel⟩
theorem ci_X3_changedSince : Cond.instanceMethod mX3_changedSince.1 ∈ TT := tt_of 473 (by decide +kernel) rfl
theorem cs_X3_changedSince : Cond.selects mX3_changedSince.1.cls mX3_changedSince.1 mX3_changedSince.1 ∈ TT := tt_of 474 (by decide +kernel) rfl
abbrev mX3_totalIn : jM := (yX3_totalIn, cX3_totalIn, 2, (some .long), [])
theorem cm_X3_totalIn : jYm mX3_totalIn 1 := ⟨tt_of 311 (by decide +kernel) rfl, tt_of 48 (by decide +kernel) rfl, ⟨by decide +kernel, by decide +kernel⟩, by decide +kernel, by decide +kernel, by decide +kernel⟩
theorem ci_X3_totalIn : Cond.instanceMethod mX3_totalIn.1 ∈ TT := tt_of 309 (by decide +kernel) rfl
theorem cs_X3_totalIn : Cond.selects mX3_totalIn.1.cls mX3_totalIn.1 mX3_totalIn.1 ∈ TT := tt_of 310 (by decide +kernel) rfl
abbrev mX3_goneIn : jM := (yX3_goneIn, cX3_goneIn, 2, (some .int), [])
theorem cm_X3_goneIn : jYm mX3_goneIn 1 := ⟨tt_of 391 (by decide +kernel) rfl, tt_of 48 (by decide +kernel) rfl, ⟨by decide +kernel, by decide +kernel⟩, by decide +kernel, by decide +kernel, by decide +kernel⟩
theorem ci_X3_goneIn : Cond.instanceMethod mX3_goneIn.1 ∈ TT := tt_of 389 (by decide +kernel) rfl
theorem cs_X3_goneIn : Cond.selects mX3_goneIn.1.cls mX3_goneIn.1 mX3_goneIn.1 ∈ TT := tt_of 390 (by decide +kernel) rfl
abbrev mX3_hoursUntilDry : jM := (yX3_hoursUntilDry, cX3_hoursUntilDry, 2, (some .int), [])
theorem cm_X3_hoursUntilDry : jYm mX3_hoursUntilDry 0 := ⟨tt_of 260 (by decide +kernel) rfl, tt_of 48 (by decide +kernel) rfl, ⟨by decide +kernel, by decide +kernel⟩, by decide +kernel, by decide +kernel, by decide +kernel⟩
theorem ci_X3_hoursUntilDry : Cond.instanceMethod mX3_hoursUntilDry.1 ∈ TT := tt_of 258 (by decide +kernel) rfl
theorem cs_X3_hoursUntilDry : Cond.selects mX3_hoursUntilDry.1.cls mX3_hoursUntilDry.1 mX3_hoursUntilDry.1 ∈ TT := tt_of 259 (by decide +kernel) rfl
abbrev mX3_sunWanted : jM := (yX3_sunWanted, cX3_sunWanted, 3, (some .int), [])
theorem cm_X3_sunWanted : jYm mX3_sunWanted 1 := ⟨tt_of 395 (by decide +kernel) rfl, tt_of 48 (by decide +kernel) rfl, ⟨by decide +kernel, by decide +kernel⟩, by decide +kernel, by decide +kernel, by decide +kernel⟩
theorem ci_X3_sunWanted : Cond.instanceMethod mX3_sunWanted.1 ∈ TT := tt_of 393 (by decide +kernel) rfl
theorem cs_X3_sunWanted : Cond.selects mX3_sunWanted.1.cls mX3_sunWanted.1 mX3_sunWanted.1 ∈ TT := tt_of 394 (by decide +kernel) rfl
abbrev mX3_bestEdge : jM := (yX3_bestEdge, cX3_bestEdge, 7, (some .int), [])
theorem cm_X3_bestEdge : jYm mX3_bestEdge 2 := ⟨tt_of 749 (by decide +kernel) rfl, tt_of 48 (by decide +kernel) rfl, ⟨by decide +kernel, by decide +kernel⟩, by decide +kernel, by decide +kernel, by decide +kernel⟩
theorem ci_X3_bestEdge : Cond.instanceMethod mX3_bestEdge.1 ∈ TT := tt_of 747 (by decide +kernel) rfl
theorem cs_X3_bestEdge : Cond.selects mX3_bestEdge.1.cls mX3_bestEdge.1 mX3_bestEdge.1 ∈ TT := tt_of 748 (by decide +kernel) rfl
abbrev mX3_bestSwap : jM := (yX3_bestSwap, cX3_bestSwap, 2, (some .int), [])
theorem cm_X3_bestSwap : jYm mX3_bestSwap 1 := ⟨tt_of 756 (by decide +kernel) rfl, tt_of 48 (by decide +kernel) rfl, ⟨by decide +kernel, by decide +kernel⟩, by decide +kernel, by decide +kernel, by decide +kernel⟩
theorem ci_X3_bestSwap : Cond.instanceMethod mX3_bestSwap.1 ∈ TT := tt_of 754 (by decide +kernel) rfl
theorem cs_X3_bestSwap : Cond.selects mX3_bestSwap.1.cls mX3_bestSwap.1 mX3_bestSwap.1 ∈ TT := tt_of 755 (by decide +kernel) rfl
abbrev mX3_meanLevel : jM := (yX3_meanLevel, cX3_meanLevel, 2, (some .double), [])
theorem cm_X3_meanLevel : jYm mX3_meanLevel 0 := ⟨tt_of 285 (by decide +kernel) rfl, tt_of 48 (by decide +kernel) rfl, ⟨by decide +kernel, by decide +kernel⟩, by decide +kernel, by decide +kernel, by decide +kernel⟩
theorem ci_X3_meanLevel : Cond.instanceMethod mX3_meanLevel.1 ∈ TT := tt_of 283 (by decide +kernel) rfl
theorem cs_X3_meanLevel : Cond.selects mX3_meanLevel.1.cls mX3_meanLevel.1 mX3_meanLevel.1 ∈ TT := tt_of 284 (by decide +kernel) rfl
abbrev mX3_digest : jM := (yX3_digest, cX3_digest, 3, (some .long), [])
theorem cm_X3_digest : jYm mX3_digest 0 := ⟨tt_of 290 (by decide +kernel) rfl, tt_of 48 (by decide +kernel) rfl, ⟨by decide +kernel, by decide +kernel⟩, by decide +kernel, by decide +kernel, by decide +kernel⟩
theorem ci_X3_digest : Cond.instanceMethod mX3_digest.1 ∈ TT := tt_of 288 (by decide +kernel) rfl
theorem cs_X3_digest : Cond.selects mX3_digest.1.cls mX3_digest.1 mX3_digest.1 ∈ TT := tt_of 289 (by decide +kernel) rfl
abbrev mX3_digested : jM := (yX3_digested, cX3_digested, 4, (some .long), [])
theorem cm_X3_digested : jYm mX3_digested 2 := ⟨tt_of 295 (by decide +kernel) rfl, tt_of 48 (by decide +kernel) rfl, ⟨by decide +kernel, by decide +kernel⟩, by decide +kernel, by decide +kernel, by decide +kernel⟩
theorem ct_X3_digested : Cond.static mX3_digested.1 ∈ TT := tt_of 294 (by decide +kernel) rfl
abbrev mX3_digestedFlights : jM := (yX3_digestedFlights, cX3_digestedFlights, 7, (some .long), [])
theorem cm_X3_digestedFlights : jYm mX3_digestedFlights 1 := ⟨tt_of 399 (by decide +kernel) rfl, tt_of 48 (by decide +kernel) rfl, ⟨by decide +kernel, by decide +kernel⟩, by decide +kernel, by decide +kernel, by decide +kernel⟩
theorem ci_X3_digestedFlights : Cond.instanceMethod mX3_digestedFlights.1 ∈ TT := tt_of 398 (by decide +kernel) rfl
theorem cs_X3_digestedFlights : Cond.selects mX3_digestedFlights.1.cls mX3_digestedFlights.1 mX3_digestedFlights.1 ∈ TT := tt_of 3 (by decide +kernel) rfl
abbrev mX3_digestedSteps : jM := (yX3_digestedSteps, cX3_digestedSteps, 6, (some .long), [])
theorem cm_X3_digestedSteps : jYm mX3_digestedSteps 1 := ⟨tt_of 455 (by decide +kernel) rfl, tt_of 48 (by decide +kernel) rfl, ⟨by decide +kernel, by decide +kernel⟩, by decide +kernel, by decide +kernel, by decide +kernel⟩
theorem ci_X3_digestedSteps : Cond.instanceMethod mX3_digestedSteps.1 ∈ TT := tt_of 454 (by decide +kernel) rfl
theorem cs_X3_digestedSteps : Cond.selects mX3_digestedSteps.1.cls mX3_digestedSteps.1 mX3_digestedSteps.1 ∈ TT := tt_of 5 (by decide +kernel) rfl
abbrev mX3_digestedMarks : jM := (yX3_digestedMarks, cX3_digestedMarks, 6, (some .long), [])
theorem cm_X3_digestedMarks : jYm mX3_digestedMarks 1 := ⟨tt_of 471 (by decide +kernel) rfl, tt_of 48 (by decide +kernel) rfl, ⟨by decide +kernel, by decide +kernel⟩, by decide +kernel, by decide +kernel, by decide +kernel⟩
theorem ci_X3_digestedMarks : Cond.instanceMethod mX3_digestedMarks.1 ∈ TT := tt_of 470 (by decide +kernel) rfl
theorem cs_X3_digestedMarks : Cond.selects mX3_digestedMarks.1.cls mX3_digestedMarks.1 mX3_digestedMarks.1 ∈ TT := tt_of 7 (by decide +kernel) rfl
abbrev mX3_keepDeed : jM := (yX3_keepDeed, cX3_keepDeed, 1, none, [])
theorem cm_X3_keepDeed : jYm mX3_keepDeed 0 := ⟨tt_of 515 (by decide +kernel) rfl, tt_of 48 (by decide +kernel) rfl, ⟨by decide +kernel, by decide +kernel⟩, by decide +kernel, by decide +kernel, by decide +kernel⟩
theorem ci_X3_keepDeed : Cond.instanceMethod mX3_keepDeed.1 ∈ TT := tt_of 514 (by decide +kernel) rfl
theorem cs_X3_keepDeed : Cond.selects mX3_keepDeed.1.cls mX3_keepDeed.1 mX3_keepDeed.1 ∈ TT := tt_of 10 (by decide +kernel) rfl
abbrev mX3_checkIndex : jM := (yX3_checkIndex, cX3_checkIndex, 2, none, [])
theorem cm_X3_checkIndex : jYm mX3_checkIndex 2 := ⟨tt_of 410 (by decide +kernel) rfl, tt_of 48 (by decide +kernel) rfl, ⟨by decide +kernel, by decide +kernel⟩, by decide +kernel, by decide +kernel, by decide +kernel⟩
theorem ct_X3_checkIndex : Cond.static mX3_checkIndex.1 ∈ TT := tt_of 409 (by decide +kernel) rfl
abbrev mX3_checkNumber : jM := (yX3_checkNumber, cX3_checkNumber, 3, none, [])
theorem cm_X3_checkNumber : jYm mX3_checkNumber 3 := ⟨tt_of 314 (by decide +kernel) rfl, tt_of 48 (by decide +kernel) rfl, ⟨by decide +kernel, by decide +kernel⟩, by decide +kernel, by decide +kernel, by decide +kernel⟩
theorem ct_X3_checkNumber : Cond.static mX3_checkNumber.1 ∈ TT := tt_of 313 (by decide +kernel) rfl
abbrev mX3_checkFlight : jM := (yX3_checkFlight, cX3_checkFlight, 2, none, [])
theorem cm_X3_checkFlight : jYm mX3_checkFlight 1 := ⟨tt_of 407 (by decide +kernel) rfl, tt_of 48 (by decide +kernel) rfl, ⟨by decide +kernel, by decide +kernel⟩, by decide +kernel, by decide +kernel, by decide +kernel⟩
theorem ci_X3_checkFlight : Cond.instanceMethod mX3_checkFlight.1 ∈ TT := tt_of 406 (by decide +kernel) rfl
theorem cs_X3_checkFlight : Cond.selects mX3_checkFlight.1.cls mX3_checkFlight.1 mX3_checkFlight.1 ∈ TT := tt_of 4 (by decide +kernel) rfl
abbrev mX3_checkStep : jM := (yX3_checkStep, cX3_checkStep, 2, none, [])
theorem cm_X3_checkStep : jYm mX3_checkStep 1 := ⟨tt_of 463 (by decide +kernel) rfl, tt_of 48 (by decide +kernel) rfl, ⟨by decide +kernel, by decide +kernel⟩, by decide +kernel, by decide +kernel, by decide +kernel⟩
theorem ci_X3_checkStep : Cond.instanceMethod mX3_checkStep.1 ∈ TT := tt_of 462 (by decide +kernel) rfl
theorem cs_X3_checkStep : Cond.selects mX3_checkStep.1.cls mX3_checkStep.1 mX3_checkStep.1 ∈ TT := tt_of 6 (by decide +kernel) rfl
abbrev mX3_checkMark : jM := (yX3_checkMark, cX3_checkMark, 2, none, [])
theorem cm_X3_checkMark : jYm mX3_checkMark 1 := ⟨tt_of 479 (by decide +kernel) rfl, tt_of 48 (by decide +kernel) rfl, ⟨by decide +kernel, by decide +kernel⟩, by decide +kernel, by decide +kernel, by decide +kernel⟩
theorem ci_X3_checkMark : Cond.instanceMethod mX3_checkMark.1 ∈ TT := tt_of 478 (by decide +kernel) rfl
theorem cs_X3_checkMark : Cond.selects mX3_checkMark.1.cls mX3_checkMark.1 mX3_checkMark.1 ∈ TT := tt_of 8 (by decide +kernel) rfl
abbrev mX3_checkPuddle : jM := (yX3_checkPuddle, cX3_checkPuddle, 3, none, [])
theorem cm_X3_checkPuddle : jYm mX3_checkPuddle 2 := ⟨tt_of 511 (by decide +kernel) rfl, tt_of 48 (by decide +kernel) rfl, ⟨by decide +kernel, by decide +kernel⟩, by decide +kernel, by decide +kernel, by decide +kernel⟩
theorem ci_X3_checkPuddle : Cond.instanceMethod mX3_checkPuddle.1 ∈ TT := tt_of 510 (by decide +kernel) rfl
theorem cs_X3_checkPuddle : Cond.selects mX3_checkPuddle.1.cls mX3_checkPuddle.1 mX3_checkPuddle.1 ∈ TT := tt_of 9 (by decide +kernel) rfl
abbrev mX3_checkPart : jM := (yX3_checkPart, cX3_checkPart, 5, none, [])
theorem cm_X3_checkPart : jYm mX3_checkPart 4 := ⟨tt_of 536 (by decide +kernel) rfl, tt_of 48 (by decide +kernel) rfl, ⟨by decide +kernel, by decide +kernel⟩, by decide +kernel, by decide +kernel, by decide +kernel⟩
theorem ci_X3_checkPart : Cond.instanceMethod mX3_checkPart.1 ∈ TT := tt_of 535 (by decide +kernel) rfl
theorem cs_X3_checkPart : Cond.selects mX3_checkPart.1.cls mX3_checkPart.1 mX3_checkPart.1 ∈ TT := tt_of 11 (by decide +kernel) rfl
abbrev mX4_init : jM := (yX4_init, cX4_init, 1, none, [])
theorem cm_X4_init : jYm mX4_init 0 := ⟨tt_of 761 (by decide +kernel) rfl, tt_of 53 (by decide +kernel) rfl, ⟨by decide +kernel, by decide +kernel⟩, by decide +kernel, by decide +kernel, by decide +kernel⟩
theorem ci_X4_init : Cond.instanceMethod mX4_init.1 ∈ TT := tt_of 760 (by decide +kernel) rfl
abbrev mX4_thrown : jM := (yX4_thrown, cX4_thrown, 1, (some .int), [])
theorem cm_X4_thrown : jYm mX4_thrown 0 := ⟨tt_of 813 (by decide +kernel) rfl, tt_of 53 (by decide +kernel) rfl, ⟨by decide +kernel, by decide +kernel⟩, by decide +kernel, by decide +kernel, by decide +kernel⟩
theorem ci_X4_thrown : Cond.instanceMethod mX4_thrown.1 ∈ TT := tt_of 811 (by decide +kernel) rfl
theorem cs_X4_thrown : Cond.selects mX4_thrown.1.cls mX4_thrown.1 mX4_thrown.1 ∈ TT := tt_of 812 (by decide +kernel) rfl
abbrev mX4_no : jM := (yX4_no, cX4_no, 2, (some .int), [])
theorem cm_X4_no : jYm mX4_no 1 := ⟨tt_of 824 (by decide +kernel) rfl, tt_of 53 (by decide +kernel) rfl, ⟨by decide +kernel, by decide +kernel⟩, by decide +kernel, by decide +kernel, by decide +kernel⟩
theorem ci_X4_no : Cond.instanceMethod mX4_no.1 ∈ TT := tt_of 823 (by decide +kernel) rfl
theorem cs_X4_no : Cond.selects mX4_no.1.cls mX4_no.1 mX4_no.1 ∈ TT := tt_of 13 (by decide +kernel) rfl
abbrev mX4_ok : jM := (yX4_ok, cX4_ok, 2, (some .int), [])
theorem cm_X4_ok : jYm mX4_ok 1 := ⟨tt_of 917 (by decide +kernel) rfl, tt_of 53 (by decide +kernel) rfl, ⟨by decide +kernel, by decide +kernel⟩, by decide +kernel, by decide +kernel, by decide +kernel⟩
theorem ci_X4_ok : Cond.instanceMethod mX4_ok.1 ∈ TT := tt_of 916 (by decide +kernel) rfl
theorem cs_X4_ok : Cond.selects mX4_ok.1.cls mX4_ok.1 mX4_ok.1 ∈ TT := tt_of 23 (by decide +kernel) rfl
abbrev mX4_okay : jM := (yX4_okay, cX4_okay, 3, (some .long), [])
theorem cm_X4_okay : jYm mX4_okay 1 := ⟨tt_of 949 (by decide +kernel) rfl, tt_of 53 (by decide +kernel) rfl, ⟨by decide +kernel, by decide +kernel⟩, by decide +kernel, by decide +kernel, by decide +kernel⟩
theorem ci_X4_okay : Cond.instanceMethod mX4_okay.1 ∈ TT := tt_of 948 (by decide +kernel) rfl
theorem cs_X4_okay : Cond.selects mX4_okay.1.cls mX4_okay.1 mX4_okay.1 ∈ TT := tt_of 24 (by decide +kernel) rfl
abbrev mX4_isIn : jM := (yX4_isIn, cX4_isIn, 3, (some .boolean), [])
theorem cm_X4_isIn : jYm mX4_isIn 3 := ⟨tt_of 820 (by decide +kernel) rfl, tt_of 53 (by decide +kernel) rfl, ⟨by decide +kernel, by decide +kernel⟩, by decide +kernel, by decide +kernel, by decide +kernel⟩
theorem ct_X4_isIn : Cond.static mX4_isIn.1 ∈ TT := tt_of 819 (by decide +kernel) rfl
abbrev mX4_isFlight : jM := (yX4_isFlight, cX4_isFlight, 2, (some .boolean), [])
theorem cm_X4_isFlight : jYm mX4_isFlight 1 := ⟨tt_of 836 (by decide +kernel) rfl, tt_of 53 (by decide +kernel) rfl, ⟨by decide +kernel, by decide +kernel⟩, by decide +kernel, by decide +kernel, by decide +kernel⟩
theorem ci_X4_isFlight : Cond.instanceMethod mX4_isFlight.1 ∈ TT := tt_of 835 (by decide +kernel) rfl
theorem cs_X4_isFlight : Cond.selects mX4_isFlight.1.cls mX4_isFlight.1 mX4_isFlight.1 ∈ TT := tt_of 15 (by decide +kernel) rfl
abbrev mX4_isStep : jM := (yX4_isStep, cX4_isStep, 2, (some .boolean), [])
theorem cm_X4_isStep : jYm mX4_isStep 1 := ⟨tt_of 840 (by decide +kernel) rfl, tt_of 53 (by decide +kernel) rfl, ⟨by decide +kernel, by decide +kernel⟩, by decide +kernel, by decide +kernel, by decide +kernel⟩
theorem ci_X4_isStep : Cond.instanceMethod mX4_isStep.1 ∈ TT := tt_of 839 (by decide +kernel) rfl
theorem cs_X4_isStep : Cond.selects mX4_isStep.1.cls mX4_isStep.1 mX4_isStep.1 ∈ TT := tt_of 16 (by decide +kernel) rfl
abbrev mX4_isMark : jM := (yX4_isMark, cX4_isMark, 2, (some .boolean), [])
theorem cm_X4_isMark : jYm mX4_isMark 1 := ⟨tt_of 893 (by decide +kernel) rfl, tt_of 53 (by decide +kernel) rfl, ⟨by decide +kernel, by decide +kernel⟩, by decide +kernel, by decide +kernel, by decide +kernel⟩
theorem ci_X4_isMark : Cond.instanceMethod mX4_isMark.1 ∈ TT := tt_of 892 (by decide +kernel) rfl
theorem cs_X4_isMark : Cond.selects mX4_isMark.1.cls mX4_isMark.1 mX4_isMark.1 ∈ TT := tt_of 21 (by decide +kernel) rfl
abbrev mX4_all : jM := (yX4_all, cX4_all, 1, (some .int), [])
theorem cm_X4_all : jYm mX4_all 0 := ⟨tt_of 828 (by decide +kernel) rfl, tt_of 53 (by decide +kernel) rfl, ⟨by decide +kernel, by decide +kernel⟩, by decide +kernel, by decide +kernel, by decide +kernel⟩
theorem ci_X4_all : Cond.instanceMethod mX4_all.1 ∈ TT := tt_of 827 (by decide +kernel) rfl
theorem cs_X4_all : Cond.selects mX4_all.1.cls mX4_all.1 mX4_all.1 ∈ TT := tt_of 14 (by decide +kernel) rfl
abbrev mX4_part : jM := (yX4_part, cX4_part, 5, (some .int), [])
theorem cm_X4_part : jYm mX4_part 4 := ⟨tt_of 855 (by decide +kernel) rfl, tt_of 53 (by decide +kernel) rfl, ⟨by decide +kernel, by decide +kernel⟩, by decide +kernel, by decide +kernel, by decide +kernel⟩
theorem ci_X4_part : Cond.instanceMethod mX4_part.1 ∈ TT := tt_of 854 (by decide +kernel) rfl
theorem cs_X4_part : Cond.selects mX4_part.1.cls mX4_part.1 mX4_part.1 ∈ TT := tt_of 18 (by decide +kernel) rfl
abbrev mX4_anew : jM := (yX4_anew, cX4_anew, 2, none, [])
theorem cm_X4_anew : jYm mX4_anew 0 := ⟨tt_of 766 (by decide +kernel) rfl, tt_of 53 (by decide +kernel) rfl, ⟨by decide +kernel, by decide +kernel⟩, by decide +kernel, by decide +kernel, by decide +kernel⟩
theorem ci_X4_anew : Cond.instanceMethod mX4_anew.1 ∈ TT := tt_of 765 (by decide +kernel) rfl
theorem cs_X4_anew : Cond.selects mX4_anew.1.cls mX4_anew.1 mX4_anew.1 ∈ TT := tt_of 12 (by decide +kernel) rfl
abbrev mX4_keep : jM := (yX4_keep, cX4_keep, 1, none, [])
theorem cm_X4_keep : jYm mX4_keep 0 := ⟨tt_of 844 (by decide +kernel) rfl, tt_of 53 (by decide +kernel) rfl, ⟨by decide +kernel, by decide +kernel⟩, by decide +kernel, by decide +kernel, by decide +kernel⟩
theorem ci_X4_keep : Cond.instanceMethod mX4_keep.1 ∈ TT := tt_of 843 (by decide +kernel) rfl
theorem cs_X4_keep : Cond.selects mX4_keep.1.cls mX4_keep.1 mX4_keep.1 ∈ TT := tt_of 17 (by decide +kernel) rfl
abbrev mX4_bring : jM := (yX4_bring, cX4_bring, 5, (some .int), [])
theorem cm_X4_bring : jYm mX4_bring 2 := ⟨tt_of 897 (by decide +kernel) rfl, tt_of 53 (by decide +kernel) rfl, ⟨by decide +kernel, by decide +kernel⟩, by decide +kernel, by decide +kernel, by decide +kernel⟩
theorem ci_X4_bring : Cond.instanceMethod mX4_bring.1 ∈ TT := tt_of 896 (by decide +kernel) rfl
theorem cs_X4_bring : Cond.selects mX4_bring.1.cls mX4_bring.1 mX4_bring.1 ∈ TT := tt_of 22 (by decide +kernel) rfl
abbrev mX4_hourOn : jM := (yX4_hourOn, cX4_hourOn, 6, (some .int), [])
theorem cm_X4_hourOn : jYm mX4_hourOn 2 := ⟨tt_of 881 (by decide +kernel) rfl, tt_of 53 (by decide +kernel) rfl, ⟨by decide +kernel, by decide +kernel⟩, by decide +kernel, by decide +kernel, by decide +kernel⟩
theorem ci_X4_hourOn : Cond.instanceMethod mX4_hourOn.1 ∈ TT := tt_of 880 (by decide +kernel) rfl
theorem cs_X4_hourOn : Cond.selects mX4_hourOn.1.cls mX4_hourOn.1 mX4_hourOn.1 ∈ TT := tt_of 20 (by decide +kernel) rfl
abbrev mX4_look : jM := (yX4_look, cX4_look, 1, none, [])
theorem cm_X4_look : jYm mX4_look 0 := ⟨tt_of 1106 (by decide +kernel) rfl, tt_of 53 (by decide +kernel) rfl, ⟨by decide +kernel, by decide +kernel⟩, by decide +kernel, by decide +kernel, by decide +kernel⟩
theorem ci_X4_look : Cond.instanceMethod mX4_look.1 ∈ TT := tt_of 1105 (by decide +kernel) rfl
theorem cs_X4_look : Cond.selects mX4_look.1.cls mX4_look.1 mX4_look.1 ∈ TT := tt_of 42 (by decide +kernel) rfl
abbrev mX4_goneBehind : jM := (yX4_goneBehind, cX4_goneBehind, 5, (some .int), [])
theorem cm_X4_goneBehind : jYm mX4_goneBehind 2 := ⟨tt_of 1102 (by decide +kernel) rfl, tt_of 53 (by decide +kernel) rfl, ⟨by decide +kernel, by decide +kernel⟩, by decide +kernel, by decide +kernel, by decide +kernel⟩
theorem ci_X4_goneBehind : Cond.instanceMethod mX4_goneBehind.1 ∈ TT := tt_of 1101 (by decide +kernel) rfl
theorem cs_X4_goneBehind : Cond.selects mX4_goneBehind.1.cls mX4_goneBehind.1 mX4_goneBehind.1 ∈ TT := tt_of 41 (by decide +kernel) rfl
abbrev mX4_isDry : jM := (yX4_isDry, cX4_isDry, 3, (some .boolean), [])
theorem cm_X4_isDry : jYm mX4_isDry 1 := ⟨tt_of 1122 (by decide +kernel) rfl, tt_of 53 (by decide +kernel) rfl, ⟨by decide +kernel, by decide +kernel⟩, by decide +kernel, by decide +kernel, by decide +kernel⟩
theorem ci_X4_isDry : Cond.instanceMethod mX4_isDry.1 ∈ TT := tt_of 1121 (by decide +kernel) rfl
theorem cs_X4_isDry : Cond.selects mX4_isDry.1.cls mX4_isDry.1 mX4_isDry.1 ∈ TT := tt_of 44 (by decide +kernel) rfl
abbrev mX4_lay : jM := (yX4_lay, cX4_lay, 3, (some .int), [])
theorem cm_X4_lay : jYm mX4_lay 2 := ⟨tt_of 817 (by decide +kernel) rfl, tt_of 53 (by decide +kernel) rfl, ⟨by decide +kernel, by decide +kernel⟩, by decide +kernel, by decide +kernel, by decide +kernel⟩
theorem ci_X4_lay : Cond.instanceMethod mX4_lay.1 ∈ TT := tt_of 815 (by decide +kernel) rfl
theorem cs_X4_lay : Cond.selects mX4_lay.1.cls mX4_lay.1 mX4_lay.1 ∈ TT := tt_of 816 (by decide +kernel) rfl
abbrev mX4_rain : jM := (yX4_rain, cX4_rain, 4, (some .int), [])
theorem cm_X4_rain : jYm mX4_rain 3 := ⟨tt_of 832 (by decide +kernel) rfl, tt_of 53 (by decide +kernel) rfl, ⟨by decide +kernel, by decide +kernel⟩, by decide +kernel, by decide +kernel, by decide +kernel⟩
theorem ci_X4_rain : Cond.instanceMethod mX4_rain.1 ∈ TT := tt_of 830 (by decide +kernel) rfl
theorem cs_X4_rain : Cond.selects mX4_rain.1.cls mX4_rain.1 mX4_rain.1 ∈ TT := tt_of 831 (by decide +kernel) rfl
abbrev mX4_splash : jM := (yX4_splash, cX4_splash, 8, (some .int), [])
theorem cm_X4_splash : jYm mX4_splash 5 := ⟨tt_of 851 (by decide +kernel) rfl, tt_of 53 (by decide +kernel) rfl, ⟨by decide +kernel, by decide +kernel⟩, by decide +kernel, by decide +kernel, by decide +kernel⟩
theorem ci_X4_splash : Cond.instanceMethod mX4_splash.1 ∈ TT := tt_of 849 (by decide +kernel) rfl
theorem cs_X4_splash : Cond.selects mX4_splash.1.cls mX4_splash.1 mX4_splash.1 ∈ TT := tt_of 850 (by decide +kernel) rfl
abbrev mX4_change : jM := (yX4_change, cX4_change, 7, (some .int), [])
theorem cm_X4_change : jYm mX4_change 2 := ⟨tt_of 863 (by decide +kernel) rfl, tt_of 53 (by decide +kernel) rfl, ⟨by decide +kernel, by decide +kernel⟩, by decide +kernel, by decide +kernel, by decide +kernel⟩
theorem ci_X4_change : Cond.instanceMethod mX4_change.1 ∈ TT := tt_of 862 (by decide +kernel) rfl
theorem cs_X4_change : Cond.selects mX4_change.1.cls mX4_change.1 mX4_change.1 ∈ TT := tt_of 19 (by decide +kernel) rfl
abbrev mX4_swap : jM := (yX4_swap, cX4_swap, 3, (some .int), [])
theorem cm_X4_swap : jYm mX4_swap 2 := ⟨tt_of 859 (by decide +kernel) rfl, tt_of 53 (by decide +kernel) rfl, ⟨by decide +kernel, by decide +kernel⟩, by decide +kernel, by decide +kernel, by decide +kernel⟩
theorem ci_X4_swap : Cond.instanceMethod mX4_swap.1 ∈ TT := tt_of 857 (by decide +kernel) rfl
theorem cs_X4_swap : Cond.selects mX4_swap.1.cls mX4_swap.1 mX4_swap.1 ∈ TT := tt_of 858 (by decide +kernel) rfl
abbrev mX4_turn : jM := (yX4_turn, cX4_turn, 5, (some .int), [])
theorem cm_X4_turn : jYm mX4_turn 1 := ⟨tt_of 867 (by decide +kernel) rfl, tt_of 53 (by decide +kernel) rfl, ⟨by decide +kernel, by decide +kernel⟩, by decide +kernel, by decide +kernel, by decide +kernel⟩
theorem ci_X4_turn : Cond.instanceMethod mX4_turn.1 ∈ TT := tt_of 865 (by decide +kernel) rfl
theorem cs_X4_turn : Cond.selects mX4_turn.1.cls mX4_turn.1 mX4_turn.1 ∈ TT := tt_of 866 (by decide +kernel) rfl
abbrev mX4_bail : jM := (yX4_bail, cX4_bail, 6, (some .int), [])
theorem cm_X4_bail : jYm mX4_bail 2 := ⟨tt_of 871 (by decide +kernel) rfl, tt_of 53 (by decide +kernel) rfl, ⟨by decide +kernel, by decide +kernel⟩, by decide +kernel, by decide +kernel, by decide +kernel⟩
theorem ci_X4_bail : Cond.instanceMethod mX4_bail.1 ∈ TT := tt_of 869 (by decide +kernel) rfl
theorem cs_X4_bail : Cond.selects mX4_bail.1.cls mX4_bail.1 mX4_bail.1 ∈ TT := tt_of 870 (by decide +kernel) rfl
abbrev mX4_passHours : jM := (yX4_passHours, cX4_passHours, 4, (some .int), [])
theorem cm_X4_passHours : jYm mX4_passHours 1 := ⟨tt_of 877 (by decide +kernel) rfl, tt_of 53 (by decide +kernel) rfl, ⟨by decide +kernel, by decide +kernel⟩, by decide +kernel, by decide +kernel, by decide +kernel⟩
theorem ci_X4_passHours : Cond.instanceMethod mX4_passHours.1 ∈ TT := tt_of 875 (by decide +kernel) rfl
theorem cs_X4_passHours : Cond.selects mX4_passHours.1.cls mX4_passHours.1 mX4_passHours.1 ∈ TT := tt_of 876 (by decide +kernel) rfl
abbrev mX4_mark : jM := (yX4_mark, cX4_mark, 1, (some .int), [])
theorem cm_X4_mark : jYm mX4_mark 0 := ⟨tt_of 885 (by decide +kernel) rfl, tt_of 53 (by decide +kernel) rfl, ⟨by decide +kernel, by decide +kernel⟩, by decide +kernel, by decide +kernel, by decide +kernel⟩
theorem ci_X4_mark : Cond.instanceMethod mX4_mark.1 ∈ TT := tt_of 883 (by decide +kernel) rfl
theorem cs_X4_mark : Cond.selects mX4_mark.1.cls mX4_mark.1 mX4_mark.1 ∈ TT := tt_of 884 (by decide +kernel) rfl
abbrev mX4_back : jM := (yX4_back, cX4_back, 2, (some .int), [])
theorem cm_X4_back : jYm mX4_back 1 := ⟨tt_of 889 (by decide +kernel) rfl, tt_of 53 (by decide +kernel) rfl, ⟨by decide +kernel, by decide +kernel⟩, by decide +kernel, by decide +kernel, by decide +kernel⟩
theorem ci_X4_back : Cond.instanceMethod mX4_back.1 ∈ TT := tt_of 887 (by decide +kernel) rfl
theorem cs_X4_back : Cond.selects mX4_back.1.cls mX4_back.1 mX4_back.1 ∈ TT := tt_of 888 (by decide +kernel) rfl
abbrev mX4_undo : jM := (yX4_undo, cX4_undo, 1, (some .int), [])
theorem cm_X4_undo : jYm mX4_undo 0 := ⟨tt_of 901 (by decide +kernel) rfl, tt_of 53 (by decide +kernel) rfl, ⟨by decide +kernel, by decide +kernel⟩, by decide +kernel, by decide +kernel, by decide +kernel⟩
theorem ci_X4_undo : Cond.instanceMethod mX4_undo.1 ∈ TT := tt_of 899 (by decide +kernel) rfl
theorem cs_X4_undo : Cond.selects mX4_undo.1.cls mX4_undo.1 mX4_undo.1 ∈ TT := tt_of 900 (by decide +kernel) rfl
abbrev mX4_setSun : jM := (yX4_setSun, cX4_setSun, 3, (some .int), [])
theorem cm_X4_setSun : jYm mX4_setSun 1 := ⟨tt_of 905 (by decide +kernel) rfl, tt_of 53 (by decide +kernel) rfl, ⟨by decide +kernel, by decide +kernel⟩, by decide +kernel, by decide +kernel, by decide +kernel⟩
theorem ci_X4_setSun : Cond.instanceMethod mX4_setSun.1 ∈ TT := tt_of 903 (by decide +kernel) rfl
theorem cs_X4_setSun : Cond.selects mX4_setSun.1.cls mX4_setSun.1 mX4_setSun.1 ∈ TT := tt_of 904 (by decide +kernel) rfl
abbrev mX4_setEdge : jM := (yX4_setEdge, cX4_setEdge, 4, (some .int), [])
theorem cm_X4_setEdge : jYm mX4_setEdge 2 := ⟨tt_of 909 (by decide +kernel) rfl, tt_of 53 (by decide +kernel) rfl, ⟨by decide +kernel, by decide +kernel⟩, by decide +kernel, by decide +kernel, by decide +kernel⟩
theorem ci_X4_setEdge : Cond.instanceMethod mX4_setEdge.1 ∈ TT := tt_of 907 (by decide +kernel) rfl
theorem cs_X4_setEdge : Cond.selects mX4_setEdge.1.cls mX4_setEdge.1 mX4_setEdge.1 ∈ TT := tt_of 908 (by decide +kernel) rfl
abbrev mX4_flights : jM := (yX4_flights, cX4_flights, 1, (some .int), [])
theorem cm_X4_flights : jYm mX4_flights 0 := ⟨tt_of 913 (by decide +kernel) rfl, tt_of 53 (by decide +kernel) rfl, ⟨by decide +kernel, by decide +kernel⟩, by decide +kernel, by decide +kernel, by decide +kernel⟩
theorem ci_X4_flights : Cond.instanceMethod mX4_flights.1 ∈ TT := tt_of 911 (by decide +kernel) rfl
theorem cs_X4_flights : Cond.selects mX4_flights.1.cls mX4_flights.1 mX4_flights.1 ∈ TT := tt_of 912 (by decide +kernel) rfl
abbrev mX4_steps : jM := (yX4_steps, cX4_steps, 1, (some .int), [])
theorem cm_X4_steps : jYm mX4_steps 0 := ⟨tt_of 921 (by decide +kernel) rfl, tt_of 53 (by decide +kernel) rfl, ⟨by decide +kernel, by decide +kernel⟩, by decide +kernel, by decide +kernel, by decide +kernel⟩
theorem ci_X4_steps : Cond.instanceMethod mX4_steps.1 ∈ TT := tt_of 919 (by decide +kernel) rfl
theorem cs_X4_steps : Cond.selects mX4_steps.1.cls mX4_steps.1 mX4_steps.1 ∈ TT := tt_of 920 (by decide +kernel) rfl
abbrev mX4_hours : jM := (yX4_hours, cX4_hours, 1, (some .int), [])
theorem cm_X4_hours : jYm mX4_hours 0 := ⟨tt_of 925 (by decide +kernel) rfl, tt_of 53 (by decide +kernel) rfl, ⟨by decide +kernel, by decide +kernel⟩, by decide +kernel, by decide +kernel, by decide +kernel⟩
theorem ci_X4_hours : Cond.instanceMethod mX4_hours.1 ∈ TT := tt_of 923 (by decide +kernel) rfl
theorem cs_X4_hours : Cond.selects mX4_hours.1.cls mX4_hours.1 mX4_hours.1 ∈ TT := tt_of 924 (by decide +kernel) rfl
abbrev mX4_sun : jM := (yX4_sun, cX4_sun, 1, (some .int), [])
theorem cm_X4_sun : jYm mX4_sun 0 := ⟨tt_of 929 (by decide +kernel) rfl, tt_of 53 (by decide +kernel) rfl, ⟨by decide +kernel, by decide +kernel⟩, by decide +kernel, by decide +kernel, by decide +kernel⟩
theorem ci_X4_sun : Cond.instanceMethod mX4_sun.1 ∈ TT := tt_of 927 (by decide +kernel) rfl
theorem cs_X4_sun : Cond.selects mX4_sun.1.cls mX4_sun.1 mX4_sun.1 ∈ TT := tt_of 928 (by decide +kernel) rfl
abbrev mX4_edgeOf : jM := (yX4_edgeOf, cX4_edgeOf, 2, (some .int), [])
theorem cm_X4_edgeOf : jYm mX4_edgeOf 1 := ⟨tt_of 933 (by decide +kernel) rfl, tt_of 53 (by decide +kernel) rfl, ⟨by decide +kernel, by decide +kernel⟩, by decide +kernel, by decide +kernel, by decide +kernel⟩
theorem ci_X4_edgeOf : Cond.instanceMethod mX4_edgeOf.1 ∈ TT := tt_of 931 (by decide +kernel) rfl
theorem cs_X4_edgeOf : Cond.selects mX4_edgeOf.1.cls mX4_edgeOf.1 mX4_edgeOf.1 ∈ TT := tt_of 932 (by decide +kernel) rfl
abbrev mX4_marks : jM := (yX4_marks, cX4_marks, 1, (some .int), [])
theorem cm_X4_marks : jYm mX4_marks 0 := ⟨tt_of 937 (by decide +kernel) rfl, tt_of 53 (by decide +kernel) rfl, ⟨by decide +kernel, by decide +kernel⟩, by decide +kernel, by decide +kernel, by decide +kernel⟩
theorem ci_X4_marks : Cond.instanceMethod mX4_marks.1 ∈ TT := tt_of 935 (by decide +kernel) rfl
theorem cs_X4_marks : Cond.selects mX4_marks.1.cls mX4_marks.1 mX4_marks.1 ∈ TT := tt_of 936 (by decide +kernel) rfl
abbrev mX4_deeds : jM := (yX4_deeds, cX4_deeds, 1, (some .int), [])
theorem cm_X4_deeds : jYm mX4_deeds 0 := ⟨tt_of 941 (by decide +kernel) rfl, tt_of 53 (by decide +kernel) rfl, ⟨by decide +kernel, by decide +kernel⟩, by decide +kernel, by decide +kernel, by decide +kernel⟩
theorem ci_X4_deeds : Cond.instanceMethod mX4_deeds.1 ∈ TT := tt_of 939 (by decide +kernel) rfl
theorem cs_X4_deeds : Cond.selects mX4_deeds.1.cls mX4_deeds.1 mX4_deeds.1 ∈ TT := tt_of 940 (by decide +kernel) rfl
abbrev mX4_gone : jM := (yX4_gone, cX4_gone, 1, (some .long), [])
theorem cm_X4_gone : jYm mX4_gone 0 := ⟨tt_of 945 (by decide +kernel) rfl, tt_of 53 (by decide +kernel) rfl, ⟨by decide +kernel, by decide +kernel⟩, by decide +kernel, by decide +kernel, by decide +kernel⟩
theorem ci_X4_gone : Cond.instanceMethod mX4_gone.1 ∈ TT := tt_of 943 (by decide +kernel) rfl
theorem cs_X4_gone : Cond.selects mX4_gone.1.cls mX4_gone.1 mX4_gone.1 ∈ TT := tt_of 944 (by decide +kernel) rfl
abbrev mX4_at : jM := (yX4_at, cX4_at, 3, (some .int), [])
theorem cm_X4_at : jYm mX4_at 2 := ⟨tt_of 957 (by decide +kernel) rfl, tt_of 53 (by decide +kernel) rfl, ⟨by decide +kernel, by decide +kernel⟩, by decide +kernel, by decide +kernel, by decide +kernel⟩
theorem ci_X4_at : Cond.instanceMethod mX4_at.1 ∈ TT := tt_of 956 (by decide +kernel) rfl
theorem cs_X4_at : Cond.selects mX4_at.1.cls mX4_at.1 mX4_at.1 ∈ TT := tt_of 25 (by decide +kernel) rfl
abbrev mX4_levelAt : jM := (yX4_levelAt, cX4_levelAt, 3, (some .int), [])
theorem cm_X4_levelAt : jYm mX4_levelAt 2 := ⟨tt_of 953 (by decide +kernel) rfl, tt_of 53 (by decide +kernel) rfl, ⟨by decide +kernel, by decide +kernel⟩, by decide +kernel, by decide +kernel, by decide +kernel⟩
theorem ci_X4_levelAt : Cond.instanceMethod mX4_levelAt.1 ∈ TT := tt_of 951 (by decide +kernel) rfl
theorem cs_X4_levelAt : Cond.selects mX4_levelAt.1.cls mX4_levelAt.1 mX4_levelAt.1 ∈ TT := tt_of 952 (by decide +kernel) rfl
abbrev mX4_added : jM := (yX4_added, cX4_added, 9, (some .long), [])
theorem cm_X4_added : jYm mX4_added 4 := ⟨tt_of 965 (by decide +kernel) rfl, tt_of 53 (by decide +kernel) rfl, ⟨by decide +kernel, by decide +kernel⟩, by decide +kernel, by decide +kernel, by decide +kernel⟩
theorem ci_X4_added : Cond.instanceMethod mX4_added.1 ∈ TT := tt_of 964 (by decide +kernel) rfl
theorem cs_X4_added : Cond.selects mX4_added.1.cls mX4_added.1 mX4_added.1 ∈ TT := tt_of 26 (by decide +kernel) rfl
abbrev mX4_sumOf : jM := (yX4_sumOf, cX4_sumOf, 5, (some .long), [])
theorem cm_X4_sumOf : jYm mX4_sumOf 4 := ⟨tt_of 961 (by decide +kernel) rfl, tt_of 53 (by decide +kernel) rfl, ⟨by decide +kernel, by decide +kernel⟩, by decide +kernel, by decide +kernel, by decide +kernel⟩
theorem ci_X4_sumOf : Cond.instanceMethod mX4_sumOf.1 ∈ TT := tt_of 959 (by decide +kernel) rfl
theorem cs_X4_sumOf : Cond.selects mX4_sumOf.1.cls mX4_sumOf.1 mX4_sumOf.1 ∈ TT := tt_of 960 (by decide +kernel) rfl
abbrev mX4_sumTo : jM := (yX4_sumTo, cX4_sumTo, 3, (some .long), [])
theorem cm_X4_sumTo : jYm mX4_sumTo 2 := ⟨tt_of 969 (by decide +kernel) rfl, tt_of 53 (by decide +kernel) rfl, ⟨by decide +kernel, by decide +kernel⟩, by decide +kernel, by decide +kernel, by decide +kernel⟩
theorem ci_X4_sumTo : Cond.instanceMethod mX4_sumTo.1 ∈ TT := tt_of 967 (by decide +kernel) rfl
theorem cs_X4_sumTo : Cond.selects mX4_sumTo.1.cls mX4_sumTo.1 mX4_sumTo.1 ∈ TT := tt_of 968 (by decide +kernel) rfl
abbrev mX4_ofFlight : jM := (yX4_ofFlight, cX4_ofFlight, 2, (some .long), [])
theorem cm_X4_ofFlight : jYm mX4_ofFlight 1 := ⟨tt_of 977 (by decide +kernel) rfl, tt_of 53 (by decide +kernel) rfl, ⟨by decide +kernel, by decide +kernel⟩, by decide +kernel, by decide +kernel, by decide +kernel⟩
theorem ci_X4_ofFlight : Cond.instanceMethod mX4_ofFlight.1 ∈ TT := tt_of 976 (by decide +kernel) rfl
theorem cs_X4_ofFlight : Cond.selects mX4_ofFlight.1.cls mX4_ofFlight.1 mX4_ofFlight.1 ∈ TT := tt_of 27 (by decide +kernel) rfl
abbrev mX4_flightSum : jM := (yX4_flightSum, cX4_flightSum, 2, (some .long), [])
theorem cm_X4_flightSum : jYm mX4_flightSum 1 := ⟨tt_of 973 (by decide +kernel) rfl, tt_of 53 (by decide +kernel) rfl, ⟨by decide +kernel, by decide +kernel⟩, by decide +kernel, by decide +kernel, by decide +kernel⟩
theorem ci_X4_flightSum : Cond.instanceMethod mX4_flightSum.1 ∈ TT := tt_of 971 (by decide +kernel) rfl
theorem cs_X4_flightSum : Cond.selects mX4_flightSum.1.cls mX4_flightSum.1 mX4_flightSum.1 ∈ TT := tt_of 972 (by decide +kernel) rfl
abbrev mX4_ofStep : jM := (yX4_ofStep, cX4_ofStep, 2, (some .long), [])
theorem cm_X4_ofStep : jYm mX4_ofStep 1 := ⟨tt_of 985 (by decide +kernel) rfl, tt_of 53 (by decide +kernel) rfl, ⟨by decide +kernel, by decide +kernel⟩, by decide +kernel, by decide +kernel, by decide +kernel⟩
theorem ci_X4_ofStep : Cond.instanceMethod mX4_ofStep.1 ∈ TT := tt_of 984 (by decide +kernel) rfl
theorem cs_X4_ofStep : Cond.selects mX4_ofStep.1.cls mX4_ofStep.1 mX4_ofStep.1 ∈ TT := tt_of 28 (by decide +kernel) rfl
abbrev mX4_stepSum : jM := (yX4_stepSum, cX4_stepSum, 2, (some .long), [])
theorem cm_X4_stepSum : jYm mX4_stepSum 1 := ⟨tt_of 981 (by decide +kernel) rfl, tt_of 53 (by decide +kernel) rfl, ⟨by decide +kernel, by decide +kernel⟩, by decide +kernel, by decide +kernel, by decide +kernel⟩
theorem ci_X4_stepSum : Cond.instanceMethod mX4_stepSum.1 ∈ TT := tt_of 979 (by decide +kernel) rfl
theorem cs_X4_stepSum : Cond.selects mX4_stepSum.1.cls mX4_stepSum.1 mX4_stepSum.1 ∈ TT := tt_of 980 (by decide +kernel) rfl
abbrev mX4_sumOfAll : jM := (yX4_sumOfAll, cX4_sumOfAll, 1, (some .long), [])
theorem cm_X4_sumOfAll : jYm mX4_sumOfAll 0 := ⟨tt_of 993 (by decide +kernel) rfl, tt_of 53 (by decide +kernel) rfl, ⟨by decide +kernel, by decide +kernel⟩, by decide +kernel, by decide +kernel, by decide +kernel⟩
theorem ci_X4_sumOfAll : Cond.instanceMethod mX4_sumOfAll.1 ∈ TT := tt_of 992 (by decide +kernel) rfl
theorem cs_X4_sumOfAll : Cond.selects mX4_sumOfAll.1.cls mX4_sumOfAll.1 mX4_sumOfAll.1 ∈ TT := tt_of 29 (by decide +kernel) rfl
abbrev mX4_total : jM := (yX4_total, cX4_total, 1, (some .long), [])
theorem cm_X4_total : jYm mX4_total 0 := ⟨tt_of 989 (by decide +kernel) rfl, tt_of 53 (by decide +kernel) rfl, ⟨by decide +kernel, by decide +kernel⟩, by decide +kernel, by decide +kernel, by decide +kernel⟩
theorem ci_X4_total : Cond.instanceMethod mX4_total.1 ∈ TT := tt_of 987 (by decide +kernel) rfl
theorem cs_X4_total : Cond.selects mX4_total.1.cls mX4_total.1 mX4_total.1 ∈ TT := tt_of 988 (by decide +kernel) rfl
abbrev mX4_reaching : jM := (yX4_reaching, cX4_reaching, 6, (some .int), [])
theorem cm_X4_reaching : jYm mX4_reaching 2 := ⟨tt_of 1001 (by decide +kernel) rfl, tt_of 53 (by decide +kernel) rfl, ⟨by decide +kernel, by decide +kernel⟩, by decide +kernel, by decide +kernel, by decide +kernel⟩
theorem ci_X4_reaching : Cond.instanceMethod mX4_reaching.1 ∈ TT := tt_of 1000 (by decide +kernel) rfl
theorem cs_X4_reaching : Cond.selects mX4_reaching.1.cls mX4_reaching.1 mX4_reaching.1 ∈ TT := tt_of 30 (by decide +kernel) rfl
abbrev mX4_firstReaching : jM := (yX4_firstReaching, cX4_firstReaching, 3, (some .int), [])
theorem cm_X4_firstReaching : jYm mX4_firstReaching 2 := ⟨tt_of 997 (by decide +kernel) rfl, tt_of 53 (by decide +kernel) rfl, ⟨by decide +kernel, by decide +kernel⟩, by decide +kernel, by decide +kernel, by decide +kernel⟩
theorem ci_X4_firstReaching : Cond.instanceMethod mX4_firstReaching.1 ∈ TT := tt_of 995 (by decide +kernel) rfl
theorem cs_X4_firstReaching : Cond.selects mX4_firstReaching.1.cls mX4_firstReaching.1 mX4_firstReaching.1 ∈ TT := tt_of 996 (by decide +kernel) rfl
abbrev mX4_run : jM := (yX4_run, cX4_run, 7, (some .long), [])
theorem cm_X4_run : jYm mX4_run 1 := ⟨tt_of 1009 (by decide +kernel) rfl, tt_of 53 (by decide +kernel) rfl, ⟨by decide +kernel, by decide +kernel⟩, by decide +kernel, by decide +kernel, by decide +kernel⟩
theorem ci_X4_run : Cond.instanceMethod mX4_run.1 ∈ TT := tt_of 1008 (by decide +kernel) rfl
theorem cs_X4_run : Cond.selects mX4_run.1.cls mX4_run.1 mX4_run.1 ∈ TT := tt_of 31 (by decide +kernel) rfl
abbrev mX4_bestRun : jM := (yX4_bestRun, cX4_bestRun, 2, (some .long), [])
theorem cm_X4_bestRun : jYm mX4_bestRun 1 := ⟨tt_of 1005 (by decide +kernel) rfl, tt_of 53 (by decide +kernel) rfl, ⟨by decide +kernel, by decide +kernel⟩, by decide +kernel, by decide +kernel, by decide +kernel⟩
theorem ci_X4_bestRun : Cond.instanceMethod mX4_bestRun.1 ∈ TT := tt_of 1003 (by decide +kernel) rfl
theorem cs_X4_bestRun : Cond.selects mX4_bestRun.1.cls mX4_bestRun.1 mX4_bestRun.1 ∈ TT := tt_of 1004 (by decide +kernel) rfl
abbrev mX4_dryPart : jM := (yX4_dryPart, cX4_dryPart, 8, (some .int), [])
theorem cm_X4_dryPart : jYm mX4_dryPart 4 := ⟨tt_of 1018 (by decide +kernel) rfl, tt_of 53 (by decide +kernel) rfl, ⟨by decide +kernel, by decide +kernel⟩, by decide +kernel, by decide +kernel, by decide +kernel⟩
theorem ci_X4_dryPart : Cond.instanceMethod mX4_dryPart.1 ∈ TT := tt_of 1017 (by decide +kernel) rfl
theorem cs_X4_dryPart : Cond.selects mX4_dryPart.1.cls mX4_dryPart.1 mX4_dryPart.1 ∈ TT := tt_of 32 (by decide +kernel) rfl
abbrev mX4_dryIn : jM := (yX4_dryIn, cX4_dryIn, 5, (some .int), [])
theorem cm_X4_dryIn : jYm mX4_dryIn 4 := ⟨tt_of 1014 (by decide +kernel) rfl, tt_of 53 (by decide +kernel) rfl, ⟨by decide +kernel, by decide +kernel⟩, by decide +kernel, by decide +kernel, by decide +kernel⟩
theorem ci_X4_dryIn : Cond.instanceMethod mX4_dryIn.1 ∈ TT := tt_of 1012 (by decide +kernel) rfl
theorem cs_X4_dryIn : Cond.selects mX4_dryIn.1.cls mX4_dryIn.1 mX4_dryIn.1 ∈ TT := tt_of 1013 (by decide +kernel) rfl
abbrev mX4_dryNow : jM := (yX4_dryNow, cX4_dryNow, 1, (some .int), [])
theorem cm_X4_dryNow : jYm mX4_dryNow 0 := ⟨tt_of 1026 (by decide +kernel) rfl, tt_of 53 (by decide +kernel) rfl, ⟨by decide +kernel, by decide +kernel⟩, by decide +kernel, by decide +kernel, by decide +kernel⟩
theorem ci_X4_dryNow : Cond.instanceMethod mX4_dryNow.1 ∈ TT := tt_of 1025 (by decide +kernel) rfl
theorem cs_X4_dryNow : Cond.selects mX4_dryNow.1.cls mX4_dryNow.1 mX4_dryNow.1 ∈ TT := tt_of 33 (by decide +kernel) rfl
abbrev mX4_dry : jM := (yX4_dry, cX4_dry, 1, (some .int), [])
theorem cm_X4_dry : jYm mX4_dry 0 := ⟨tt_of 1022 (by decide +kernel) rfl, tt_of 53 (by decide +kernel) rfl, ⟨by decide +kernel, by decide +kernel⟩, by decide +kernel, by decide +kernel, by decide +kernel⟩
theorem ci_X4_dry : Cond.instanceMethod mX4_dry.1 ∈ TT := tt_of 1020 (by decide +kernel) rfl
theorem cs_X4_dry : Cond.selects mX4_dry.1.cls mX4_dry.1 mX4_dry.1 ∈ TT := tt_of 1021 (by decide +kernel) rfl
abbrev mX4_dryAt : jM := (yX4_dryAt, cX4_dryAt, 4, (some .int), [])
theorem cm_X4_dryAt : jYm mX4_dryAt 1 := ⟨tt_of 1030 (by decide +kernel) rfl, tt_of 53 (by decide +kernel) rfl, ⟨by decide +kernel, by decide +kernel⟩, by decide +kernel, by decide +kernel, by decide +kernel⟩
theorem ci_X4_dryAt : Cond.instanceMethod mX4_dryAt.1 ∈ TT := tt_of 1028 (by decide +kernel) rfl
theorem cs_X4_dryAt : Cond.selects mX4_dryAt.1.cls mX4_dryAt.1 mX4_dryAt.1 ∈ TT := tt_of 1029 (by decide +kernel) rfl
abbrev mX4_longest : jM := (yX4_longest, cX4_longest, 5, (some .int), [])
theorem cm_X4_longest : jYm mX4_longest 1 := ⟨tt_of 1038 (by decide +kernel) rfl, tt_of 53 (by decide +kernel) rfl, ⟨by decide +kernel, by decide +kernel⟩, by decide +kernel, by decide +kernel, by decide +kernel⟩
theorem ci_X4_longest : Cond.instanceMethod mX4_longest.1 ∈ TT := tt_of 1037 (by decide +kernel) rfl
theorem cs_X4_longest : Cond.selects mX4_longest.1.cls mX4_longest.1 mX4_longest.1 ∈ TT := tt_of 34 (by decide +kernel) rfl
abbrev mX4_longestDry : jM := (yX4_longestDry, cX4_longestDry, 2, (some .int), [])
theorem cm_X4_longestDry : jYm mX4_longestDry 1 := ⟨tt_of 1034 (by decide +kernel) rfl, tt_of 53 (by decide +kernel) rfl, ⟨by decide +kernel, by decide +kernel⟩, by decide +kernel, by decide +kernel, by decide +kernel⟩
theorem ci_X4_longestDry : Cond.instanceMethod mX4_longestDry.1 ∈ TT := tt_of 1032 (by decide +kernel) rfl
theorem cs_X4_longestDry : Cond.selects mX4_longestDry.1.cls mX4_longestDry.1 mX4_longestDry.1 ∈ TT := tt_of 1033 (by decide +kernel) rfl
abbrev mX4_driest : jM := (yX4_driest, cX4_driest, 3, (some .int), [])
theorem cm_X4_driest : jYm mX4_driest 0 := ⟨tt_of 1046 (by decide +kernel) rfl, tt_of 53 (by decide +kernel) rfl, ⟨by decide +kernel, by decide +kernel⟩, by decide +kernel, by decide +kernel, by decide +kernel⟩
theorem ci_X4_driest : Cond.instanceMethod mX4_driest.1 ∈ TT := tt_of 1045 (by decide +kernel) rfl
theorem cs_X4_driest : Cond.selects mX4_driest.1.cls mX4_driest.1 mX4_driest.1 ∈ TT := tt_of 35 (by decide +kernel) rfl
abbrev mX4_driestFlight : jM := (yX4_driestFlight, cX4_driestFlight, 1, (some .int), [])
theorem cm_X4_driestFlight : jYm mX4_driestFlight 0 := ⟨tt_of 1042 (by decide +kernel) rfl, tt_of 53 (by decide +kernel) rfl, ⟨by decide +kernel, by decide +kernel⟩, by decide +kernel, by decide +kernel, by decide +kernel⟩
theorem ci_X4_driestFlight : Cond.instanceMethod mX4_driestFlight.1 ∈ TT := tt_of 1040 (by decide +kernel) rfl
theorem cs_X4_driestFlight : Cond.selects mX4_driestFlight.1.cls mX4_driestFlight.1 mX4_driestFlight.1 ∈ TT := tt_of 1041 (by decide +kernel) rfl
abbrev mX4_lowestIn : jM := (yX4_lowestIn, cX4_lowestIn, 8, (some .int), [])
theorem cm_X4_lowestIn : jYm mX4_lowestIn 4 := ⟨tt_of 1050 (by decide +kernel) rfl, tt_of 53 (by decide +kernel) rfl, ⟨by decide +kernel, by decide +kernel⟩, by decide +kernel, by decide +kernel, by decide +kernel⟩
theorem ci_X4_lowestIn : Cond.instanceMethod mX4_lowestIn.1 ∈ TT := tt_of 1048 (by decide +kernel) rfl
theorem cs_X4_lowestIn : Cond.selects mX4_lowestIn.1.cls mX4_lowestIn.1 mX4_lowestIn.1 ∈ TT := tt_of 1049 (by decide +kernel) rfl
abbrev mX4_highest : jM := (yX4_highest, cX4_highest, 4, (some .int), [])
theorem cm_X4_highest : jYm mX4_highest 1 := ⟨tt_of 1058 (by decide +kernel) rfl, tt_of 53 (by decide +kernel) rfl, ⟨by decide +kernel, by decide +kernel⟩, by decide +kernel, by decide +kernel, by decide +kernel⟩
theorem ci_X4_highest : Cond.instanceMethod mX4_highest.1 ∈ TT := tt_of 1057 (by decide +kernel) rfl
theorem cs_X4_highest : Cond.selects mX4_highest.1.cls mX4_highest.1 mX4_highest.1 ∈ TT := tt_of 36 (by decide +kernel) rfl
abbrev mX4_highestAt : jM := (yX4_highestAt, cX4_highestAt, 2, (some .int), [])
theorem cm_X4_highestAt : jYm mX4_highestAt 1 := ⟨tt_of 1054 (by decide +kernel) rfl, tt_of 53 (by decide +kernel) rfl, ⟨by decide +kernel, by decide +kernel⟩, by decide +kernel, by decide +kernel, by decide +kernel⟩
theorem ci_X4_highestAt : Cond.instanceMethod mX4_highestAt.1 ∈ TT := tt_of 1052 (by decide +kernel) rfl
theorem cs_X4_highestAt : Cond.selects mX4_highestAt.1.cls mX4_highestAt.1 mX4_highestAt.1 ∈ TT := tt_of 1053 (by decide +kernel) rfl
abbrev mX4_below : jM := (yX4_below, cX4_below, 4, (some .int), [])
theorem cm_X4_below : jYm mX4_below 1 := ⟨tt_of 1066 (by decide +kernel) rfl, tt_of 53 (by decide +kernel) rfl, ⟨by decide +kernel, by decide +kernel⟩, by decide +kernel, by decide +kernel, by decide +kernel⟩
theorem ci_X4_below : Cond.instanceMethod mX4_below.1 ∈ TT := tt_of 1065 (by decide +kernel) rfl
theorem cs_X4_below : Cond.selects mX4_below.1.cls mX4_below.1 mX4_below.1 ∈ TT := tt_of 37 (by decide +kernel) rfl
abbrev mX4_upTo : jM := (yX4_upTo, cX4_upTo, 2, (some .int), [])
theorem cm_X4_upTo : jYm mX4_upTo 1 := ⟨tt_of 1062 (by decide +kernel) rfl, tt_of 53 (by decide +kernel) rfl, ⟨by decide +kernel, by decide +kernel⟩, by decide +kernel, by decide +kernel, by decide +kernel⟩
theorem ci_X4_upTo : Cond.instanceMethod mX4_upTo.1 ∈ TT := tt_of 1060 (by decide +kernel) rfl
theorem cs_X4_upTo : Cond.selects mX4_upTo.1.cls mX4_upTo.1 mX4_upTo.1 ∈ TT := tt_of 1061 (by decide +kernel) rfl
abbrev mX4_levelInOrder : jM := (yX4_levelInOrder, cX4_levelInOrder, 5, (some .int), [])
theorem cm_X4_levelInOrder : jYm mX4_levelInOrder 1 := ⟨tt_of 1070 (by decide +kernel) rfl, tt_of 53 (by decide +kernel) rfl, ⟨by decide +kernel, by decide +kernel⟩, by decide +kernel, by decide +kernel, by decide +kernel⟩
theorem ci_X4_levelInOrder : Cond.instanceMethod mX4_levelInOrder.1 ∈ TT := tt_of 1068 (by decide +kernel) rfl
theorem cs_X4_levelInOrder : Cond.selects mX4_levelInOrder.1.cls mX4_levelInOrder.1 mX4_levelInOrder.1 ∈ TT := tt_of 1069 (by decide +kernel) rfl
abbrev mX4_pairs : jM := (yX4_pairs, cX4_pairs, 4, (some .int), [])
theorem cm_X4_pairs : jYm mX4_pairs 0 := ⟨tt_of 1078 (by decide +kernel) rfl, tt_of 53 (by decide +kernel) rfl, ⟨by decide +kernel, by decide +kernel⟩, by decide +kernel, by decide +kernel, by decide +kernel⟩
theorem ci_X4_pairs : Cond.instanceMethod mX4_pairs.1 ∈ TT := tt_of 1077 (by decide +kernel) rfl
theorem cs_X4_pairs : Cond.selects mX4_pairs.1.cls mX4_pairs.1 mX4_pairs.1 ∈ TT := tt_of 38 (by decide +kernel) rfl
abbrev mX4_outOfOrder : jM := (yX4_outOfOrder, cX4_outOfOrder, 1, (some .int), [])
theorem cm_X4_outOfOrder : jYm mX4_outOfOrder 0 := ⟨tt_of 1074 (by decide +kernel) rfl, tt_of 53 (by decide +kernel) rfl, ⟨by decide +kernel, by decide +kernel⟩, by decide +kernel, by decide +kernel, by decide +kernel⟩
theorem ci_X4_outOfOrder : Cond.instanceMethod mX4_outOfOrder.1 ∈ TT := tt_of 1072 (by decide +kernel) rfl
theorem cs_X4_outOfOrder : Cond.selects mX4_outOfOrder.1.cls mX4_outOfOrder.1 mX4_outOfOrder.1 ∈ TT := tt_of 1073 (by decide +kernel) rfl
abbrev mX4_alike : jM := (yX4_alike, cX4_alike, 5, (some .int), [])
theorem cm_X4_alike : jYm mX4_alike 2 := ⟨tt_of 1082 (by decide +kernel) rfl, tt_of 53 (by decide +kernel) rfl, ⟨by decide +kernel, by decide +kernel⟩, by decide +kernel, by decide +kernel, by decide +kernel⟩
theorem ci_X4_alike : Cond.instanceMethod mX4_alike.1 ∈ TT := tt_of 1080 (by decide +kernel) rfl
theorem cs_X4_alike : Cond.selects mX4_alike.1.cls mX4_alike.1 mX4_alike.1 ∈ TT := tt_of 1081 (by decide +kernel) rfl
abbrev mX4_changed : jM := (yX4_changed, cX4_changed, 4, (some .int), [])
theorem cm_X4_changed : jYm mX4_changed 1 := ⟨tt_of 1090 (by decide +kernel) rfl, tt_of 53 (by decide +kernel) rfl, ⟨by decide +kernel, by decide +kernel⟩, by decide +kernel, by decide +kernel, by decide +kernel⟩
theorem ci_X4_changed : Cond.instanceMethod mX4_changed.1 ∈ TT := tt_of 1089 (by decide +kernel) rfl
theorem cs_X4_changed : Cond.selects mX4_changed.1.cls mX4_changed.1 mX4_changed.1 ∈ TT := tt_of 39 (by decide +kernel) rfl
abbrev mX4_changedSince : jM := (yX4_changedSince, cX4_changedSince, 2, (some .int), [])
theorem cm_X4_changedSince : jYm mX4_changedSince 1 := ⟨tt_of 1086 (by decide +kernel) rfl, tt_of 53 (by decide +kernel) rfl, ⟨by decide +kernel, by decide +kernel⟩, by decide +kernel, by decide +kernel, by decide +kernel⟩
theorem ci_X4_changedSince : Cond.instanceMethod mX4_changedSince.1 ∈ TT := tt_of 1084 (by decide +kernel) rfl
theorem cs_X4_changedSince : Cond.selects mX4_changedSince.1.cls mX4_changedSince.1 mX4_changedSince.1 ∈ TT := tt_of 1085 (by decide +kernel) rfl
abbrev mX4_later : jM := (yX4_later, cX4_later, 5, (some .long), [])
theorem cm_X4_later : jYm mX4_later 1 := ⟨tt_of 1098 (by decide +kernel) rfl, tt_of 53 (by decide +kernel) rfl, ⟨by decide +kernel, by decide +kernel⟩, by decide +kernel, by decide +kernel, by decide +kernel⟩
theorem ci_X4_later : Cond.instanceMethod mX4_later.1 ∈ TT := tt_of 1097 (by decide +kernel) rfl
theorem cs_X4_later : Cond.selects mX4_later.1.cls mX4_later.1 mX4_later.1 ∈ TT := tt_of 40 (by decide +kernel) rfl
abbrev mX4_totalIn : jM := (yX4_totalIn, cX4_totalIn, 2, (some .long), [])
theorem cm_X4_totalIn : jYm mX4_totalIn 1 := ⟨tt_of 1094 (by decide +kernel) rfl, tt_of 53 (by decide +kernel) rfl, ⟨by decide +kernel, by decide +kernel⟩, by decide +kernel, by decide +kernel, by decide +kernel⟩
theorem ci_X4_totalIn : Cond.instanceMethod mX4_totalIn.1 ∈ TT := tt_of 1092 (by decide +kernel) rfl
theorem cs_X4_totalIn : Cond.selects mX4_totalIn.1.cls mX4_totalIn.1 mX4_totalIn.1 ∈ TT := tt_of 1093 (by decide +kernel) rfl
abbrev mX4_goneIn : jM := (yX4_goneIn, cX4_goneIn, 2, (some .int), [])
theorem cm_X4_goneIn : jYm mX4_goneIn 1 := ⟨tt_of 1110 (by decide +kernel) rfl, tt_of 53 (by decide +kernel) rfl, ⟨by decide +kernel, by decide +kernel⟩, by decide +kernel, by decide +kernel, by decide +kernel⟩
theorem ci_X4_goneIn : Cond.instanceMethod mX4_goneIn.1 ∈ TT := tt_of 1108 (by decide +kernel) rfl
theorem cs_X4_goneIn : Cond.selects mX4_goneIn.1.cls mX4_goneIn.1 mX4_goneIn.1 ∈ TT := tt_of 1109 (by decide +kernel) rfl
abbrev mX4_untilDry : jM := (yX4_untilDry, cX4_untilDry, 2, (some .int), [])
theorem cm_X4_untilDry : jYm mX4_untilDry 0 := ⟨tt_of 1118 (by decide +kernel) rfl, tt_of 53 (by decide +kernel) rfl, ⟨by decide +kernel, by decide +kernel⟩, by decide +kernel, by decide +kernel, by decide +kernel⟩
theorem ci_X4_untilDry : Cond.instanceMethod mX4_untilDry.1 ∈ TT := tt_of 1117 (by decide +kernel) rfl
theorem cs_X4_untilDry : Cond.selects mX4_untilDry.1.cls mX4_untilDry.1 mX4_untilDry.1 ∈ TT := tt_of 43 (by decide +kernel) rfl
abbrev mX4_hoursUntilDry : jM := (yX4_hoursUntilDry, cX4_hoursUntilDry, 1, (some .int), [])
theorem cm_X4_hoursUntilDry : jYm mX4_hoursUntilDry 0 := ⟨tt_of 1114 (by decide +kernel) rfl, tt_of 53 (by decide +kernel) rfl, ⟨by decide +kernel, by decide +kernel⟩, by decide +kernel, by decide +kernel, by decide +kernel⟩
theorem ci_X4_hoursUntilDry : Cond.instanceMethod mX4_hoursUntilDry.1 ∈ TT := tt_of 1112 (by decide +kernel) rfl
theorem cs_X4_hoursUntilDry : Cond.selects mX4_hoursUntilDry.1.cls mX4_hoursUntilDry.1 mX4_hoursUntilDry.1 ∈ TT := tt_of 1113 (by decide +kernel) rfl
abbrev mX4_wanted : jM := (yX4_wanted, cX4_wanted, 3, (some .int), [])
theorem cm_X4_wanted : jYm mX4_wanted 1 := ⟨tt_of 1130 (by decide +kernel) rfl, tt_of 53 (by decide +kernel) rfl, ⟨by decide +kernel, by decide +kernel⟩, by decide +kernel, by decide +kernel, by decide +kernel⟩
theorem ci_X4_wanted : Cond.instanceMethod mX4_wanted.1 ∈ TT := tt_of 1129 (by decide +kernel) rfl
theorem cs_X4_wanted : Cond.selects mX4_wanted.1.cls mX4_wanted.1 mX4_wanted.1 ∈ TT := tt_of 45 (by decide +kernel) rfl
abbrev mX4_sunWanted : jM := (yX4_sunWanted, cX4_sunWanted, 2, (some .int), [])
theorem cm_X4_sunWanted : jYm mX4_sunWanted 1 := ⟨tt_of 1126 (by decide +kernel) rfl, tt_of 53 (by decide +kernel) rfl, ⟨by decide +kernel, by decide +kernel⟩, by decide +kernel, by decide +kernel, by decide +kernel⟩
theorem ci_X4_sunWanted : Cond.instanceMethod mX4_sunWanted.1 ∈ TT := tt_of 1124 (by decide +kernel) rfl
theorem cs_X4_sunWanted : Cond.selects mX4_sunWanted.1.cls mX4_sunWanted.1 mX4_sunWanted.1 ∈ TT := tt_of 1125 (by decide +kernel) rfl
abbrev mX4_bestEdge : jM := (yX4_bestEdge, cX4_bestEdge, 8, (some .int), [])
theorem cm_X4_bestEdge : jYm mX4_bestEdge 2 := ⟨tt_of 1134 (by decide +kernel) rfl, tt_of 53 (by decide +kernel) rfl, ⟨by decide +kernel, by decide +kernel⟩, by decide +kernel, by decide +kernel, by decide +kernel⟩
theorem ci_X4_bestEdge : Cond.instanceMethod mX4_bestEdge.1 ∈ TT := tt_of 1132 (by decide +kernel) rfl
theorem cs_X4_bestEdge : Cond.selects mX4_bestEdge.1.cls mX4_bestEdge.1 mX4_bestEdge.1 ∈ TT := tt_of 1133 (by decide +kernel) rfl
abbrev mX4_swapFor : jM := (yX4_swapFor, cX4_swapFor, 6, (some .int), [])
theorem cm_X4_swapFor : jYm mX4_swapFor 1 := ⟨tt_of 1142 (by decide +kernel) rfl, tt_of 53 (by decide +kernel) rfl, ⟨by decide +kernel, by decide +kernel⟩, by decide +kernel, by decide +kernel, by decide +kernel⟩
theorem ci_X4_swapFor : Cond.instanceMethod mX4_swapFor.1 ∈ TT := tt_of 1141 (by decide +kernel) rfl
theorem cs_X4_swapFor : Cond.selects mX4_swapFor.1.cls mX4_swapFor.1 mX4_swapFor.1 ∈ TT := tt_of 46 (by decide +kernel) rfl
abbrev mX4_bestSwap : jM := (yX4_bestSwap, cX4_bestSwap, 2, (some .int), [])
theorem cm_X4_bestSwap : jYm mX4_bestSwap 1 := ⟨tt_of 1138 (by decide +kernel) rfl, tt_of 53 (by decide +kernel) rfl, ⟨by decide +kernel, by decide +kernel⟩, by decide +kernel, by decide +kernel, by decide +kernel⟩
theorem ci_X4_bestSwap : Cond.instanceMethod mX4_bestSwap.1 ∈ TT := tt_of 1136 (by decide +kernel) rfl
theorem cs_X4_bestSwap : Cond.selects mX4_bestSwap.1.cls mX4_bestSwap.1 mX4_bestSwap.1 ∈ TT := tt_of 1137 (by decide +kernel) rfl
abbrev mX4_meanLevel : jM := (yX4_meanLevel, cX4_meanLevel, 1, (some .double), [])
theorem cm_X4_meanLevel : jYm mX4_meanLevel 0 := ⟨tt_of 1146 (by decide +kernel) rfl, tt_of 53 (by decide +kernel) rfl, ⟨by decide +kernel, by decide +kernel⟩, by decide +kernel, by decide +kernel, by decide +kernel⟩
theorem ci_X4_meanLevel : Cond.instanceMethod mX4_meanLevel.1 ∈ TT := tt_of 1144 (by decide +kernel) rfl
theorem cs_X4_meanLevel : Cond.selects mX4_meanLevel.1.cls mX4_meanLevel.1 mX4_meanLevel.1 ∈ TT := tt_of 1145 (by decide +kernel) rfl
abbrev mX4_digest : jM := (yX4_digest, cX4_digest, 9, (some .long), [])
theorem cm_X4_digest : jYm mX4_digest 0 := ⟨tt_of 1150 (by decide +kernel) rfl, tt_of 53 (by decide +kernel) rfl, ⟨by decide +kernel, by decide +kernel⟩, by decide +kernel, by decide +kernel, by decide +kernel⟩
theorem ci_X4_digest : Cond.instanceMethod mX4_digest.1 ∈ TT := tt_of 1148 (by decide +kernel) rfl
theorem cs_X4_digest : Cond.selects mX4_digest.1.cls mX4_digest.1 mX4_digest.1 ∈ TT := tt_of 1149 (by decide +kernel) rfl
abbrev mL_lay : jM := (yL_lay, cL_lay, 5, (some .int), [(0, 10, 13, 13)])
theorem cm_L_lay : jYm mL_lay 4 := ⟨tt_of 490 (by decide +kernel) rfl, tt_of 47 (by decide +kernel) rfl, ⟨by decide +kernel, by decide +kernel⟩, by decide +kernel, by decide +kernel, by decide +kernel⟩
theorem ct_L_lay : Cond.static mL_lay.1 ∈ TT := tt_of 489 (by decide +kernel) rfl
abbrev mL_rain : jM := (yL_rain, cL_rain, 6, (some .int), [(0, 12, 15, 19), (0, 12, 19, 13)])
theorem cm_L_rain : jYm mL_rain 5 := ⟨tt_of 502 (by decide +kernel) rfl, tt_of 47 (by decide +kernel) rfl, ⟨by decide +kernel, by decide +kernel⟩, by decide +kernel, by decide +kernel, by decide +kernel⟩
theorem ct_L_rain : Cond.static mL_rain.1 ∈ TT := tt_of 501 (by decide +kernel) rfl
abbrev mL_splash : jM := (yL_splash, cL_splash, 8, (some .int), [(0, 16, 19, 19), (0, 16, 23, 13)])
theorem cm_L_splash : jYm mL_splash 7 := ⟨tt_of 528 (by decide +kernel) rfl, tt_of 47 (by decide +kernel) rfl, ⟨by decide +kernel, by decide +kernel⟩, by decide +kernel, by decide +kernel, by decide +kernel⟩
theorem ct_L_splash : Cond.static mL_splash.1 ∈ TT := tt_of 527 (by decide +kernel) rfl
abbrev mL_swap : jM := (yL_swap, cL_swap, 5, (some .int), [(0, 10, 13, 19)])
theorem cm_L_swap : jYm mL_swap 4 := ⟨tt_of 540 (by decide +kernel) rfl, tt_of 47 (by decide +kernel) rfl, ⟨by decide +kernel, by decide +kernel⟩, by decide +kernel, by decide +kernel, by decide +kernel⟩
theorem ct_L_swap : Cond.static mL_swap.1 ∈ TT := tt_of 539 (by decide +kernel) rfl
abbrev mL_turn : jM := (yL_turn, cL_turn, 4, (some .int), [(0, 9, 12, 19)])
theorem cm_L_turn : jYm mL_turn 3 := ⟨tt_of 556 (by decide +kernel) rfl, tt_of 47 (by decide +kernel) rfl, ⟨by decide +kernel, by decide +kernel⟩, by decide +kernel, by decide +kernel, by decide +kernel⟩
theorem ct_L_turn : Cond.static mL_turn.1 ∈ TT := tt_of 555 (by decide +kernel) rfl
abbrev mL_bail : jM := (yL_bail, cL_bail, 5, (some .int), [(0, 10, 13, 19), (0, 10, 17, 13)])
theorem cm_L_bail : jYm mL_bail 4 := ⟨tt_of 563 (by decide +kernel) rfl, tt_of 47 (by decide +kernel) rfl, ⟨by decide +kernel, by decide +kernel⟩, by decide +kernel, by decide +kernel, by decide +kernel⟩
theorem ct_L_bail : Cond.static mL_bail.1 ∈ TT := tt_of 562 (by decide +kernel) rfl
abbrev mL_passHours : jM := (yL_passHours, cL_passHours, 4, (some .int), [(0, 9, 12, 13)])
theorem cm_L_passHours : jYm mL_passHours 3 := ⟨tt_of 571 (by decide +kernel) rfl, tt_of 47 (by decide +kernel) rfl, ⟨by decide +kernel, by decide +kernel⟩, by decide +kernel, by decide +kernel, by decide +kernel⟩
theorem ct_L_passHours : Cond.static mL_passHours.1 ∈ TT := tt_of 570 (by decide +kernel) rfl
abbrev mL_mark : jM := (yL_mark, cL_mark, 3, (some .int), [(0, 8, 11, 42)])
theorem cm_L_mark : jYm mL_mark 2 := ⟨tt_of 578 (by decide +kernel) rfl, tt_of 47 (by decide +kernel) rfl, ⟨by decide +kernel, by decide +kernel⟩, by decide +kernel, by decide +kernel, by decide +kernel⟩
theorem ct_L_mark : Cond.static mL_mark.1 ∈ TT := tt_of 577 (by decide +kernel) rfl
abbrev mL_back : jM := (yL_back, cL_back, 4, (some .int), [(0, 9, 12, 19)])
theorem cm_L_back : jYm mL_back 3 := ⟨tt_of 602 (by decide +kernel) rfl, tt_of 47 (by decide +kernel) rfl, ⟨by decide +kernel, by decide +kernel⟩, by decide +kernel, by decide +kernel, by decide +kernel⟩
theorem ct_L_back : Cond.static mL_back.1 ∈ TT := tt_of 601 (by decide +kernel) rfl
abbrev mL_undo : jM := (yL_undo, cL_undo, 3, (some .int), [(0, 8, 11, 42)])
theorem cm_L_undo : jYm mL_undo 2 := ⟨tt_of 614 (by decide +kernel) rfl, tt_of 47 (by decide +kernel) rfl, ⟨by decide +kernel, by decide +kernel⟩, by decide +kernel, by decide +kernel, by decide +kernel⟩
theorem ct_L_undo : Cond.static mL_undo.1 ∈ TT := tt_of 613 (by decide +kernel) rfl
abbrev mL_setSun : jM := (yL_setSun, cL_setSun, 4, (some .int), [(0, 9, 12, 13)])
theorem cm_L_setSun : jYm mL_setSun 3 := ⟨tt_of 626 (by decide +kernel) rfl, tt_of 47 (by decide +kernel) rfl, ⟨by decide +kernel, by decide +kernel⟩, by decide +kernel, by decide +kernel, by decide +kernel⟩
theorem ct_L_setSun : Cond.static mL_setSun.1 ∈ TT := tt_of 625 (by decide +kernel) rfl
abbrev mL_setEdge : jM := (yL_setEdge, cL_setEdge, 5, (some .int), [(0, 10, 13, 19), (0, 10, 17, 13)])
theorem cm_L_setEdge : jYm mL_setEdge 4 := ⟨tt_of 633 (by decide +kernel) rfl, tt_of 47 (by decide +kernel) rfl, ⟨by decide +kernel, by decide +kernel⟩, by decide +kernel, by decide +kernel, by decide +kernel⟩
theorem ct_L_setEdge : Cond.static mL_setEdge.1 ∈ TT := tt_of 632 (by decide +kernel) rfl
abbrev mL_edgeOf : jM := (yL_edgeOf, cL_edgeOf, 4, (some .int), [(0, 9, 12, 19)])
theorem cm_L_edgeOf : jYm mL_edgeOf 3 := ⟨tt_of 640 (by decide +kernel) rfl, tt_of 47 (by decide +kernel) rfl, ⟨by decide +kernel, by decide +kernel⟩, by decide +kernel, by decide +kernel, by decide +kernel⟩
theorem ct_L_edgeOf : Cond.static mL_edgeOf.1 ∈ TT := tt_of 639 (by decide +kernel) rfl
abbrev mL_levelAt : jM := (yL_levelAt, cL_levelAt, 5, (some .int), [(0, 10, 13, 19)])
theorem cm_L_levelAt : jYm mL_levelAt 4 := ⟨tt_of 644 (by decide +kernel) rfl, tt_of 47 (by decide +kernel) rfl, ⟨by decide +kernel, by decide +kernel⟩, by decide +kernel, by decide +kernel, by decide +kernel⟩
theorem ct_L_levelAt : Cond.static mL_levelAt.1 ∈ TT := tt_of 643 (by decide +kernel) rfl
abbrev mL_sumOf : jM := (yL_sumOf, cL_sumOf, 7, (some .int), [(0, 13, 16, 19), (0, 13, 20, 13)])
theorem cm_L_sumOf : jYm mL_sumOf 6 := ⟨tt_of 651 (by decide +kernel) rfl, tt_of 47 (by decide +kernel) rfl, ⟨by decide +kernel, by decide +kernel⟩, by decide +kernel, by decide +kernel, by decide +kernel⟩
theorem ct_L_sumOf : Cond.static mL_sumOf.1 ∈ TT := tt_of 650 (by decide +kernel) rfl
abbrev mL_sumTo : jM := (yL_sumTo, cL_sumTo, 5, (some .int), [(0, 9, 12, 19)])
theorem cm_L_sumTo : jYm mL_sumTo 4 := ⟨tt_of 658 (by decide +kernel) rfl, tt_of 47 (by decide +kernel) rfl, ⟨by decide +kernel, by decide +kernel⟩, by decide +kernel, by decide +kernel, by decide +kernel⟩
theorem ct_L_sumTo : Cond.static mL_sumTo.1 ∈ TT := tt_of 657 (by decide +kernel) rfl
abbrev mL_flightSum : jM := (yL_flightSum, cL_flightSum, 4, (some .int), [(0, 8, 11, 19)])
theorem cm_L_flightSum : jYm mL_flightSum 3 := ⟨tt_of 665 (by decide +kernel) rfl, tt_of 47 (by decide +kernel) rfl, ⟨by decide +kernel, by decide +kernel⟩, by decide +kernel, by decide +kernel, by decide +kernel⟩
theorem ct_L_flightSum : Cond.static mL_flightSum.1 ∈ TT := tt_of 664 (by decide +kernel) rfl
abbrev mL_stepSum : jM := (yL_stepSum, cL_stepSum, 4, (some .int), [(0, 8, 11, 19)])
theorem cm_L_stepSum : jYm mL_stepSum 3 := ⟨tt_of 669 (by decide +kernel) rfl, tt_of 47 (by decide +kernel) rfl, ⟨by decide +kernel, by decide +kernel⟩, by decide +kernel, by decide +kernel, by decide +kernel⟩
theorem ct_L_stepSum : Cond.static mL_stepSum.1 ∈ TT := tt_of 668 (by decide +kernel) rfl
abbrev mL_firstReaching : jM := (yL_firstReaching, cL_firstReaching, 5, (some .int), [(0, 10, 13, 19)])
theorem cm_L_firstReaching : jYm mL_firstReaching 4 := ⟨tt_of 673 (by decide +kernel) rfl, tt_of 47 (by decide +kernel) rfl, ⟨by decide +kernel, by decide +kernel⟩, by decide +kernel, by decide +kernel, by decide +kernel⟩
theorem ct_L_firstReaching : Cond.static mL_firstReaching.1 ∈ TT := tt_of 672 (by decide +kernel) rfl
abbrev mL_bestRun : jM := (yL_bestRun, cL_bestRun, 4, (some .int), [(0, 8, 11, 19)])
theorem cm_L_bestRun : jYm mL_bestRun 3 := ⟨tt_of 680 (by decide +kernel) rfl, tt_of 47 (by decide +kernel) rfl, ⟨by decide +kernel, by decide +kernel⟩, by decide +kernel, by decide +kernel, by decide +kernel⟩
theorem ct_L_bestRun : Cond.static mL_bestRun.1 ∈ TT := tt_of 679 (by decide +kernel) rfl
abbrev mL_dryIn : jM := (yL_dryIn, cL_dryIn, 7, (some .int), [(0, 14, 17, 19), (0, 14, 21, 13)])
theorem cm_L_dryIn : jYm mL_dryIn 6 := ⟨tt_of 684 (by decide +kernel) rfl, tt_of 47 (by decide +kernel) rfl, ⟨by decide +kernel, by decide +kernel⟩, by decide +kernel, by decide +kernel, by decide +kernel⟩
theorem ct_L_dryIn : Cond.static mL_dryIn.1 ∈ TT := tt_of 683 (by decide +kernel) rfl
abbrev mL_dryAt : jM := (yL_dryAt, cL_dryAt, 4, (some .int), [(0, 9, 12, 19)])
theorem cm_L_dryAt : jYm mL_dryAt 3 := ⟨tt_of 691 (by decide +kernel) rfl, tt_of 47 (by decide +kernel) rfl, ⟨by decide +kernel, by decide +kernel⟩, by decide +kernel, by decide +kernel, by decide +kernel⟩
theorem ct_L_dryAt : Cond.static mL_dryAt.1 ∈ TT := tt_of 690 (by decide +kernel) rfl
abbrev mL_longestDry : jM := (yL_longestDry, cL_longestDry, 4, (some .int), [(0, 9, 12, 19)])
theorem cm_L_longestDry : jYm mL_longestDry 3 := ⟨tt_of 699 (by decide +kernel) rfl, tt_of 47 (by decide +kernel) rfl, ⟨by decide +kernel, by decide +kernel⟩, by decide +kernel, by decide +kernel, by decide +kernel⟩
theorem ct_L_longestDry : Cond.static mL_longestDry.1 ∈ TT := tt_of 698 (by decide +kernel) rfl
abbrev mL_lowestIn : jM := (yL_lowestIn, cL_lowestIn, 7, (some .int), [(0, 14, 17, 19), (0, 14, 21, 13)])
theorem cm_L_lowestIn : jYm mL_lowestIn 6 := ⟨tt_of 703 (by decide +kernel) rfl, tt_of 47 (by decide +kernel) rfl, ⟨by decide +kernel, by decide +kernel⟩, by decide +kernel, by decide +kernel, by decide +kernel⟩
theorem ct_L_lowestIn : Cond.static mL_lowestIn.1 ∈ TT := tt_of 702 (by decide +kernel) rfl
abbrev mL_highestAt : jM := (yL_highestAt, cL_highestAt, 4, (some .int), [(0, 9, 12, 19)])
theorem cm_L_highestAt : jYm mL_highestAt 3 := ⟨tt_of 711 (by decide +kernel) rfl, tt_of 47 (by decide +kernel) rfl, ⟨by decide +kernel, by decide +kernel⟩, by decide +kernel, by decide +kernel, by decide +kernel⟩
theorem ct_L_highestAt : Cond.static mL_highestAt.1 ∈ TT := tt_of 710 (by decide +kernel) rfl
abbrev mL_levelInOrder : jM := (yL_levelInOrder, cL_levelInOrder, 4, (some .int), [(0, 9, 12, 19)])
theorem cm_L_levelInOrder : jYm mL_levelInOrder 3 := ⟨tt_of 715 (by decide +kernel) rfl, tt_of 47 (by decide +kernel) rfl, ⟨by decide +kernel, by decide +kernel⟩, by decide +kernel, by decide +kernel, by decide +kernel⟩
theorem ct_L_levelInOrder : Cond.static mL_levelInOrder.1 ∈ TT := tt_of 714 (by decide +kernel) rfl
abbrev mL_alike : jM := (yL_alike, cL_alike, 5, (some .int), [(0, 10, 13, 19)])
theorem cm_L_alike : jYm mL_alike 4 := ⟨tt_of 722 (by decide +kernel) rfl, tt_of 47 (by decide +kernel) rfl, ⟨by decide +kernel, by decide +kernel⟩, by decide +kernel, by decide +kernel, by decide +kernel⟩
theorem ct_L_alike : Cond.static mL_alike.1 ∈ TT := tt_of 721 (by decide +kernel) rfl
abbrev mL_changedSince : jM := (yL_changedSince, cL_changedSince, 4, (some .int), [(0, 9, 12, 19)])
theorem cm_L_changedSince : jYm mL_changedSince 3 := ⟨tt_of 729 (by decide +kernel) rfl, tt_of 47 (by decide +kernel) rfl, ⟨by decide +kernel, by decide +kernel⟩, by decide +kernel, by decide +kernel, by decide +kernel⟩
theorem ct_L_changedSince : Cond.static mL_changedSince.1 ∈ TT := tt_of 728 (by decide +kernel) rfl
abbrev mL_totalIn : jM := (yL_totalIn, cL_totalIn, 4, (some .int), [(0, 8, 11, 13)])
theorem cm_L_totalIn : jYm mL_totalIn 3 := ⟨tt_of 733 (by decide +kernel) rfl, tt_of 47 (by decide +kernel) rfl, ⟨by decide +kernel, by decide +kernel⟩, by decide +kernel, by decide +kernel, by decide +kernel⟩
theorem ct_L_totalIn : Cond.static mL_totalIn.1 ∈ TT := tt_of 732 (by decide +kernel) rfl
abbrev mL_goneIn : jM := (yL_goneIn, cL_goneIn, 4, (some .int), [(0, 9, 12, 13)])
theorem cm_L_goneIn : jYm mL_goneIn 3 := ⟨tt_of 737 (by decide +kernel) rfl, tt_of 47 (by decide +kernel) rfl, ⟨by decide +kernel, by decide +kernel⟩, by decide +kernel, by decide +kernel, by decide +kernel⟩
theorem ct_L_goneIn : Cond.static mL_goneIn.1 ∈ TT := tt_of 736 (by decide +kernel) rfl
abbrev mL_sunWanted : jM := (yL_sunWanted, cL_sunWanted, 4, (some .int), [(0, 9, 12, 13)])
theorem cm_L_sunWanted : jYm mL_sunWanted 3 := ⟨tt_of 741 (by decide +kernel) rfl, tt_of 47 (by decide +kernel) rfl, ⟨by decide +kernel, by decide +kernel⟩, by decide +kernel, by decide +kernel, by decide +kernel⟩
theorem ct_L_sunWanted : Cond.static mL_sunWanted.1 ∈ TT := tt_of 740 (by decide +kernel) rfl
abbrev mL_bestEdge : jM := (yL_bestEdge, cL_bestEdge, 5, (some .int), [(0, 10, 13, 19), (0, 10, 17, 13)])
theorem cm_L_bestEdge : jYm mL_bestEdge 4 := ⟨tt_of 745 (by decide +kernel) rfl, tt_of 47 (by decide +kernel) rfl, ⟨by decide +kernel, by decide +kernel⟩, by decide +kernel, by decide +kernel, by decide +kernel⟩
theorem ct_L_bestEdge : Cond.static mL_bestEdge.1 ∈ TT := tt_of 744 (by decide +kernel) rfl
abbrev mL_bestSwap : jM := (yL_bestSwap, cL_bestSwap, 4, (some .int), [(0, 9, 12, 19)])
theorem cm_L_bestSwap : jYm mL_bestSwap 3 := ⟨tt_of 752 (by decide +kernel) rfl, tt_of 47 (by decide +kernel) rfl, ⟨by decide +kernel, by decide +kernel⟩, by decide +kernel, by decide +kernel, by decide +kernel⟩
theorem ct_L_bestSwap : Cond.static mL_bestSwap.1 ∈ TT := tt_of 751 (by decide +kernel) rfl
abbrev mL_law : jM := (x, code, maxLocals, ret, [])
theorem wcl_X0 : ∀ w ∈ wsX00, w ∈ TT := by decide +kernel
theorem fp_X0 : jFp TX0 2 tyX0 := ⟨tyX0_ok, nmX0⟩
theorem wcl_X1 : ∀ w ∈ wsX10, w ∈ TT := by decide +kernel
theorem fp_X1 : jFp TX1 3 tyX1 := ⟨tyX1_ok, nmX1⟩
theorem wcl_X2 : ∀ w ∈ wsX20, w ∈ TT := by decide +kernel
theorem fp_X2 : jFp TX2 5 tyX2 := ⟨tyX2_ok, nmX2⟩
theorem wcl_X3 : ∀ w ∈ wsX30, w ∈ TT := by decide +kernel
theorem fp_X3 : jFp TX3 7 tyX3 := ⟨tyX3_ok, nmX3⟩
theorem wcl_X4 : ∀ w ∈ wsX40, w ∈ TT := by decide +kernel
theorem fp_X4 : jFp TX4 14 tyX4 := ⟨tyX4_ok, nmX4⟩
theorem iz_PuddleStairsLaw : Cond.initialized RL ∈ TT := tt_of 47 (by decide +kernel) rfl
theorem iz_X3 : Cond.initialized RX3 ∈ TT := tt_of 48 (by decide +kernel) rfl
theorem iz_X2 : Cond.initialized RX2 ∈ TT := tt_of 49 (by decide +kernel) rfl
theorem iz_X1 : Cond.initialized RX1 ∈ TT := tt_of 50 (by decide +kernel) rfl
theorem iz_java_lang_Math : Cond.initialized "java/lang/Math" ∈ TT := tt_of 51 (by decide +kernel) rfl
theorem iz_X0 : Cond.initialized RX0 ∈ TT := tt_of 52 (by decide +kernel) rfl
theorem iz_X4 : Cond.initialized RX4 ∈ TT := tt_of 53 (by decide +kernel) rfl
theorem iz_java_lang_Throwable : Cond.initialized "java/lang/Throwable" ∈ TT := tt_of 54 (by decide +kernel) rfl
theorem iz_java_lang_Exception : Cond.initialized "java/lang/Exception" ∈ TT := tt_of 55 (by decide +kernel) rfl
theorem iz_java_lang_RuntimeException : Cond.initialized "java/lang/RuntimeException" ∈ TT := tt_of 56 (by decide +kernel) rfl
theorem iz_java_lang_IllegalArgumentException : Cond.initialized "java/lang/IllegalArgumentException" ∈ TT := tt_of 57 (by decide +kernel) rfl
theorem iz_java_lang_IndexOutOfBoundsException : Cond.initialized "java/lang/IndexOutOfBoundsException" ∈ TT := tt_of 58 (by decide +kernel) rfl
theorem iz_java_lang_System : Cond.initialized "java/lang/System" ∈ TT := tt_of 59 (by decide +kernel) rfl
theorem iz_java_lang_IllegalStateException : Cond.initialized "java/lang/IllegalStateException" ∈ TT := tt_of 60 (by decide +kernel) rfl
theorem cl_L_8 : Cond.classLink RL 8 RX3 ∈ TT := tt_of 61 (by decide +kernel) rfl
theorem in_X3 : Cond.instantiable RX3 7 ∈ TT := tt_of 62 (by decide +kernel) rfl
theorem ln_L_123 : Cond.methodLink RL 123 mX3_init.1 ∈ TT := tt_of 63 (by decide +kernel) rfl
theorem ln_X3_3 : Cond.methodLink RX3 3 Lib.objectInit ∈ TT := tt_of 66 (by decide +kernel) rfl
theorem cl_X3_9 : Cond.classLink RX3 9 RX2 ∈ TT := tt_of 69 (by decide +kernel) rfl
theorem in_X2 : Cond.instantiable RX2 5 ∈ TT := tt_of 70 (by decide +kernel) rfl
theorem ln_X3_11 : ∃ host, Cond.methodLinkNest RX3 11 mX2_init.1 host ∈ NW := ⟨"PuddleStairs", nw_of 71 (by decide +kernel) rfl⟩
theorem ln_X2_3 : Cond.methodLink RX2 3 Lib.objectInit ∈ TT := tt_of 74 (by decide +kernel) rfl
theorem fl_X2_9 : jFl RX2 9 RX2 TX2 5 2 0 := ⟨rfl, by decide, wcl_X2, Or.inl (tt_of 75 (by decide +kernel) rfl)⟩
theorem fl_X1_39 : jFl RX1 39 RX2 TX2 5 2 0 := ⟨rfl, by decide, wcl_X2, Or.inr ⟨"PuddleStairs", nw_of 76 (by decide +kernel) rfl⟩⟩
theorem fl_X3_173 : jFl RX3 173 RX2 TX2 5 2 0 := ⟨rfl, by decide, wcl_X2, Or.inr ⟨"PuddleStairs", nw_of 77 (by decide +kernel) rfl⟩⟩
theorem fl_X2_15 : jFl RX2 15 RX2 TX2 5 2 1 := ⟨rfl, by decide, wcl_X2, Or.inl (tt_of 78 (by decide +kernel) rfl)⟩
theorem fl_X3_144 : jFl RX3 144 RX2 TX2 5 2 1 := ⟨rfl, by decide, wcl_X2, Or.inr ⟨"PuddleStairs", nw_of 79 (by decide +kernel) rfl⟩⟩
theorem fl_X0_16 : jFl RX0 16 RX2 TX2 5 2 2 := ⟨rfl, by decide, wcl_X2, Or.inr ⟨"PuddleStairs", nw_of 80 (by decide +kernel) rfl⟩⟩
theorem fl_X2_27 : jFl RX2 27 RX2 TX2 5 2 2 := ⟨rfl, by decide, wcl_X2, Or.inl (tt_of 81 (by decide +kernel) rfl)⟩
theorem fl_X3_148 : jFl RX3 148 RX2 TX2 5 2 2 := ⟨rfl, by decide, wcl_X2, Or.inr ⟨"PuddleStairs", nw_of 82 (by decide +kernel) rfl⟩⟩
theorem fl_X2_31 : jFl RX2 31 RX2 TX2 5 2 3 := ⟨rfl, by decide, wcl_X2, Or.inl (tt_of 83 (by decide +kernel) rfl)⟩
theorem fl_X0_27 : jFl RX0 27 RX2 TX2 5 2 3 := ⟨rfl, by decide, wcl_X2, Or.inr ⟨"PuddleStairs", nw_of 84 (by decide +kernel) rfl⟩⟩
theorem fl_X3_77 : jFl RX3 77 RX2 TX2 5 2 3 := ⟨rfl, by decide, wcl_X2, Or.inr ⟨"PuddleStairs", nw_of 85 (by decide +kernel) rfl⟩⟩
theorem fl_X3_38 : jFl RX3 38 RX2 TX2 5 2 4 := ⟨rfl, by decide, wcl_X2, Or.inr ⟨"PuddleStairs", nw_of 86 (by decide +kernel) rfl⟩⟩
theorem fl_X2_34 : jFl RX2 34 RX2 TX2 5 2 4 := ⟨rfl, by decide, wcl_X2, Or.inl (tt_of 87 (by decide +kernel) rfl)⟩
theorem ac_int : Cond.arrayClass .int ∈ TT := tt_of 99 (by decide +kernel) rfl
theorem cl_X3_19 : Cond.classLink RX3 19 RX1 ∈ TT := tt_of 100 (by decide +kernel) rfl
theorem in_X1 : Cond.instantiable RX1 3 ∈ TT := tt_of 101 (by decide +kernel) rfl
theorem ln_X3_21 : Cond.methodLink RX3 21 mX1_init.1 ∈ TT := tt_of 102 (by decide +kernel) rfl
theorem ln_X1_3 : Cond.methodLink RX1 3 Lib.objectInit ∈ TT := tt_of 105 (by decide +kernel) rfl
theorem ln_X1_9 : Cond.methodLink RX1 9 Lib.Math.max.name ∈ TT := tt_of 106 (by decide +kernel) rfl
theorem cl_X1_15 : Cond.classLink RX1 15 "[[I" ∈ TT := tt_of 109 (by decide +kernel) rfl
theorem fl_X1_17 : jFl RX1 17 RX1 TX1 3 1 0 := ⟨rfl, by decide, wcl_X1, Or.inl (tt_of 111 (by decide +kernel) rfl)⟩
theorem fl_X1_22 : jFl RX1 22 RX1 TX1 3 1 1 := ⟨rfl, by decide, wcl_X1, Or.inl (tt_of 112 (by decide +kernel) rfl)⟩
theorem fl_X1_26 : jFl RX1 26 RX1 TX1 3 1 2 := ⟨rfl, by decide, wcl_X1, Or.inl (tt_of 113 (by decide +kernel) rfl)⟩
theorem fl_X3_89 : jFl RX3 89 RX1 TX1 3 1 2 := ⟨rfl, by decide, wcl_X1, Or.inr ⟨"PuddleStairs", nw_of 114 (by decide +kernel) rfl⟩⟩
theorem cl_X3_31 : Cond.classLink RX3 31 RX0 ∈ TT := tt_of 122 (by decide +kernel) rfl
theorem in_X0 : Cond.instantiable RX0 2 ∈ TT := tt_of 123 (by decide +kernel) rfl
theorem ln_X3_33 : ∃ host, Cond.methodLinkNest RX3 33 mX0_init.1 host ∈ NW := ⟨"PuddleStairs", nw_of 124 (by decide +kernel) rfl⟩
theorem ln_X0_3 : Cond.methodLink RX0 3 Lib.objectInit ∈ TT := tt_of 127 (by decide +kernel) rfl
theorem cl_X0_9 : Cond.classLink RX0 9 "[[I" ∈ TT := tt_of 128 (by decide +kernel) rfl
theorem fl_X0_11 : jFl RX0 11 RX0 TX0 2 0 0 := ⟨rfl, by decide, wcl_X0, Or.inl (tt_of 129 (by decide +kernel) rfl)⟩
theorem fl_X0_22 : jFl RX0 22 RX0 TX0 2 0 1 := ⟨rfl, by decide, wcl_X0, Or.inl (tt_of 130 (by decide +kernel) rfl)⟩
theorem ln_X3_42 : Cond.methodLink RX3 42 mX2_layDry.1 ∈ TT := tt_of 136 (by decide +kernel) rfl
theorem ln_X2_18 : Cond.methodLink RX2 18 Lib.Math.min.name ∈ TT := tt_of 140 (by decide +kernel) rfl
theorem ln_X2_24 : Cond.methodLink RX2 24 Lib.Math.max.name ∈ TT := tt_of 143 (by decide +kernel) rfl
theorem fl_X3_12 : jFl RX3 12 RX3 TX3 7 3 0 := ⟨rfl, by decide, wcl_X3, Or.inl (tt_of 144 (by decide +kernel) rfl)⟩
theorem fl_X3_16 : jFl RX3 16 RX3 TX3 7 3 1 := ⟨rfl, by decide, wcl_X3, Or.inl (tt_of 145 (by decide +kernel) rfl)⟩
theorem fl_X3_24 : jFl RX3 24 RX3 TX3 7 3 2 := ⟨rfl, by decide, wcl_X3, Or.inl (tt_of 146 (by decide +kernel) rfl)⟩
theorem fl_X3_28 : jFl RX3 28 RX3 TX3 7 3 3 := ⟨rfl, by decide, wcl_X3, Or.inl (tt_of 147 (by decide +kernel) rfl)⟩
theorem fl_X3_34 : jFl RX3 34 RX3 TX3 7 3 4 := ⟨rfl, by decide, wcl_X3, Or.inl (tt_of 148 (by decide +kernel) rfl)⟩
theorem fl_X3_112 : jFl RX3 112 RX3 TX3 7 3 5 := ⟨rfl, by decide, wcl_X3, Or.inl (tt_of 149 (by decide +kernel) rfl)⟩
theorem fl_X3_115 : jFl RX3 115 RX3 TX3 7 3 6 := ⟨rfl, by decide, wcl_X3, Or.inl (tt_of 150 (by decide +kernel) rfl)⟩
theorem ln_L_173 : Cond.methodLink RL 173 mX3_flights.1 ∈ TT := tt_of 166 (by decide +kernel) rfl
theorem ln_L_177 : Cond.methodLink RL 177 mX3_steps.1 ∈ TT := tt_of 170 (by decide +kernel) rfl
theorem ln_L_181 : Cond.methodLink RL 181 mX3_hours.1 ∈ TT := tt_of 174 (by decide +kernel) rfl
theorem ln_L_185 : Cond.methodLink RL 185 mX3_sun.1 ∈ TT := tt_of 178 (by decide +kernel) rfl
theorem ln_L_192 : Cond.methodLink RL 192 mX3_marks.1 ∈ TT := tt_of 182 (by decide +kernel) rfl
theorem ln_L_196 : Cond.methodLink RL 196 mX3_deeds.1 ∈ TT := tt_of 186 (by decide +kernel) rfl
theorem ln_L_200 : Cond.methodLink RL 200 mX3_gone.1 ∈ TT := tt_of 190 (by decide +kernel) rfl
theorem ln_L_221 : Cond.methodLink RL 221 mX3_total.1 ∈ TT := tt_of 194 (by decide +kernel) rfl
theorem ln_X3_155 : Cond.methodLink RX3 155 mX2_wholeSum.1 ∈ TT := tt_of 198 (by decide +kernel) rfl
theorem ln_X2_51 : Cond.methodLink RX2 51 mX2_partSum.1 ∈ TT := tt_of 202 (by decide +kernel) rfl
theorem ln_X2_48 : Cond.methodLink RX2 48 mX2_level.1 ∈ TT := tt_of 206 (by decide +kernel) rfl
theorem ln_X2_41 : Cond.methodLink RX2 41 mX2_numberOf.1 ∈ TT := tt_of 210 (by decide +kernel) rfl
theorem ln_L_234 : Cond.methodLink RL 234 mX3_dry.1 ∈ TT := tt_of 214 (by decide +kernel) rfl
theorem ln_X3_170 : Cond.methodLink RX3 170 mX2_upToLevel.1 ∈ TT := tt_of 218 (by decide +kernel) rfl
theorem ln_X2_37 : Cond.methodLink RX2 37 mX2_puddleCount.1 ∈ TT := tt_of 222 (by decide +kernel) rfl
theorem ln_L_244 : Cond.methodLink RL 244 mX3_driestFlight.1 ∈ TT := tt_of 226 (by decide +kernel) rfl
theorem ln_X3_166 : Cond.methodLink RX3 166 mX2_dryInPart.1 ∈ TT := tt_of 230 (by decide +kernel) rfl
theorem ln_L_254 : Cond.methodLink RL 254 mX3_upTo.1 ∈ TT := tt_of 234 (by decide +kernel) rfl
theorem ln_L_261 : Cond.methodLink RL 261 mX3_outOfOrder.1 ∈ TT := tt_of 238 (by decide +kernel) rfl
theorem ln_X3_187 : Cond.methodLink RX3 187 mX0_countIn.1 ∈ TT := tt_of 242 (by decide +kernel) rfl
theorem ln_X0_23 : Cond.methodLink RX0 23 mX0_countOf.1 ∈ TT := tt_of 246 (by decide +kernel) rfl
theorem ln_X0_30 : Cond.methodLink RX0 30 mX2_level.1 ∈ TT := tt_of 249 (by decide +kernel) rfl
theorem ln_X3_190 : Cond.methodLink RX3 190 mX0_outWithSwap.1 ∈ TT := tt_of 250 (by decide +kernel) rfl
theorem ln_X0_34 : Cond.methodLink RX0 34 mX0_swapped.1 ∈ TT := tt_of 254 (by decide +kernel) rfl
theorem ln_L_277 : Cond.methodLink RL 277 mX3_hoursUntilDry.1 ∈ TT := tt_of 257 (by decide +kernel) rfl
theorem ln_X3_193 : Cond.methodLink RX3 193 mX2_copyFrom.1 ∈ TT := tt_of 261 (by decide +kernel) rfl
theorem ln_X3_196 : Cond.methodLink RX3 196 mX2_allDry.1 ∈ TT := tt_of 265 (by decide +kernel) rfl
theorem ln_X2_55 : Cond.methodLink RX2 55 mX2_upToLevel.1 ∈ TT := tt_of 269 (by decide +kernel) rfl
theorem ln_X3_200 : Cond.methodLink RX3 200 mX2_flowOneHour.1 ∈ TT := tt_of 270 (by decide +kernel) rfl
theorem ln_X2_62 : Cond.methodLink RX2 62 mX2_dryUp.1 ∈ TT := tt_of 274 (by decide +kernel) rfl
theorem ln_X2_65 : Cond.methodLink RX2 65 mX2_runDown.1 ∈ TT := tt_of 278 (by decide +kernel) rfl
theorem ln_L_290 : Cond.methodLink RL 290 mX3_meanLevel.1 ∈ TT := tt_of 282 (by decide +kernel) rfl
theorem ln_X3_53 : Cond.methodLink RX3 53 mX2_puddleCount.1 ∈ TT := tt_of 286 (by decide +kernel) rfl
theorem ln_L_295 : Cond.methodLink RL 295 mX3_digest.1 ∈ TT := tt_of 287 (by decide +kernel) rfl
theorem cn_X3_206 : Cond.constantLong RX3 206 2281 ∈ TT := tt_of 291 (by decide +kernel) rfl
theorem ln_X3_208 : Cond.methodLink RX3 208 mX3_flights.1 ∈ TT := tt_of 292 (by decide +kernel) rfl
theorem ln_X3_211 : Cond.methodLink RX3 211 mX3_digested.1 ∈ TT := tt_of 293 (by decide +kernel) rfl
theorem cn_X3_267 : Cond.constantLong RX3 267 31 ∈ TT := tt_of 296 (by decide +kernel) rfl
theorem ln_X3_214 : Cond.methodLink RX3 214 mX3_steps.1 ∈ TT := tt_of 297 (by decide +kernel) rfl
theorem ln_X3_217 : Cond.methodLink RX3 217 mX3_hours.1 ∈ TT := tt_of 298 (by decide +kernel) rfl
theorem ln_X3_220 : Cond.methodLink RX3 220 mX3_sun.1 ∈ TT := tt_of 299 (by decide +kernel) rfl
theorem ln_X3_223 : Cond.methodLink RX3 223 mX3_marks.1 ∈ TT := tt_of 300 (by decide +kernel) rfl
theorem ln_X3_226 : Cond.methodLink RX3 226 mX3_deeds.1 ∈ TT := tt_of 301 (by decide +kernel) rfl
theorem ln_X3_229 : Cond.methodLink RX3 229 mX3_gone.1 ∈ TT := tt_of 302 (by decide +kernel) rfl
theorem ln_X3_232 : Cond.methodLink RX3 232 mX3_total.1 ∈ TT := tt_of 303 (by decide +kernel) rfl
theorem ln_X3_235 : Cond.methodLink RX3 235 mX3_dry.1 ∈ TT := tt_of 304 (by decide +kernel) rfl
theorem ln_X3_238 : Cond.methodLink RX3 238 mX3_driestFlight.1 ∈ TT := tt_of 305 (by decide +kernel) rfl
theorem ln_X3_241 : Cond.methodLink RX3 241 mX3_outOfOrder.1 ∈ TT := tt_of 306 (by decide +kernel) rfl
theorem ln_X3_244 : Cond.methodLink RX3 244 mX3_hoursUntilDry.1 ∈ TT := tt_of 307 (by decide +kernel) rfl
theorem ln_X3_247 : Cond.methodLink RX3 247 mX3_totalIn.1 ∈ TT := tt_of 308 (by decide +kernel) rfl
theorem ln_X3_46 : Cond.methodLink RX3 46 mX3_checkNumber.1 ∈ TT := tt_of 312 (by decide +kernel) rfl
theorem cl_X3_292 : Cond.classLink RX3 292 "java/lang/IllegalArgumentException" ∈ TT := tt_of 315 (by decide +kernel) rfl
theorem ca_IllegalArgumentException : Cond.castable "java/lang/IllegalArgumentException" "java/lang/IllegalArgumentException" ∈ NW := nw_of 317 (by decide +kernel) rfl
theorem ln_X3_108 : Cond.methodLink RX3 108 mX2_flowFor.1 ∈ TT := tt_of 383 (by decide +kernel) rfl
theorem ln_X2_59 : Cond.methodLink RX2 59 mX2_flowOneHour.1 ∈ TT := tt_of 387 (by decide +kernel) rfl
theorem ln_X3_251 : Cond.methodLink RX3 251 mX3_goneIn.1 ∈ TT := tt_of 388 (by decide +kernel) rfl
theorem ln_X3_254 : Cond.methodLink RX3 254 mX3_sunWanted.1 ∈ TT := tt_of 392 (by decide +kernel) rfl
theorem ln_X3_257 : Cond.methodLink RX3 257 mX3_digestedFlights.1 ∈ TT := tt_of 396 (by decide +kernel) rfl
theorem ln_X3_269 : Cond.methodLink RX3 269 mX3_flightSum.1 ∈ TT := tt_of 400 (by decide +kernel) rfl
theorem ln_X3_74 : Cond.methodLink RX3 74 mX3_checkFlight.1 ∈ TT := tt_of 404 (by decide +kernel) rfl
theorem ln_X3_184 : Cond.methodLink RX3 184 mX3_checkIndex.1 ∈ TT := tt_of 408 (by decide +kernel) rfl
theorem cl_X3_176 : Cond.classLink RX3 176 "java/lang/IndexOutOfBoundsException" ∈ TT := tt_of 411 (by decide +kernel) rfl
theorem ca_IndexOutOfBoundsException : Cond.castable "java/lang/IndexOutOfBoundsException" "java/lang/IndexOutOfBoundsException" ∈ NW := nw_of 413 (by decide +kernel) rfl
theorem ln_X3_151 : Cond.methodLink RX3 151 mX2_partSum.1 ∈ TT := tt_of 427 (by decide +kernel) rfl
theorem ln_X3_272 : Cond.methodLink RX3 272 mX3_bestRun.1 ∈ TT := tt_of 428 (by decide +kernel) rfl
theorem cn_X3_161 : Cond.constantLong RX3 161 (-9223372036854775808) ∈ TT := tt_of 432 (by decide +kernel) rfl
theorem ln_X3_163 : Cond.methodLink RX3 163 Lib.MathLoose.max_long.x ∈ TT := tt_of 433 (by decide +kernel) rfl
theorem ln_X3_66 : Cond.methodLink RX3 66 mX2_level.1 ∈ TT := tt_of 436 (by decide +kernel) rfl
theorem ln_X3_275 : Cond.methodLink RX3 275 mX3_longestDry.1 ∈ TT := tt_of 437 (by decide +kernel) rfl
theorem ln_X3_100 : Cond.methodLink RX3 100 Lib.Math.max.name ∈ TT := tt_of 441 (by decide +kernel) rfl
theorem ln_X3_278 : Cond.methodLink RX3 278 mX3_highestAt.1 ∈ TT := tt_of 442 (by decide +kernel) rfl
theorem ln_X3_203 : Cond.methodLink RX3 203 mX0_bestPartner.1 ∈ TT := tt_of 446 (by decide +kernel) rfl
theorem cn_X0_40 : Cond.constant RX0 40 2147483647 ∈ TT := tt_of 450 (by decide +kernel) rfl
theorem ln_X0_41 : Cond.methodLink RX0 41 mX0_outWithSwap.1 ∈ TT := tt_of 451 (by decide +kernel) rfl
theorem ln_X3_261 : Cond.methodLink RX3 261 mX3_digestedSteps.1 ∈ TT := tt_of 452 (by decide +kernel) rfl
theorem ln_X3_281 : Cond.methodLink RX3 281 mX3_edgeOf.1 ∈ TT := tt_of 456 (by decide +kernel) rfl
theorem ln_X3_141 : Cond.methodLink RX3 141 mX3_checkStep.1 ∈ TT := tt_of 460 (by decide +kernel) rfl
theorem ln_X3_284 : Cond.methodLink RX3 284 mX3_stepSum.1 ∈ TT := tt_of 464 (by decide +kernel) rfl
theorem ln_X3_264 : Cond.methodLink RX3 264 mX3_digestedMarks.1 ∈ TT := tt_of 468 (by decide +kernel) rfl
theorem ln_X3_287 : Cond.methodLink RX3 287 mX3_changedSince.1 ∈ TT := tt_of 472 (by decide +kernel) rfl
theorem ln_X3_130 : Cond.methodLink RX3 130 mX3_checkMark.1 ∈ TT := tt_of 476 (by decide +kernel) rfl
theorem ln_X3_92 : Cond.methodLink RX3 92 mX1_row.1 ∈ TT := tt_of 480 (by decide +kernel) rfl
theorem ln_X3_96 : Cond.methodLink RX3 96 mX2_changedFrom.1 ∈ TT := tt_of 484 (by decide +kernel) rfl
theorem ln_L_127 : Cond.methodLink RL 127 mL_lay.1 ∈ TT := tt_of 488 (by decide +kernel) rfl
theorem cl_L_13 : Cond.classLink RL 13 "java/lang/IllegalArgumentException" ∈ TT := tt_of 491 (by decide +kernel) rfl
theorem ln_L_7 : Cond.methodLink RL 7 mX3_lay.1 ∈ TT := tt_of 492 (by decide +kernel) rfl
theorem ln_X3_50 : Cond.methodLink RX3 50 mX1_clearAll.1 ∈ TT := tt_of 496 (by decide +kernel) rfl
theorem ln_L_136 : Cond.methodLink RL 136 mL_rain.1 ∈ TT := tt_of 500 (by decide +kernel) rfl
theorem cl_L_19 : Cond.classLink RL 19 "java/lang/IndexOutOfBoundsException" ∈ TT := tt_of 503 (by decide +kernel) rfl
theorem ln_L_15 : Cond.methodLink RL 15 mX3_rain.1 ∈ TT := tt_of 504 (by decide +kernel) rfl
theorem ln_X3_57 : Cond.methodLink RX3 57 mX3_checkPuddle.1 ∈ TT := tt_of 508 (by decide +kernel) rfl
theorem ln_X3_60 : Cond.methodLink RX3 60 mX3_keepDeed.1 ∈ TT := tt_of 512 (by decide +kernel) rfl
theorem ln_X3_126 : Cond.methodLink RX3 126 mX1_addLatest.1 ∈ TT := tt_of 516 (by decide +kernel) rfl
theorem ln_X1_29 : Cond.methodLink RX1 29 mX1_row.1 ∈ TT := tt_of 520 (by decide +kernel) rfl
theorem ln_X1_33 : Cond.methodLink RX1 33 mX2_puddleCount.1 ∈ TT := tt_of 521 (by decide +kernel) rfl
theorem ln_X3_63 : Cond.methodLink RX3 63 mX2_add.1 ∈ TT := tt_of 522 (by decide +kernel) rfl
theorem ln_L_140 : Cond.methodLink RL 140 mL_splash.1 ∈ TT := tt_of 526 (by decide +kernel) rfl
theorem ln_L_21 : Cond.methodLink RL 21 mX3_splash.1 ∈ TT := tt_of 529 (by decide +kernel) rfl
theorem ln_X3_70 : Cond.methodLink RX3 70 mX3_checkPart.1 ∈ TT := tt_of 533 (by decide +kernel) rfl
theorem ln_L_144 : Cond.methodLink RL 144 mL_swap.1 ∈ TT := tt_of 538 (by decide +kernel) rfl
theorem ln_L_25 : Cond.methodLink RL 25 mX3_swap.1 ∈ TT := tt_of 541 (by decide +kernel) rfl
theorem ln_X3_80 : Cond.methodLink RX3 80 mX2_alikeSteps.1 ∈ TT := tt_of 545 (by decide +kernel) rfl
theorem ln_X3_83 : Cond.methodLink RX3 83 mX2_numberOf.1 ∈ TT := tt_of 549 (by decide +kernel) rfl
theorem ln_X3_86 : Cond.methodLink RX3 86 mX2_exchange.1 ∈ TT := tt_of 550 (by decide +kernel) rfl
theorem ln_L_147 : Cond.methodLink RL 147 mL_turn.1 ∈ TT := tt_of 554 (by decide +kernel) rfl
theorem ln_L_28 : Cond.methodLink RL 28 mX3_turn.1 ∈ TT := tt_of 557 (by decide +kernel) rfl
theorem ln_L_151 : Cond.methodLink RL 151 mL_bail.1 ∈ TT := tt_of 561 (by decide +kernel) rfl
theorem ln_L_32 : Cond.methodLink RL 32 mX3_bail.1 ∈ TT := tt_of 564 (by decide +kernel) rfl
theorem ln_X3_105 : Cond.methodLink RX3 105 Lib.Math.min.name ∈ TT := tt_of 568 (by decide +kernel) rfl
theorem ln_L_154 : Cond.methodLink RL 154 mL_passHours.1 ∈ TT := tt_of 569 (by decide +kernel) rfl
theorem ln_L_35 : Cond.methodLink RL 35 mX3_passHours.1 ∈ TT := tt_of 572 (by decide +kernel) rfl
theorem ln_L_157 : Cond.methodLink RL 157 mL_mark.1 ∈ TT := tt_of 576 (by decide +kernel) rfl
theorem cl_L_42 : Cond.classLink RL 42 "java/lang/IllegalStateException" ∈ TT := tt_of 579 (by decide +kernel) rfl
theorem ln_L_38 : Cond.methodLink RL 38 mX3_mark.1 ∈ TT := tt_of 580 (by decide +kernel) rfl
theorem cl_X3_119 : Cond.classLink RX3 119 "java/lang/IllegalStateException" ∈ TT := tt_of 584 (by decide +kernel) rfl
theorem ca_IllegalStateException : Cond.castable "java/lang/IllegalStateException" "java/lang/IllegalStateException" ∈ NW := nw_of 586 (by decide +kernel) rfl
theorem ln_L_161 : Cond.methodLink RL 161 mL_back.1 ∈ TT := tt_of 600 (by decide +kernel) rfl
theorem ln_L_44 : Cond.methodLink RL 44 mX3_back.1 ∈ TT := tt_of 603 (by decide +kernel) rfl
theorem ln_X3_133 : Cond.methodLink RX3 133 mX2_takeFrom.1 ∈ TT := tt_of 607 (by decide +kernel) rfl
theorem ln_X2_44 : Cond.methodLink RX2 44 mX2_changedFrom.1 ∈ TT := tt_of 611 (by decide +kernel) rfl
theorem ln_L_164 : Cond.methodLink RL 164 mL_undo.1 ∈ TT := tt_of 612 (by decide +kernel) rfl
theorem ln_L_47 : Cond.methodLink RL 47 mX3_undo.1 ∈ TT := tt_of 615 (by decide +kernel) rfl
theorem ln_X3_138 : Cond.methodLink RX3 138 mX1_dropLatest.1 ∈ TT := tt_of 620 (by decide +kernel) rfl
theorem ln_L_167 : Cond.methodLink RL 167 mL_setSun.1 ∈ TT := tt_of 624 (by decide +kernel) rfl
theorem ln_L_50 : Cond.methodLink RL 50 mX3_setSun.1 ∈ TT := tt_of 627 (by decide +kernel) rfl
theorem ln_L_170 : Cond.methodLink RL 170 mL_setEdge.1 ∈ TT := tt_of 631 (by decide +kernel) rfl
theorem ln_L_53 : Cond.methodLink RL 53 mX3_setEdge.1 ∈ TT := tt_of 634 (by decide +kernel) rfl
theorem ln_L_189 : Cond.methodLink RL 189 mL_edgeOf.1 ∈ TT := tt_of 638 (by decide +kernel) rfl
theorem ln_L_56 : Cond.methodLink RL 56 mX3_edgeOf.1 ∈ TT := tt_of 641 (by decide +kernel) rfl
theorem ln_L_205 : Cond.methodLink RL 205 mL_levelAt.1 ∈ TT := tt_of 642 (by decide +kernel) rfl
theorem ln_L_59 : Cond.methodLink RL 59 mX3_levelAt.1 ∈ TT := tt_of 645 (by decide +kernel) rfl
theorem ln_L_208 : Cond.methodLink RL 208 mL_sumOf.1 ∈ TT := tt_of 649 (by decide +kernel) rfl
theorem ln_L_62 : Cond.methodLink RL 62 mX3_sumOf.1 ∈ TT := tt_of 652 (by decide +kernel) rfl
theorem ln_L_212 : Cond.methodLink RL 212 mL_sumTo.1 ∈ TT := tt_of 656 (by decide +kernel) rfl
theorem ln_L_66 : Cond.methodLink RL 66 mX3_sumTo.1 ∈ TT := tt_of 659 (by decide +kernel) rfl
theorem ln_L_215 : Cond.methodLink RL 215 mL_flightSum.1 ∈ TT := tt_of 663 (by decide +kernel) rfl
theorem ln_L_70 : Cond.methodLink RL 70 mX3_flightSum.1 ∈ TT := tt_of 666 (by decide +kernel) rfl
theorem ln_L_218 : Cond.methodLink RL 218 mL_stepSum.1 ∈ TT := tt_of 667 (by decide +kernel) rfl
theorem ln_L_74 : Cond.methodLink RL 74 mX3_stepSum.1 ∈ TT := tt_of 670 (by decide +kernel) rfl
theorem ln_L_225 : Cond.methodLink RL 225 mL_firstReaching.1 ∈ TT := tt_of 671 (by decide +kernel) rfl
theorem ln_L_77 : Cond.methodLink RL 77 mX3_firstReaching.1 ∈ TT := tt_of 674 (by decide +kernel) rfl
theorem ln_L_228 : Cond.methodLink RL 228 mL_bestRun.1 ∈ TT := tt_of 678 (by decide +kernel) rfl
theorem ln_L_80 : Cond.methodLink RL 80 mX3_bestRun.1 ∈ TT := tt_of 681 (by decide +kernel) rfl
theorem ln_L_231 : Cond.methodLink RL 231 mL_dryIn.1 ∈ TT := tt_of 682 (by decide +kernel) rfl
theorem ln_L_83 : Cond.methodLink RL 83 mX3_dryIn.1 ∈ TT := tt_of 685 (by decide +kernel) rfl
theorem ln_L_238 : Cond.methodLink RL 238 mL_dryAt.1 ∈ TT := tt_of 689 (by decide +kernel) rfl
theorem ln_L_87 : Cond.methodLink RL 87 mX3_dryAt.1 ∈ TT := tt_of 692 (by decide +kernel) rfl
theorem ln_L_241 : Cond.methodLink RL 241 mL_longestDry.1 ∈ TT := tt_of 697 (by decide +kernel) rfl
theorem ln_L_90 : Cond.methodLink RL 90 mX3_longestDry.1 ∈ TT := tt_of 700 (by decide +kernel) rfl
theorem ln_L_248 : Cond.methodLink RL 248 mL_lowestIn.1 ∈ TT := tt_of 701 (by decide +kernel) rfl
theorem ln_L_93 : Cond.methodLink RL 93 mX3_lowestIn.1 ∈ TT := tt_of 704 (by decide +kernel) rfl
theorem cn_X3_183 : Cond.constant RX3 183 2147483647 ∈ TT := tt_of 708 (by decide +kernel) rfl
theorem ln_L_251 : Cond.methodLink RL 251 mL_highestAt.1 ∈ TT := tt_of 709 (by decide +kernel) rfl
theorem ln_L_96 : Cond.methodLink RL 96 mX3_highestAt.1 ∈ TT := tt_of 712 (by decide +kernel) rfl
theorem ln_L_258 : Cond.methodLink RL 258 mL_levelInOrder.1 ∈ TT := tt_of 713 (by decide +kernel) rfl
theorem ln_L_99 : Cond.methodLink RL 99 mX3_levelInOrder.1 ∈ TT := tt_of 716 (by decide +kernel) rfl
theorem ln_L_265 : Cond.methodLink RL 265 mL_alike.1 ∈ TT := tt_of 720 (by decide +kernel) rfl
theorem ln_L_102 : Cond.methodLink RL 102 mX3_alike.1 ∈ TT := tt_of 723 (by decide +kernel) rfl
theorem ln_L_268 : Cond.methodLink RL 268 mL_changedSince.1 ∈ TT := tt_of 727 (by decide +kernel) rfl
theorem ln_L_105 : Cond.methodLink RL 105 mX3_changedSince.1 ∈ TT := tt_of 730 (by decide +kernel) rfl
theorem ln_L_271 : Cond.methodLink RL 271 mL_totalIn.1 ∈ TT := tt_of 731 (by decide +kernel) rfl
theorem ln_L_108 : Cond.methodLink RL 108 mX3_totalIn.1 ∈ TT := tt_of 734 (by decide +kernel) rfl
theorem ln_L_274 : Cond.methodLink RL 274 mL_goneIn.1 ∈ TT := tt_of 735 (by decide +kernel) rfl
theorem ln_L_111 : Cond.methodLink RL 111 mX3_goneIn.1 ∈ TT := tt_of 738 (by decide +kernel) rfl
theorem ln_L_281 : Cond.methodLink RL 281 mL_sunWanted.1 ∈ TT := tt_of 739 (by decide +kernel) rfl
theorem ln_L_114 : Cond.methodLink RL 114 mX3_sunWanted.1 ∈ TT := tt_of 742 (by decide +kernel) rfl
theorem ln_L_284 : Cond.methodLink RL 284 mL_bestEdge.1 ∈ TT := tt_of 743 (by decide +kernel) rfl
theorem ln_L_117 : Cond.methodLink RL 117 mX3_bestEdge.1 ∈ TT := tt_of 746 (by decide +kernel) rfl
theorem ln_L_287 : Cond.methodLink RL 287 mL_bestSwap.1 ∈ TT := tt_of 750 (by decide +kernel) rfl
theorem ln_L_120 : Cond.methodLink RL 120 mX3_bestSwap.1 ∈ TT := tt_of 753 (by decide +kernel) rfl
theorem cl_L_124 : Cond.classLink RL 124 RX4 ∈ TT := tt_of 757 (by decide +kernel) rfl
theorem in_X4 : Cond.instantiable RX4 14 ∈ TT := tt_of 758 (by decide +kernel) rfl
theorem ln_L_126 : Cond.methodLink RL 126 mX4_init.1 ∈ TT := tt_of 759 (by decide +kernel) rfl
theorem ln_X4_3 : Cond.methodLink RX4 3 Lib.objectInit ∈ TT := tt_of 762 (by decide +kernel) rfl
theorem ln_X4_35 : Cond.methodLink RX4 35 mX4_anew.1 ∈ TT := tt_of 763 (by decide +kernel) rfl
theorem fl_X4_38 : jFl RX4 38 RX4 TX4 14 4 0 := ⟨rfl, by decide, wcl_X4, Or.inl (tt_of 767 (by decide +kernel) rfl)⟩
theorem fl_X4_9 : jFl RX4 9 RX4 TX4 14 4 1 := ⟨rfl, by decide, wcl_X4, Or.inl (tt_of 768 (by decide +kernel) rfl)⟩
theorem fl_X4_13 : jFl RX4 13 RX4 TX4 14 4 2 := ⟨rfl, by decide, wcl_X4, Or.inl (tt_of 769 (by decide +kernel) rfl)⟩
theorem fl_X4_101 : jFl RX4 101 RX4 TX4 14 4 3 := ⟨rfl, by decide, wcl_X4, Or.inl (tt_of 770 (by decide +kernel) rfl)⟩
theorem fl_X4_16 : jFl RX4 16 RX4 TX4 14 4 4 := ⟨rfl, by decide, wcl_X4, Or.inl (tt_of 771 (by decide +kernel) rfl)⟩
theorem fl_X4_104 : jFl RX4 104 RX4 TX4 14 4 5 := ⟨rfl, by decide, wcl_X4, Or.inl (tt_of 772 (by decide +kernel) rfl)⟩
theorem fl_X4_19 : jFl RX4 19 RX4 TX4 14 4 6 := ⟨rfl, by decide, wcl_X4, Or.inl (tt_of 773 (by decide +kernel) rfl)⟩
theorem fl_X4_23 : jFl RX4 23 RX4 TX4 14 4 7 := ⟨rfl, by decide, wcl_X4, Or.inl (tt_of 774 (by decide +kernel) rfl)⟩
theorem fl_X4_26 : jFl RX4 26 RX4 TX4 14 4 8 := ⟨rfl, by decide, wcl_X4, Or.inl (tt_of 775 (by decide +kernel) rfl)⟩
theorem fl_X4_58 : jFl RX4 58 RX4 TX4 14 4 9 := ⟨rfl, by decide, wcl_X4, Or.inl (tt_of 776 (by decide +kernel) rfl)⟩
theorem fl_X4_55 : jFl RX4 55 RX4 TX4 14 4 10 := ⟨rfl, by decide, wcl_X4, Or.inl (tt_of 777 (by decide +kernel) rfl)⟩
theorem fl_X4_29 : jFl RX4 29 RX4 TX4 14 4 11 := ⟨rfl, by decide, wcl_X4, Or.inl (tt_of 778 (by decide +kernel) rfl)⟩
theorem fl_X4_45 : jFl RX4 45 RX4 TX4 14 4 12 := ⟨rfl, by decide, wcl_X4, Or.inl (tt_of 779 (by decide +kernel) rfl)⟩
theorem fl_X4_32 : jFl RX4 32 RX4 TX4 14 4 13 := ⟨rfl, by decide, wcl_X4, Or.inl (tt_of 780 (by decide +kernel) rfl)⟩
theorem ln_L_133 : Cond.methodLink RL 133 mX4_thrown.1 ∈ TT := tt_of 810 (by decide +kernel) rfl
theorem ln_L_132 : Cond.methodLink RL 132 mX4_lay.1 ∈ TT := tt_of 814 (by decide +kernel) rfl
theorem ln_X4_41 : Cond.methodLink RX4 41 mX4_isIn.1 ∈ TT := tt_of 818 (by decide +kernel) rfl
theorem ln_X4_84 : Cond.methodLink RX4 84 mX4_no.1 ∈ TT := tt_of 821 (by decide +kernel) rfl
theorem ln_X4_67 : Cond.methodLink RX4 67 mX4_all.1 ∈ TT := tt_of 825 (by decide +kernel) rfl
theorem ln_L_139 : Cond.methodLink RL 139 mX4_rain.1 ∈ TT := tt_of 829 (by decide +kernel) rfl
theorem ln_X4_48 : Cond.methodLink RX4 48 mX4_isFlight.1 ∈ TT := tt_of 833 (by decide +kernel) rfl
theorem ln_X4_52 : Cond.methodLink RX4 52 mX4_isStep.1 ∈ TT := tt_of 837 (by decide +kernel) rfl
theorem ln_X4_88 : Cond.methodLink RX4 88 mX4_keep.1 ∈ TT := tt_of 841 (by decide +kernel) rfl
theorem ln_X4_61 : Cond.methodLink RX4 61 arraycopyName ∈ TT := tt_of 845 (by decide +kernel) rfl
theorem ln_L_143 : Cond.methodLink RL 143 mX4_splash.1 ∈ TT := tt_of 848 (by decide +kernel) rfl
theorem ln_X4_91 : Cond.methodLink RX4 91 mX4_part.1 ∈ TT := tt_of 852 (by decide +kernel) rfl
theorem ln_L_146 : Cond.methodLink RL 146 mX4_swap.1 ∈ TT := tt_of 856 (by decide +kernel) rfl
theorem ln_X4_95 : Cond.methodLink RX4 95 mX4_change.1 ∈ TT := tt_of 860 (by decide +kernel) rfl
theorem ln_L_150 : Cond.methodLink RL 150 mX4_turn.1 ∈ TT := tt_of 864 (by decide +kernel) rfl
theorem ln_L_153 : Cond.methodLink RL 153 mX4_bail.1 ∈ TT := tt_of 868 (by decide +kernel) rfl
theorem ln_X4_71 : Cond.methodLink RX4 71 Lib.Math.max.name ∈ TT := tt_of 872 (by decide +kernel) rfl
theorem ln_X4_98 : Cond.methodLink RX4 98 Lib.Math.min.name ∈ TT := tt_of 873 (by decide +kernel) rfl
theorem ln_L_156 : Cond.methodLink RL 156 mX4_passHours.1 ∈ TT := tt_of 874 (by decide +kernel) rfl
theorem ln_X4_80 : Cond.methodLink RX4 80 mX4_hourOn.1 ∈ TT := tt_of 878 (by decide +kernel) rfl
theorem ln_L_160 : Cond.methodLink RL 160 mX4_mark.1 ∈ TT := tt_of 882 (by decide +kernel) rfl
theorem ln_L_163 : Cond.methodLink RL 163 mX4_back.1 ∈ TT := tt_of 886 (by decide +kernel) rfl
theorem ln_X4_108 : Cond.methodLink RX4 108 mX4_isMark.1 ∈ TT := tt_of 890 (by decide +kernel) rfl
theorem ln_X4_111 : Cond.methodLink RX4 111 mX4_bring.1 ∈ TT := tt_of 894 (by decide +kernel) rfl
theorem ln_L_166 : Cond.methodLink RL 166 mX4_undo.1 ∈ TT := tt_of 898 (by decide +kernel) rfl
theorem ln_L_169 : Cond.methodLink RL 169 mX4_setSun.1 ∈ TT := tt_of 902 (by decide +kernel) rfl
theorem ln_L_172 : Cond.methodLink RL 172 mX4_setEdge.1 ∈ TT := tt_of 906 (by decide +kernel) rfl
theorem ln_L_176 : Cond.methodLink RL 176 mX4_flights.1 ∈ TT := tt_of 910 (by decide +kernel) rfl
theorem ln_X4_114 : Cond.methodLink RX4 114 mX4_ok.1 ∈ TT := tt_of 914 (by decide +kernel) rfl
theorem ln_L_180 : Cond.methodLink RL 180 mX4_steps.1 ∈ TT := tt_of 918 (by decide +kernel) rfl
theorem ln_L_184 : Cond.methodLink RL 184 mX4_hours.1 ∈ TT := tt_of 922 (by decide +kernel) rfl
theorem ln_L_188 : Cond.methodLink RL 188 mX4_sun.1 ∈ TT := tt_of 926 (by decide +kernel) rfl
theorem ln_L_191 : Cond.methodLink RL 191 mX4_edgeOf.1 ∈ TT := tt_of 930 (by decide +kernel) rfl
theorem ln_L_195 : Cond.methodLink RL 195 mX4_marks.1 ∈ TT := tt_of 934 (by decide +kernel) rfl
theorem ln_L_199 : Cond.methodLink RL 199 mX4_deeds.1 ∈ TT := tt_of 938 (by decide +kernel) rfl
theorem ln_L_204 : Cond.methodLink RL 204 mX4_gone.1 ∈ TT := tt_of 942 (by decide +kernel) rfl
theorem ln_X4_117 : Cond.methodLink RX4 117 mX4_okay.1 ∈ TT := tt_of 946 (by decide +kernel) rfl
theorem ln_L_207 : Cond.methodLink RL 207 mX4_levelAt.1 ∈ TT := tt_of 950 (by decide +kernel) rfl
theorem ln_X4_121 : Cond.methodLink RX4 121 mX4_at.1 ∈ TT := tt_of 954 (by decide +kernel) rfl
theorem ln_L_211 : Cond.methodLink RL 211 mX4_sumOf.1 ∈ TT := tt_of 958 (by decide +kernel) rfl
theorem ln_X4_124 : Cond.methodLink RX4 124 mX4_added.1 ∈ TT := tt_of 962 (by decide +kernel) rfl
theorem ln_L_214 : Cond.methodLink RL 214 mX4_sumTo.1 ∈ TT := tt_of 966 (by decide +kernel) rfl
theorem ln_L_217 : Cond.methodLink RL 217 mX4_flightSum.1 ∈ TT := tt_of 970 (by decide +kernel) rfl
theorem ln_X4_128 : Cond.methodLink RX4 128 mX4_ofFlight.1 ∈ TT := tt_of 974 (by decide +kernel) rfl
theorem ln_L_220 : Cond.methodLink RL 220 mX4_stepSum.1 ∈ TT := tt_of 978 (by decide +kernel) rfl
theorem ln_X4_132 : Cond.methodLink RX4 132 mX4_ofStep.1 ∈ TT := tt_of 982 (by decide +kernel) rfl
theorem ln_L_224 : Cond.methodLink RL 224 mX4_total.1 ∈ TT := tt_of 986 (by decide +kernel) rfl
theorem ln_X4_135 : Cond.methodLink RX4 135 mX4_sumOfAll.1 ∈ TT := tt_of 990 (by decide +kernel) rfl
theorem ln_L_227 : Cond.methodLink RL 227 mX4_firstReaching.1 ∈ TT := tt_of 994 (by decide +kernel) rfl
theorem ln_X4_139 : Cond.methodLink RX4 139 mX4_reaching.1 ∈ TT := tt_of 998 (by decide +kernel) rfl
theorem ln_L_230 : Cond.methodLink RL 230 mX4_bestRun.1 ∈ TT := tt_of 1002 (by decide +kernel) rfl
theorem ln_X4_145 : Cond.methodLink RX4 145 mX4_run.1 ∈ TT := tt_of 1006 (by decide +kernel) rfl
theorem ln_X4_142 : Cond.methodLink RX4 142 Lib.MathLoose.max_long.x ∈ TT := tt_of 1010 (by decide +kernel) rfl
theorem ln_L_233 : Cond.methodLink RL 233 mX4_dryIn.1 ∈ TT := tt_of 1011 (by decide +kernel) rfl
theorem ln_X4_148 : Cond.methodLink RX4 148 mX4_dryPart.1 ∈ TT := tt_of 1015 (by decide +kernel) rfl
theorem ln_L_237 : Cond.methodLink RL 237 mX4_dry.1 ∈ TT := tt_of 1019 (by decide +kernel) rfl
theorem ln_X4_151 : Cond.methodLink RX4 151 mX4_dryNow.1 ∈ TT := tt_of 1023 (by decide +kernel) rfl
theorem ln_L_240 : Cond.methodLink RL 240 mX4_dryAt.1 ∈ TT := tt_of 1027 (by decide +kernel) rfl
theorem ln_L_243 : Cond.methodLink RL 243 mX4_longestDry.1 ∈ TT := tt_of 1031 (by decide +kernel) rfl
theorem ln_X4_154 : Cond.methodLink RX4 154 mX4_longest.1 ∈ TT := tt_of 1035 (by decide +kernel) rfl
theorem ln_L_247 : Cond.methodLink RL 247 mX4_driestFlight.1 ∈ TT := tt_of 1039 (by decide +kernel) rfl
theorem ln_X4_157 : Cond.methodLink RX4 157 mX4_driest.1 ∈ TT := tt_of 1043 (by decide +kernel) rfl
theorem ln_L_250 : Cond.methodLink RL 250 mX4_lowestIn.1 ∈ TT := tt_of 1047 (by decide +kernel) rfl
theorem ln_L_253 : Cond.methodLink RL 253 mX4_highestAt.1 ∈ TT := tt_of 1051 (by decide +kernel) rfl
theorem ln_X4_160 : Cond.methodLink RX4 160 mX4_highest.1 ∈ TT := tt_of 1055 (by decide +kernel) rfl
theorem ln_L_257 : Cond.methodLink RL 257 mX4_upTo.1 ∈ TT := tt_of 1059 (by decide +kernel) rfl
theorem ln_X4_163 : Cond.methodLink RX4 163 mX4_below.1 ∈ TT := tt_of 1063 (by decide +kernel) rfl
theorem ln_L_260 : Cond.methodLink RL 260 mX4_levelInOrder.1 ∈ TT := tt_of 1067 (by decide +kernel) rfl
theorem ln_L_264 : Cond.methodLink RL 264 mX4_outOfOrder.1 ∈ TT := tt_of 1071 (by decide +kernel) rfl
theorem ln_X4_166 : Cond.methodLink RX4 166 mX4_pairs.1 ∈ TT := tt_of 1075 (by decide +kernel) rfl
theorem ln_L_267 : Cond.methodLink RL 267 mX4_alike.1 ∈ TT := tt_of 1079 (by decide +kernel) rfl
theorem ln_L_270 : Cond.methodLink RL 270 mX4_changedSince.1 ∈ TT := tt_of 1083 (by decide +kernel) rfl
theorem ln_X4_169 : Cond.methodLink RX4 169 mX4_changed.1 ∈ TT := tt_of 1087 (by decide +kernel) rfl
theorem ln_L_273 : Cond.methodLink RL 273 mX4_totalIn.1 ∈ TT := tt_of 1091 (by decide +kernel) rfl
theorem ln_X4_175 : Cond.methodLink RX4 175 mX4_later.1 ∈ TT := tt_of 1095 (by decide +kernel) rfl
theorem ln_X4_172 : Cond.methodLink RX4 172 mX4_goneBehind.1 ∈ TT := tt_of 1099 (by decide +kernel) rfl
theorem ln_X4_77 : Cond.methodLink RX4 77 mX4_look.1 ∈ TT := tt_of 1103 (by decide +kernel) rfl
theorem ln_L_276 : Cond.methodLink RL 276 mX4_goneIn.1 ∈ TT := tt_of 1107 (by decide +kernel) rfl
theorem ln_L_280 : Cond.methodLink RL 280 mX4_hoursUntilDry.1 ∈ TT := tt_of 1111 (by decide +kernel) rfl
theorem ln_X4_182 : Cond.methodLink RX4 182 mX4_untilDry.1 ∈ TT := tt_of 1115 (by decide +kernel) rfl
theorem ln_X4_178 : Cond.methodLink RX4 178 mX4_isDry.1 ∈ TT := tt_of 1119 (by decide +kernel) rfl
theorem ln_L_283 : Cond.methodLink RL 283 mX4_sunWanted.1 ∈ TT := tt_of 1123 (by decide +kernel) rfl
theorem ln_X4_185 : Cond.methodLink RX4 185 mX4_wanted.1 ∈ TT := tt_of 1127 (by decide +kernel) rfl
theorem ln_L_286 : Cond.methodLink RL 286 mX4_bestEdge.1 ∈ TT := tt_of 1131 (by decide +kernel) rfl
theorem ln_L_289 : Cond.methodLink RL 289 mX4_bestSwap.1 ∈ TT := tt_of 1135 (by decide +kernel) rfl
theorem ln_X4_188 : Cond.methodLink RX4 188 mX4_swapFor.1 ∈ TT := tt_of 1139 (by decide +kernel) rfl
theorem ln_L_294 : Cond.methodLink RL 294 mX4_meanLevel.1 ∈ TT := tt_of 1143 (by decide +kernel) rfl
theorem ln_L_298 : Cond.methodLink RL 298 mX4_digest.1 ∈ TT := tt_of 1147 (by decide +kernel) rfl
theorem cn_X4_191 : Cond.constantLong RX4 191 2281 ∈ TT := tt_of 1151 (by decide +kernel) rfl
theorem cn_X4_193 : Cond.constantLong RX4 193 31 ∈ TT := tt_of 1152 (by decide +kernel) rfl
theorem ac_long : Cond.arrayClass .long ∈ TT := tt_of 1153 (by decide +kernel) rfl
theorem js_max : Cond.static Lib.Math.max.name ∈ TT := tt_of 107 (by decide +kernel) rfl
theorem jc_max : Cond.code Lib.Math.max.name Lib.Math.max.code 2 (some .int) ∈ TT := tt_of 108 (by decide +kernel) rfl
theorem js_min : Cond.static Lib.Math.min.name ∈ TT := tt_of 141 (by decide +kernel) rfl
theorem jc_min : Cond.code Lib.Math.min.name Lib.Math.min.code 2 (some .int) ∈ TT := tt_of 142 (by decide +kernel) rfl
theorem js_maxl : Cond.static Lib.MathLoose.max_long.x ∈ TT := tt_of 434 (by decide +kernel) rfl
theorem jc_maxl : Cond.code Lib.MathLoose.max_long.x Lib.MathLoose.max_long.code 4 (some .long) ∈ TT := tt_of 435 (by decide +kernel) rfl
theorem js_copy : Cond.static arraycopyName ∈ TT := tt_of 846 (by decide +kernel) rfl
theorem jn_copy : Cond.native arraycopyName ∈ TT := tt_of 847 (by decide +kernel) rfl
theorem ji_obj : Cond.instanceMethod Lib.objectInit ∈ TT := tt_of 67 (by decide +kernel) rfl
theorem jc_obj : Cond.code Lib.objectInit ⟨#[0xb1]⟩ 1 none ∈ TT := tt_of 68 (by decide +kernel) rfl
theorem th_121 : jTh RX3 119 121 123 "java/lang/IllegalStateException" "there are 12 marks" ["java/lang/RuntimeException", "java/lang/Exception"] := ⟨rfl, by decide +kernel, by decide +kernel, cl_X3_119, iz_java_lang_IllegalStateException, by decide +kernel, by decide +kernel, by decide +kernel, rfl⟩
theorem th_136 : jTh RX3 119 136 123 "java/lang/IllegalStateException" "no deed is kept" ["java/lang/RuntimeException", "java/lang/Exception"] := ⟨rfl, by decide +kernel, by decide +kernel, cl_X3_119, iz_java_lang_IllegalStateException, by decide +kernel, by decide +kernel, by decide +kernel, rfl⟩
theorem th_178 : jTh RX3 176 178 180 "java/lang/IndexOutOfBoundsException" "there are not so many dry puddles" ["java/lang/RuntimeException", "java/lang/Exception"] := ⟨rfl, by decide +kernel, by decide +kernel, cl_X3_176, iz_java_lang_IndexOutOfBoundsException, by decide +kernel, by decide +kernel, by decide +kernel, rfl⟩
theorem th_290 : jTh RX3 176 290 180 "java/lang/IndexOutOfBoundsException" "there is no such number" ["java/lang/RuntimeException", "java/lang/Exception"] := ⟨rfl, by decide +kernel, by decide +kernel, cl_X3_176, iz_java_lang_IndexOutOfBoundsException, by decide +kernel, by decide +kernel, by decide +kernel, rfl⟩
theorem th_294 : jTh RX3 292 294 296 "java/lang/IllegalArgumentException" "the number is too small or too great" ["java/lang/RuntimeException", "java/lang/Exception"] := ⟨rfl, by decide +kernel, by decide +kernel, cl_X3_292, iz_java_lang_IllegalArgumentException, by decide +kernel, by decide +kernel, by decide +kernel, rfl⟩
theorem th_297 : jTh RX3 292 297 296 "java/lang/IllegalArgumentException" "the first one is greater than the last one" ["java/lang/RuntimeException", "java/lang/Exception"] := ⟨rfl, by decide +kernel, by decide +kernel, cl_X3_292, iz_java_lang_IllegalArgumentException, by decide +kernel, by decide +kernel, by decide +kernel, rfl⟩
end
section
theorem dX0_init_0 : decode cX0_init 0 = .ok (.aload_n 0, 1) := by decide +kernel
theorem dX0_init_1 : decode cX0_init 1 = .ok (.invokespecial 3, 3) := by decide +kernel
theorem dX0_init_4 : decode cX0_init 4 = .ok (.aload_n 0, 1) := by decide +kernel
theorem dX0_init_5 : decode cX0_init 5 = .ok (.bipush 8, 2) := by decide +kernel
theorem dX0_init_7 : decode cX0_init 7 = .ok (.bipush 8, 2) := by decide +kernel
theorem dX0_init_9 : decode cX0_init 9 = .ok (.multianewarray 9 2, 4) := by decide +kernel
theorem dX0_init_13 : decode cX0_init 13 = .ok (.putfield 11, 3) := by decide +kernel
theorem dX0_init_16 : decode cX0_init 16 = .ok (.return_, 1) := by decide +kernel
theorem dX0_countIn_0 : decode cX0_countIn 0 = .ok (.aload_n 0, 1) := by decide +kernel
theorem dX0_countIn_1 : decode cX0_countIn 1 = .ok (.aload_n 1, 1) := by decide +kernel
theorem dX0_countIn_2 : decode cX0_countIn 2 = .ok (.getfield 16, 3) := by decide +kernel
theorem dX0_countIn_5 : decode cX0_countIn 5 = .ok (.putfield 22, 3) := by decide +kernel
theorem dX0_countIn_8 : decode cX0_countIn 8 = .ok (.iconst 0, 1) := by decide +kernel
theorem dX0_countIn_9 : decode cX0_countIn 9 = .ok (.istore_n 2, 1) := by decide +kernel
theorem dX0_countIn_10 : decode cX0_countIn 10 = .ok (.iload_n 2, 1) := by decide +kernel
theorem dX0_countIn_11 : decode cX0_countIn 11 = .ok (.aload_n 0, 1) := by decide +kernel
theorem dX0_countIn_12 : decode cX0_countIn 12 = .ok (.getfield 22, 3) := by decide +kernel
theorem dX0_countIn_15 : decode cX0_countIn 15 = .ok (.if_icmp .ge 39, 3) := by decide +kernel
theorem dX0_countIn_18 : decode cX0_countIn 18 = .ok (.iconst 0, 1) := by decide +kernel
theorem dX0_countIn_19 : decode cX0_countIn 19 = .ok (.istore_n 3, 1) := by decide +kernel
theorem dX0_countIn_20 : decode cX0_countIn 20 = .ok (.iload_n 3, 1) := by decide +kernel
theorem dX0_countIn_21 : decode cX0_countIn 21 = .ok (.aload_n 0, 1) := by decide +kernel
theorem dX0_countIn_22 : decode cX0_countIn 22 = .ok (.getfield 22, 3) := by decide +kernel
theorem dX0_countIn_25 : decode cX0_countIn 25 = .ok (.if_icmp .ge 23, 3) := by decide +kernel
theorem dX0_countIn_28 : decode cX0_countIn 28 = .ok (.aload_n 0, 1) := by decide +kernel
theorem dX0_countIn_29 : decode cX0_countIn 29 = .ok (.getfield 11, 3) := by decide +kernel
theorem dX0_countIn_32 : decode cX0_countIn 32 = .ok (.iload_n 2, 1) := by decide +kernel
theorem dX0_countIn_33 : decode cX0_countIn 33 = .ok (.aaload, 1) := by decide +kernel
theorem dX0_countIn_34 : decode cX0_countIn 34 = .ok (.iload_n 3, 1) := by decide +kernel
theorem dX0_countIn_35 : decode cX0_countIn 35 = .ok (.aload_n 1, 1) := by decide +kernel
theorem dX0_countIn_36 : decode cX0_countIn 36 = .ok (.iload_n 2, 1) := by decide +kernel
theorem dX0_countIn_37 : decode cX0_countIn 37 = .ok (.iload_n 3, 1) := by decide +kernel
theorem dX0_countIn_38 : decode cX0_countIn 38 = .ok (.invokestatic 23, 3) := by decide +kernel
theorem dX0_countIn_41 : decode cX0_countIn 41 = .ok (.iastore, 1) := by decide +kernel
theorem dX0_countIn_42 : decode cX0_countIn 42 = .ok (.iinc 3 1, 3) := by decide +kernel
theorem dX0_countIn_45 : decode cX0_countIn 45 = .ok (.goto (-25), 3) := by decide +kernel
theorem dX0_countIn_48 : decode cX0_countIn 48 = .ok (.iinc 2 1, 3) := by decide +kernel
theorem dX0_countIn_51 : decode cX0_countIn 51 = .ok (.goto (-41), 3) := by decide +kernel
theorem dX0_countIn_54 : decode cX0_countIn 54 = .ok (.return_, 1) := by decide +kernel
theorem dX0_countOf_0 : decode cX0_countOf 0 = .ok (.iconst 0, 1) := by decide +kernel
theorem dX0_countOf_1 : decode cX0_countOf 1 = .ok (.istore_n 3, 1) := by decide +kernel
theorem dX0_countOf_2 : decode cX0_countOf 2 = .ok (.iconst 0, 1) := by decide +kernel
theorem dX0_countOf_3 : decode cX0_countOf 3 = .ok (.istore 4, 2) := by decide +kernel
theorem dX0_countOf_5 : decode cX0_countOf 5 = .ok (.iload 4, 2) := by decide +kernel
theorem dX0_countOf_7 : decode cX0_countOf 7 = .ok (.aload_n 0, 1) := by decide +kernel
theorem dX0_countOf_8 : decode cX0_countOf 8 = .ok (.getfield 27, 3) := by decide +kernel
theorem dX0_countOf_11 : decode cX0_countOf 11 = .ok (.if_icmp .ge 63, 3) := by decide +kernel
theorem dX0_countOf_14 : decode cX0_countOf 14 = .ok (.aload_n 0, 1) := by decide +kernel
theorem dX0_countOf_15 : decode cX0_countOf 15 = .ok (.iload_n 1, 1) := by decide +kernel
theorem dX0_countOf_16 : decode cX0_countOf 16 = .ok (.iload 4, 2) := by decide +kernel
theorem dX0_countOf_18 : decode cX0_countOf 18 = .ok (.invokevirtual 30, 3) := by decide +kernel
theorem dX0_countOf_21 : decode cX0_countOf 21 = .ok (.istore 5, 2) := by decide +kernel
theorem dX0_countOf_23 : decode cX0_countOf 23 = .ok (.iload_n 1, 1) := by decide +kernel
theorem dX0_countOf_24 : decode cX0_countOf 24 = .ok (.iload_n 2, 1) := by decide +kernel
theorem dX0_countOf_25 : decode cX0_countOf 25 = .ok (.if_icmp .ne 10, 3) := by decide +kernel
theorem dX0_countOf_28 : decode cX0_countOf 28 = .ok (.iload 4, 2) := by decide +kernel
theorem dX0_countOf_30 : decode cX0_countOf 30 = .ok (.iconst 1, 1) := by decide +kernel
theorem dX0_countOf_31 : decode cX0_countOf 31 = .ok (.iadd, 1) := by decide +kernel
theorem dX0_countOf_32 : decode cX0_countOf 32 = .ok (.goto 4, 3) := by decide +kernel
theorem dX0_countOf_35 : decode cX0_countOf 35 = .ok (.iconst 0, 1) := by decide +kernel
theorem dX0_countOf_36 : decode cX0_countOf 36 = .ok (.istore 6, 2) := by decide +kernel
theorem dX0_countOf_38 : decode cX0_countOf 38 = .ok (.iload 6, 2) := by decide +kernel
theorem dX0_countOf_40 : decode cX0_countOf 40 = .ok (.aload_n 0, 1) := by decide +kernel
theorem dX0_countOf_41 : decode cX0_countOf 41 = .ok (.getfield 27, 3) := by decide +kernel
theorem dX0_countOf_44 : decode cX0_countOf 44 = .ok (.if_icmp .ge 24, 3) := by decide +kernel
theorem dX0_countOf_47 : decode cX0_countOf 47 = .ok (.iload 5, 2) := by decide +kernel
theorem dX0_countOf_49 : decode cX0_countOf 49 = .ok (.aload_n 0, 1) := by decide +kernel
theorem dX0_countOf_50 : decode cX0_countOf 50 = .ok (.iload_n 2, 1) := by decide +kernel
theorem dX0_countOf_51 : decode cX0_countOf 51 = .ok (.iload 6, 2) := by decide +kernel
theorem dX0_countOf_53 : decode cX0_countOf 53 = .ok (.invokevirtual 30, 3) := by decide +kernel
theorem dX0_countOf_56 : decode cX0_countOf 56 = .ok (.if_icmp .le 6, 3) := by decide +kernel
theorem dX0_countOf_59 : decode cX0_countOf 59 = .ok (.iinc 3 1, 3) := by decide +kernel
theorem dX0_countOf_62 : decode cX0_countOf 62 = .ok (.iinc 6 1, 3) := by decide +kernel
theorem dX0_countOf_65 : decode cX0_countOf 65 = .ok (.goto (-27), 3) := by decide +kernel
theorem dX0_countOf_68 : decode cX0_countOf 68 = .ok (.iinc 4 1, 3) := by decide +kernel
theorem dX0_countOf_71 : decode cX0_countOf 71 = .ok (.goto (-66), 3) := by decide +kernel
theorem dX0_countOf_74 : decode cX0_countOf 74 = .ok (.iload_n 3, 1) := by decide +kernel
theorem dX0_countOf_75 : decode cX0_countOf 75 = .ok (.ireturn, 1) := by decide +kernel
theorem dX0_outWithSwap_0 : decode cX0_outWithSwap 0 = .ok (.iconst 0, 1) := by decide +kernel
theorem dX0_outWithSwap_1 : decode cX0_outWithSwap 1 = .ok (.istore_n 3, 1) := by decide +kernel
theorem dX0_outWithSwap_2 : decode cX0_outWithSwap 2 = .ok (.iconst 0, 1) := by decide +kernel
theorem dX0_outWithSwap_3 : decode cX0_outWithSwap 3 = .ok (.istore 4, 2) := by decide +kernel
theorem dX0_outWithSwap_5 : decode cX0_outWithSwap 5 = .ok (.iload 4, 2) := by decide +kernel
theorem dX0_outWithSwap_7 : decode cX0_outWithSwap 7 = .ok (.aload_n 0, 1) := by decide +kernel
theorem dX0_outWithSwap_8 : decode cX0_outWithSwap 8 = .ok (.getfield 22, 3) := by decide +kernel
theorem dX0_outWithSwap_11 : decode cX0_outWithSwap 11 = .ok (.if_icmp .ge 51, 3) := by decide +kernel
theorem dX0_outWithSwap_14 : decode cX0_outWithSwap 14 = .ok (.iload 4, 2) := by decide +kernel
theorem dX0_outWithSwap_16 : decode cX0_outWithSwap 16 = .ok (.istore 5, 2) := by decide +kernel
theorem dX0_outWithSwap_18 : decode cX0_outWithSwap 18 = .ok (.iload 5, 2) := by decide +kernel
theorem dX0_outWithSwap_20 : decode cX0_outWithSwap 20 = .ok (.aload_n 0, 1) := by decide +kernel
theorem dX0_outWithSwap_21 : decode cX0_outWithSwap 21 = .ok (.getfield 22, 3) := by decide +kernel
theorem dX0_outWithSwap_24 : decode cX0_outWithSwap 24 = .ok (.if_icmp .ge 32, 3) := by decide +kernel
theorem dX0_outWithSwap_27 : decode cX0_outWithSwap 27 = .ok (.iload_n 3, 1) := by decide +kernel
theorem dX0_outWithSwap_28 : decode cX0_outWithSwap 28 = .ok (.aload_n 0, 1) := by decide +kernel
theorem dX0_outWithSwap_29 : decode cX0_outWithSwap 29 = .ok (.getfield 11, 3) := by decide +kernel
theorem dX0_outWithSwap_32 : decode cX0_outWithSwap 32 = .ok (.iload 4, 2) := by decide +kernel
theorem dX0_outWithSwap_34 : decode cX0_outWithSwap 34 = .ok (.iload_n 1, 1) := by decide +kernel
theorem dX0_outWithSwap_35 : decode cX0_outWithSwap 35 = .ok (.iload_n 2, 1) := by decide +kernel
theorem dX0_outWithSwap_36 : decode cX0_outWithSwap 36 = .ok (.invokestatic 34, 3) := by decide +kernel
theorem dX0_outWithSwap_39 : decode cX0_outWithSwap 39 = .ok (.aaload, 1) := by decide +kernel
theorem dX0_outWithSwap_40 : decode cX0_outWithSwap 40 = .ok (.iload 5, 2) := by decide +kernel
theorem dX0_outWithSwap_42 : decode cX0_outWithSwap 42 = .ok (.iload_n 1, 1) := by decide +kernel
theorem dX0_outWithSwap_43 : decode cX0_outWithSwap 43 = .ok (.iload_n 2, 1) := by decide +kernel
theorem dX0_outWithSwap_44 : decode cX0_outWithSwap 44 = .ok (.invokestatic 34, 3) := by decide +kernel
theorem dX0_outWithSwap_47 : decode cX0_outWithSwap 47 = .ok (.iaload, 1) := by decide +kernel
theorem dX0_outWithSwap_48 : decode cX0_outWithSwap 48 = .ok (.iadd, 1) := by decide +kernel
theorem dX0_outWithSwap_49 : decode cX0_outWithSwap 49 = .ok (.istore_n 3, 1) := by decide +kernel
theorem dX0_outWithSwap_50 : decode cX0_outWithSwap 50 = .ok (.iinc 5 1, 3) := by decide +kernel
theorem dX0_outWithSwap_53 : decode cX0_outWithSwap 53 = .ok (.goto (-35), 3) := by decide +kernel
theorem dX0_outWithSwap_56 : decode cX0_outWithSwap 56 = .ok (.iinc 4 1, 3) := by decide +kernel
theorem dX0_outWithSwap_59 : decode cX0_outWithSwap 59 = .ok (.goto (-54), 3) := by decide +kernel
theorem dX0_outWithSwap_62 : decode cX0_outWithSwap 62 = .ok (.iload_n 3, 1) := by decide +kernel
theorem dX0_outWithSwap_63 : decode cX0_outWithSwap 63 = .ok (.ireturn, 1) := by decide +kernel
theorem dX0_swapped_0 : decode cX0_swapped 0 = .ok (.iload_n 0, 1) := by decide +kernel
theorem dX0_swapped_1 : decode cX0_swapped 1 = .ok (.iload_n 1, 1) := by decide +kernel
theorem dX0_swapped_2 : decode cX0_swapped 2 = .ok (.if_icmp .ne 5, 3) := by decide +kernel
theorem dX0_swapped_5 : decode cX0_swapped 5 = .ok (.iload_n 2, 1) := by decide +kernel
theorem dX0_swapped_6 : decode cX0_swapped 6 = .ok (.ireturn, 1) := by decide +kernel
theorem dX0_swapped_7 : decode cX0_swapped 7 = .ok (.iload_n 0, 1) := by decide +kernel
theorem dX0_swapped_8 : decode cX0_swapped 8 = .ok (.iload_n 2, 1) := by decide +kernel
theorem dX0_swapped_9 : decode cX0_swapped 9 = .ok (.if_icmp .ne 7, 3) := by decide +kernel
theorem dX0_swapped_12 : decode cX0_swapped 12 = .ok (.iload_n 1, 1) := by decide +kernel
theorem dX0_swapped_13 : decode cX0_swapped 13 = .ok (.goto 4, 3) := by decide +kernel
theorem dX0_swapped_16 : decode cX0_swapped 16 = .ok (.iload_n 0, 1) := by decide +kernel
theorem dX0_swapped_17 : decode cX0_swapped 17 = .ok (.ireturn, 1) := by decide +kernel
theorem dX0_bestPartner_0 : decode cX0_bestPartner 0 = .ok (.iconst 0, 1) := by decide +kernel
theorem dX0_bestPartner_1 : decode cX0_bestPartner 1 = .ok (.istore_n 2, 1) := by decide +kernel
theorem dX0_bestPartner_2 : decode cX0_bestPartner 2 = .ok (.ldc 40, 2) := by decide +kernel
theorem dX0_bestPartner_4 : decode cX0_bestPartner 4 = .ok (.istore_n 3, 1) := by decide +kernel
theorem dX0_bestPartner_5 : decode cX0_bestPartner 5 = .ok (.iconst 0, 1) := by decide +kernel
theorem dX0_bestPartner_6 : decode cX0_bestPartner 6 = .ok (.istore 4, 2) := by decide +kernel
theorem dX0_bestPartner_8 : decode cX0_bestPartner 8 = .ok (.iload 4, 2) := by decide +kernel
theorem dX0_bestPartner_10 : decode cX0_bestPartner 10 = .ok (.aload_n 0, 1) := by decide +kernel
theorem dX0_bestPartner_11 : decode cX0_bestPartner 11 = .ok (.getfield 22, 3) := by decide +kernel
theorem dX0_bestPartner_14 : decode cX0_bestPartner 14 = .ok (.if_icmp .ge 30, 3) := by decide +kernel
theorem dX0_bestPartner_17 : decode cX0_bestPartner 17 = .ok (.aload_n 0, 1) := by decide +kernel
theorem dX0_bestPartner_18 : decode cX0_bestPartner 18 = .ok (.iload_n 1, 1) := by decide +kernel
theorem dX0_bestPartner_19 : decode cX0_bestPartner 19 = .ok (.iload 4, 2) := by decide +kernel
theorem dX0_bestPartner_21 : decode cX0_bestPartner 21 = .ok (.invokevirtual 41, 3) := by decide +kernel
theorem dX0_bestPartner_24 : decode cX0_bestPartner 24 = .ok (.istore 5, 2) := by decide +kernel
theorem dX0_bestPartner_26 : decode cX0_bestPartner 26 = .ok (.iload 5, 2) := by decide +kernel
theorem dX0_bestPartner_28 : decode cX0_bestPartner 28 = .ok (.iload_n 3, 1) := by decide +kernel
theorem dX0_bestPartner_29 : decode cX0_bestPartner 29 = .ok (.if_icmp .ge 9, 3) := by decide +kernel
theorem dX0_bestPartner_32 : decode cX0_bestPartner 32 = .ok (.iload 5, 2) := by decide +kernel
theorem dX0_bestPartner_34 : decode cX0_bestPartner 34 = .ok (.istore_n 3, 1) := by decide +kernel
theorem dX0_bestPartner_35 : decode cX0_bestPartner 35 = .ok (.iload 4, 2) := by decide +kernel
theorem dX0_bestPartner_37 : decode cX0_bestPartner 37 = .ok (.istore_n 2, 1) := by decide +kernel
theorem dX0_bestPartner_38 : decode cX0_bestPartner 38 = .ok (.iinc 4 1, 3) := by decide +kernel
theorem dX0_bestPartner_41 : decode cX0_bestPartner 41 = .ok (.goto (-33), 3) := by decide +kernel
theorem dX0_bestPartner_44 : decode cX0_bestPartner 44 = .ok (.iload_n 2, 1) := by decide +kernel
theorem dX0_bestPartner_45 : decode cX0_bestPartner 45 = .ok (.ireturn, 1) := by decide +kernel
theorem dX1_init_0 : decode cX1_init 0 = .ok (.aload_n 0, 1) := by decide +kernel
theorem dX1_init_1 : decode cX1_init 1 = .ok (.invokespecial 3, 3) := by decide +kernel
theorem dX1_init_4 : decode cX1_init 4 = .ok (.aload_n 0, 1) := by decide +kernel
theorem dX1_init_5 : decode cX1_init 5 = .ok (.iconst 1, 1) := by decide +kernel
theorem dX1_init_6 : decode cX1_init 6 = .ok (.iload_n 1, 1) := by decide +kernel
theorem dX1_init_7 : decode cX1_init 7 = .ok (.invokestatic 9, 3) := by decide +kernel
theorem dX1_init_10 : decode cX1_init 10 = .ok (.sipush 128, 3) := by decide +kernel
theorem dX1_init_13 : decode cX1_init 13 = .ok (.multianewarray 15 2, 4) := by decide +kernel
theorem dX1_init_17 : decode cX1_init 17 = .ok (.putfield 17, 3) := by decide +kernel
theorem dX1_init_20 : decode cX1_init 20 = .ok (.return_, 1) := by decide +kernel
theorem dX1_clearAll_0 : decode cX1_clearAll 0 = .ok (.aload_n 0, 1) := by decide +kernel
theorem dX1_clearAll_1 : decode cX1_clearAll 1 = .ok (.iconst 0, 1) := by decide +kernel
theorem dX1_clearAll_2 : decode cX1_clearAll 2 = .ok (.putfield 22, 3) := by decide +kernel
theorem dX1_clearAll_5 : decode cX1_clearAll 5 = .ok (.aload_n 0, 1) := by decide +kernel
theorem dX1_clearAll_6 : decode cX1_clearAll 6 = .ok (.iconst 0, 1) := by decide +kernel
theorem dX1_clearAll_7 : decode cX1_clearAll 7 = .ok (.putfield 26, 3) := by decide +kernel
theorem dX1_clearAll_10 : decode cX1_clearAll 10 = .ok (.return_, 1) := by decide +kernel
theorem dX1_row_0 : decode cX1_row 0 = .ok (.aload_n 0, 1) := by decide +kernel
theorem dX1_row_1 : decode cX1_row 1 = .ok (.getfield 22, 3) := by decide +kernel
theorem dX1_row_4 : decode cX1_row 4 = .ok (.iload_n 1, 1) := by decide +kernel
theorem dX1_row_5 : decode cX1_row 5 = .ok (.iadd, 1) := by decide +kernel
theorem dX1_row_6 : decode cX1_row 6 = .ok (.istore_n 2, 1) := by decide +kernel
theorem dX1_row_7 : decode cX1_row 7 = .ok (.aload_n 0, 1) := by decide +kernel
theorem dX1_row_8 : decode cX1_row 8 = .ok (.getfield 17, 3) := by decide +kernel
theorem dX1_row_11 : decode cX1_row 11 = .ok (.iload_n 2, 1) := by decide +kernel
theorem dX1_row_12 : decode cX1_row 12 = .ok (.aload_n 0, 1) := by decide +kernel
theorem dX1_row_13 : decode cX1_row 13 = .ok (.getfield 17, 3) := by decide +kernel
theorem dX1_row_16 : decode cX1_row 16 = .ok (.arraylength, 1) := by decide +kernel
theorem dX1_row_17 : decode cX1_row 17 = .ok (.if_icmp .ge 7, 3) := by decide +kernel
theorem dX1_row_20 : decode cX1_row 20 = .ok (.iload_n 2, 1) := by decide +kernel
theorem dX1_row_21 : decode cX1_row 21 = .ok (.goto 10, 3) := by decide +kernel
theorem dX1_row_24 : decode cX1_row 24 = .ok (.iload_n 2, 1) := by decide +kernel
theorem dX1_row_25 : decode cX1_row 25 = .ok (.aload_n 0, 1) := by decide +kernel
theorem dX1_row_26 : decode cX1_row 26 = .ok (.getfield 17, 3) := by decide +kernel
theorem dX1_row_29 : decode cX1_row 29 = .ok (.arraylength, 1) := by decide +kernel
theorem dX1_row_30 : decode cX1_row 30 = .ok (.isub, 1) := by decide +kernel
theorem dX1_row_31 : decode cX1_row 31 = .ok (.aaload, 1) := by decide +kernel
theorem dX1_row_32 : decode cX1_row 32 = .ok (.areturn, 1) := by decide +kernel
theorem dX1_addLatest_0 : decode cX1_addLatest 0 = .ok (.aload_n 0, 1) := by decide +kernel
theorem dX1_addLatest_1 : decode cX1_addLatest 1 = .ok (.getfield 26, 3) := by decide +kernel
theorem dX1_addLatest_4 : decode cX1_addLatest 4 = .ok (.aload_n 0, 1) := by decide +kernel
theorem dX1_addLatest_5 : decode cX1_addLatest 5 = .ok (.getfield 17, 3) := by decide +kernel
theorem dX1_addLatest_8 : decode cX1_addLatest 8 = .ok (.arraylength, 1) := by decide +kernel
theorem dX1_addLatest_9 : decode cX1_addLatest 9 = .ok (.if_icmp .ge 16, 3) := by decide +kernel
theorem dX1_addLatest_12 : decode cX1_addLatest 12 = .ok (.aload_n 0, 1) := by decide +kernel
theorem dX1_addLatest_13 : decode cX1_addLatest 13 = .ok (.dup, 1) := by decide +kernel
theorem dX1_addLatest_14 : decode cX1_addLatest 14 = .ok (.getfield 26, 3) := by decide +kernel
theorem dX1_addLatest_17 : decode cX1_addLatest 17 = .ok (.iconst 1, 1) := by decide +kernel
theorem dX1_addLatest_18 : decode cX1_addLatest 18 = .ok (.iadd, 1) := by decide +kernel
theorem dX1_addLatest_19 : decode cX1_addLatest 19 = .ok (.putfield 26, 3) := by decide +kernel
theorem dX1_addLatest_22 : decode cX1_addLatest 22 = .ok (.goto 31, 3) := by decide +kernel
theorem dX1_addLatest_25 : decode cX1_addLatest 25 = .ok (.aload_n 0, 1) := by decide +kernel
theorem dX1_addLatest_26 : decode cX1_addLatest 26 = .ok (.aload_n 0, 1) := by decide +kernel
theorem dX1_addLatest_27 : decode cX1_addLatest 27 = .ok (.getfield 22, 3) := by decide +kernel
theorem dX1_addLatest_30 : decode cX1_addLatest 30 = .ok (.iconst 1, 1) := by decide +kernel
theorem dX1_addLatest_31 : decode cX1_addLatest 31 = .ok (.iadd, 1) := by decide +kernel
theorem dX1_addLatest_32 : decode cX1_addLatest 32 = .ok (.aload_n 0, 1) := by decide +kernel
theorem dX1_addLatest_33 : decode cX1_addLatest 33 = .ok (.getfield 17, 3) := by decide +kernel
theorem dX1_addLatest_36 : decode cX1_addLatest 36 = .ok (.arraylength, 1) := by decide +kernel
theorem dX1_addLatest_37 : decode cX1_addLatest 37 = .ok (.if_icmp .ge 12, 3) := by decide +kernel
theorem dX1_addLatest_40 : decode cX1_addLatest 40 = .ok (.aload_n 0, 1) := by decide +kernel
theorem dX1_addLatest_41 : decode cX1_addLatest 41 = .ok (.getfield 22, 3) := by decide +kernel
theorem dX1_addLatest_44 : decode cX1_addLatest 44 = .ok (.iconst 1, 1) := by decide +kernel
theorem dX1_addLatest_45 : decode cX1_addLatest 45 = .ok (.iadd, 1) := by decide +kernel
theorem dX1_addLatest_46 : decode cX1_addLatest 46 = .ok (.goto 4, 3) := by decide +kernel
theorem dX1_addLatest_49 : decode cX1_addLatest 49 = .ok (.iconst 0, 1) := by decide +kernel
theorem dX1_addLatest_50 : decode cX1_addLatest 50 = .ok (.putfield 22, 3) := by decide +kernel
theorem dX1_addLatest_53 : decode cX1_addLatest 53 = .ok (.aload_n 0, 1) := by decide +kernel
theorem dX1_addLatest_54 : decode cX1_addLatest 54 = .ok (.aload_n 0, 1) := by decide +kernel
theorem dX1_addLatest_55 : decode cX1_addLatest 55 = .ok (.getfield 26, 3) := by decide +kernel
theorem dX1_addLatest_58 : decode cX1_addLatest 58 = .ok (.iconst 1, 1) := by decide +kernel
theorem dX1_addLatest_59 : decode cX1_addLatest 59 = .ok (.isub, 1) := by decide +kernel
theorem dX1_addLatest_60 : decode cX1_addLatest 60 = .ok (.invokevirtual 29, 3) := by decide +kernel
theorem dX1_addLatest_63 : decode cX1_addLatest 63 = .ok (.astore_n 2, 1) := by decide +kernel
theorem dX1_addLatest_64 : decode cX1_addLatest 64 = .ok (.iconst 0, 1) := by decide +kernel
theorem dX1_addLatest_65 : decode cX1_addLatest 65 = .ok (.istore_n 3, 1) := by decide +kernel
theorem dX1_addLatest_66 : decode cX1_addLatest 66 = .ok (.iload_n 3, 1) := by decide +kernel
theorem dX1_addLatest_67 : decode cX1_addLatest 67 = .ok (.aload_n 1, 1) := by decide +kernel
theorem dX1_addLatest_68 : decode cX1_addLatest 68 = .ok (.invokevirtual 33, 3) := by decide +kernel
theorem dX1_addLatest_71 : decode cX1_addLatest 71 = .ok (.if_icmp .ge 18, 3) := by decide +kernel
theorem dX1_addLatest_74 : decode cX1_addLatest 74 = .ok (.aload_n 2, 1) := by decide +kernel
theorem dX1_addLatest_75 : decode cX1_addLatest 75 = .ok (.iload_n 3, 1) := by decide +kernel
theorem dX1_addLatest_76 : decode cX1_addLatest 76 = .ok (.aload_n 1, 1) := by decide +kernel
theorem dX1_addLatest_77 : decode cX1_addLatest 77 = .ok (.getfield 39, 3) := by decide +kernel
theorem dX1_addLatest_80 : decode cX1_addLatest 80 = .ok (.iload_n 3, 1) := by decide +kernel
theorem dX1_addLatest_81 : decode cX1_addLatest 81 = .ok (.iaload, 1) := by decide +kernel
theorem dX1_addLatest_82 : decode cX1_addLatest 82 = .ok (.iastore, 1) := by decide +kernel
theorem dX1_addLatest_83 : decode cX1_addLatest 83 = .ok (.iinc 3 1, 3) := by decide +kernel
theorem dX1_addLatest_86 : decode cX1_addLatest 86 = .ok (.goto (-20), 3) := by decide +kernel
theorem dX1_addLatest_89 : decode cX1_addLatest 89 = .ok (.return_, 1) := by decide +kernel
theorem dX1_dropLatest_0 : decode cX1_dropLatest 0 = .ok (.aload_n 0, 1) := by decide +kernel
theorem dX1_dropLatest_1 : decode cX1_dropLatest 1 = .ok (.dup, 1) := by decide +kernel
theorem dX1_dropLatest_2 : decode cX1_dropLatest 2 = .ok (.getfield 26, 3) := by decide +kernel
theorem dX1_dropLatest_5 : decode cX1_dropLatest 5 = .ok (.iconst 1, 1) := by decide +kernel
theorem dX1_dropLatest_6 : decode cX1_dropLatest 6 = .ok (.isub, 1) := by decide +kernel
theorem dX1_dropLatest_7 : decode cX1_dropLatest 7 = .ok (.putfield 26, 3) := by decide +kernel
theorem dX1_dropLatest_10 : decode cX1_dropLatest 10 = .ok (.return_, 1) := by decide +kernel
theorem dX2_init_0 : decode cX2_init 0 = .ok (.aload_n 0, 1) := by decide +kernel
theorem dX2_init_1 : decode cX2_init 1 = .ok (.invokespecial 3, 3) := by decide +kernel
theorem dX2_init_4 : decode cX2_init 4 = .ok (.aload_n 0, 1) := by decide +kernel
theorem dX2_init_5 : decode cX2_init 5 = .ok (.sipush 128, 3) := by decide +kernel
theorem dX2_init_8 : decode cX2_init 8 = .ok (.newarray .int, 2) := by decide +kernel
theorem dX2_init_10 : decode cX2_init 10 = .ok (.putfield 9, 3) := by decide +kernel
theorem dX2_init_13 : decode cX2_init 13 = .ok (.aload_n 0, 1) := by decide +kernel
theorem dX2_init_14 : decode cX2_init 14 = .ok (.bipush 16, 2) := by decide +kernel
theorem dX2_init_16 : decode cX2_init 16 = .ok (.newarray .int, 2) := by decide +kernel
theorem dX2_init_18 : decode cX2_init 18 = .ok (.putfield 15, 3) := by decide +kernel
theorem dX2_init_21 : decode cX2_init 21 = .ok (.return_, 1) := by decide +kernel
theorem dX2_layDry_0 : decode cX2_layDry 0 = .ok (.aload_n 0, 1) := by decide +kernel
theorem dX2_layDry_1 : decode cX2_layDry 1 = .ok (.iconst 1, 1) := by decide +kernel
theorem dX2_layDry_2 : decode cX2_layDry 2 = .ok (.iload_n 1, 1) := by decide +kernel
theorem dX2_layDry_3 : decode cX2_layDry 3 = .ok (.bipush 8, 2) := by decide +kernel
theorem dX2_layDry_5 : decode cX2_layDry 5 = .ok (.invokestatic 18, 3) := by decide +kernel
theorem dX2_layDry_8 : decode cX2_layDry 8 = .ok (.invokestatic 24, 3) := by decide +kernel
theorem dX2_layDry_11 : decode cX2_layDry 11 = .ok (.putfield 27, 3) := by decide +kernel
theorem dX2_layDry_14 : decode cX2_layDry 14 = .ok (.aload_n 0, 1) := by decide +kernel
theorem dX2_layDry_15 : decode cX2_layDry 15 = .ok (.iconst 1, 1) := by decide +kernel
theorem dX2_layDry_16 : decode cX2_layDry 16 = .ok (.iload_n 2, 1) := by decide +kernel
theorem dX2_layDry_17 : decode cX2_layDry 17 = .ok (.bipush 16, 2) := by decide +kernel
theorem dX2_layDry_19 : decode cX2_layDry 19 = .ok (.invokestatic 18, 3) := by decide +kernel
theorem dX2_layDry_22 : decode cX2_layDry 22 = .ok (.invokestatic 24, 3) := by decide +kernel
theorem dX2_layDry_25 : decode cX2_layDry 25 = .ok (.putfield 31, 3) := by decide +kernel
theorem dX2_layDry_28 : decode cX2_layDry 28 = .ok (.iconst 0, 1) := by decide +kernel
theorem dX2_layDry_29 : decode cX2_layDry 29 = .ok (.istore_n 3, 1) := by decide +kernel
theorem dX2_layDry_30 : decode cX2_layDry 30 = .ok (.iload_n 3, 1) := by decide +kernel
theorem dX2_layDry_31 : decode cX2_layDry 31 = .ok (.aload_n 0, 1) := by decide +kernel
theorem dX2_layDry_32 : decode cX2_layDry 32 = .ok (.getfield 9, 3) := by decide +kernel
theorem dX2_layDry_35 : decode cX2_layDry 35 = .ok (.arraylength, 1) := by decide +kernel
theorem dX2_layDry_36 : decode cX2_layDry 36 = .ok (.if_icmp .ge 16, 3) := by decide +kernel
theorem dX2_layDry_39 : decode cX2_layDry 39 = .ok (.aload_n 0, 1) := by decide +kernel
theorem dX2_layDry_40 : decode cX2_layDry 40 = .ok (.getfield 9, 3) := by decide +kernel
theorem dX2_layDry_43 : decode cX2_layDry 43 = .ok (.iload_n 3, 1) := by decide +kernel
theorem dX2_layDry_44 : decode cX2_layDry 44 = .ok (.iconst 0, 1) := by decide +kernel
theorem dX2_layDry_45 : decode cX2_layDry 45 = .ok (.iastore, 1) := by decide +kernel
theorem dX2_layDry_46 : decode cX2_layDry 46 = .ok (.iinc 3 1, 3) := by decide +kernel
theorem dX2_layDry_49 : decode cX2_layDry 49 = .ok (.goto (-19), 3) := by decide +kernel
theorem dX2_layDry_52 : decode cX2_layDry 52 = .ok (.iconst 0, 1) := by decide +kernel
theorem dX2_layDry_53 : decode cX2_layDry 53 = .ok (.istore_n 3, 1) := by decide +kernel
theorem dX2_layDry_54 : decode cX2_layDry 54 = .ok (.iload_n 3, 1) := by decide +kernel
theorem dX2_layDry_55 : decode cX2_layDry 55 = .ok (.aload_n 0, 1) := by decide +kernel
theorem dX2_layDry_56 : decode cX2_layDry 56 = .ok (.getfield 15, 3) := by decide +kernel
theorem dX2_layDry_59 : decode cX2_layDry 59 = .ok (.arraylength, 1) := by decide +kernel
theorem dX2_layDry_60 : decode cX2_layDry 60 = .ok (.if_icmp .ge 17, 3) := by decide +kernel
theorem dX2_layDry_63 : decode cX2_layDry 63 = .ok (.aload_n 0, 1) := by decide +kernel
theorem dX2_layDry_64 : decode cX2_layDry 64 = .ok (.getfield 15, 3) := by decide +kernel
theorem dX2_layDry_67 : decode cX2_layDry 67 = .ok (.iload_n 3, 1) := by decide +kernel
theorem dX2_layDry_68 : decode cX2_layDry 68 = .ok (.bipush 50, 2) := by decide +kernel
theorem dX2_layDry_70 : decode cX2_layDry 70 = .ok (.iastore, 1) := by decide +kernel
theorem dX2_layDry_71 : decode cX2_layDry 71 = .ok (.iinc 3 1, 3) := by decide +kernel
theorem dX2_layDry_74 : decode cX2_layDry 74 = .ok (.goto (-20), 3) := by decide +kernel
theorem dX2_layDry_77 : decode cX2_layDry 77 = .ok (.return_, 1) := by decide +kernel
theorem dX2_copyFrom_0 : decode cX2_copyFrom 0 = .ok (.aload_n 0, 1) := by decide +kernel
theorem dX2_copyFrom_1 : decode cX2_copyFrom 1 = .ok (.aload_n 1, 1) := by decide +kernel
theorem dX2_copyFrom_2 : decode cX2_copyFrom 2 = .ok (.getfield 27, 3) := by decide +kernel
theorem dX2_copyFrom_5 : decode cX2_copyFrom 5 = .ok (.putfield 27, 3) := by decide +kernel
theorem dX2_copyFrom_8 : decode cX2_copyFrom 8 = .ok (.aload_n 0, 1) := by decide +kernel
theorem dX2_copyFrom_9 : decode cX2_copyFrom 9 = .ok (.aload_n 1, 1) := by decide +kernel
theorem dX2_copyFrom_10 : decode cX2_copyFrom 10 = .ok (.getfield 31, 3) := by decide +kernel
theorem dX2_copyFrom_13 : decode cX2_copyFrom 13 = .ok (.putfield 31, 3) := by decide +kernel
theorem dX2_copyFrom_16 : decode cX2_copyFrom 16 = .ok (.aload_n 0, 1) := by decide +kernel
theorem dX2_copyFrom_17 : decode cX2_copyFrom 17 = .ok (.aload_n 1, 1) := by decide +kernel
theorem dX2_copyFrom_18 : decode cX2_copyFrom 18 = .ok (.getfield 34, 3) := by decide +kernel
theorem dX2_copyFrom_21 : decode cX2_copyFrom 21 = .ok (.putfield 34, 3) := by decide +kernel
theorem dX2_copyFrom_24 : decode cX2_copyFrom 24 = .ok (.iconst 0, 1) := by decide +kernel
theorem dX2_copyFrom_25 : decode cX2_copyFrom 25 = .ok (.istore_n 2, 1) := by decide +kernel
theorem dX2_copyFrom_26 : decode cX2_copyFrom 26 = .ok (.iload_n 2, 1) := by decide +kernel
theorem dX2_copyFrom_27 : decode cX2_copyFrom 27 = .ok (.aload_n 0, 1) := by decide +kernel
theorem dX2_copyFrom_28 : decode cX2_copyFrom 28 = .ok (.invokevirtual 37, 3) := by decide +kernel
theorem dX2_copyFrom_31 : decode cX2_copyFrom 31 = .ok (.if_icmp .ge 21, 3) := by decide +kernel
theorem dX2_copyFrom_34 : decode cX2_copyFrom 34 = .ok (.aload_n 0, 1) := by decide +kernel
theorem dX2_copyFrom_35 : decode cX2_copyFrom 35 = .ok (.getfield 9, 3) := by decide +kernel
theorem dX2_copyFrom_38 : decode cX2_copyFrom 38 = .ok (.iload_n 2, 1) := by decide +kernel
theorem dX2_copyFrom_39 : decode cX2_copyFrom 39 = .ok (.aload_n 1, 1) := by decide +kernel
theorem dX2_copyFrom_40 : decode cX2_copyFrom 40 = .ok (.getfield 9, 3) := by decide +kernel
theorem dX2_copyFrom_43 : decode cX2_copyFrom 43 = .ok (.iload_n 2, 1) := by decide +kernel
theorem dX2_copyFrom_44 : decode cX2_copyFrom 44 = .ok (.iaload, 1) := by decide +kernel
theorem dX2_copyFrom_45 : decode cX2_copyFrom 45 = .ok (.iastore, 1) := by decide +kernel
theorem dX2_copyFrom_46 : decode cX2_copyFrom 46 = .ok (.iinc 2 1, 3) := by decide +kernel
theorem dX2_copyFrom_49 : decode cX2_copyFrom 49 = .ok (.goto (-23), 3) := by decide +kernel
theorem dX2_copyFrom_52 : decode cX2_copyFrom 52 = .ok (.iconst 0, 1) := by decide +kernel
theorem dX2_copyFrom_53 : decode cX2_copyFrom 53 = .ok (.istore_n 2, 1) := by decide +kernel
theorem dX2_copyFrom_54 : decode cX2_copyFrom 54 = .ok (.iload_n 2, 1) := by decide +kernel
theorem dX2_copyFrom_55 : decode cX2_copyFrom 55 = .ok (.aload_n 0, 1) := by decide +kernel
theorem dX2_copyFrom_56 : decode cX2_copyFrom 56 = .ok (.getfield 31, 3) := by decide +kernel
theorem dX2_copyFrom_59 : decode cX2_copyFrom 59 = .ok (.if_icmp .ge 21, 3) := by decide +kernel
theorem dX2_copyFrom_62 : decode cX2_copyFrom 62 = .ok (.aload_n 0, 1) := by decide +kernel
theorem dX2_copyFrom_63 : decode cX2_copyFrom 63 = .ok (.getfield 15, 3) := by decide +kernel
theorem dX2_copyFrom_66 : decode cX2_copyFrom 66 = .ok (.iload_n 2, 1) := by decide +kernel
theorem dX2_copyFrom_67 : decode cX2_copyFrom 67 = .ok (.aload_n 1, 1) := by decide +kernel
theorem dX2_copyFrom_68 : decode cX2_copyFrom 68 = .ok (.getfield 15, 3) := by decide +kernel
theorem dX2_copyFrom_71 : decode cX2_copyFrom 71 = .ok (.iload_n 2, 1) := by decide +kernel
theorem dX2_copyFrom_72 : decode cX2_copyFrom 72 = .ok (.iaload, 1) := by decide +kernel
theorem dX2_copyFrom_73 : decode cX2_copyFrom 73 = .ok (.iastore, 1) := by decide +kernel
theorem dX2_copyFrom_74 : decode cX2_copyFrom 74 = .ok (.iinc 2 1, 3) := by decide +kernel
theorem dX2_copyFrom_77 : decode cX2_copyFrom 77 = .ok (.goto (-23), 3) := by decide +kernel
theorem dX2_copyFrom_80 : decode cX2_copyFrom 80 = .ok (.return_, 1) := by decide +kernel
theorem dX2_puddleCount_0 : decode cX2_puddleCount 0 = .ok (.aload_n 0, 1) := by decide +kernel
theorem dX2_puddleCount_1 : decode cX2_puddleCount 1 = .ok (.getfield 27, 3) := by decide +kernel
theorem dX2_puddleCount_4 : decode cX2_puddleCount 4 = .ok (.aload_n 0, 1) := by decide +kernel
theorem dX2_puddleCount_5 : decode cX2_puddleCount 5 = .ok (.getfield 31, 3) := by decide +kernel
theorem dX2_puddleCount_8 : decode cX2_puddleCount 8 = .ok (.imul, 1) := by decide +kernel
theorem dX2_puddleCount_9 : decode cX2_puddleCount 9 = .ok (.ireturn, 1) := by decide +kernel
theorem dX2_numberOf_0 : decode cX2_numberOf 0 = .ok (.iload_n 1, 1) := by decide +kernel
theorem dX2_numberOf_1 : decode cX2_numberOf 1 = .ok (.aload_n 0, 1) := by decide +kernel
theorem dX2_numberOf_2 : decode cX2_numberOf 2 = .ok (.getfield 31, 3) := by decide +kernel
theorem dX2_numberOf_5 : decode cX2_numberOf 5 = .ok (.imul, 1) := by decide +kernel
theorem dX2_numberOf_6 : decode cX2_numberOf 6 = .ok (.iload_n 2, 1) := by decide +kernel
theorem dX2_numberOf_7 : decode cX2_numberOf 7 = .ok (.iadd, 1) := by decide +kernel
theorem dX2_numberOf_8 : decode cX2_numberOf 8 = .ok (.ireturn, 1) := by decide +kernel
theorem dX2_level_0 : decode cX2_level 0 = .ok (.aload_n 0, 1) := by decide +kernel
theorem dX2_level_1 : decode cX2_level 1 = .ok (.getfield 9, 3) := by decide +kernel
theorem dX2_level_4 : decode cX2_level 4 = .ok (.aload_n 0, 1) := by decide +kernel
theorem dX2_level_5 : decode cX2_level 5 = .ok (.iload_n 1, 1) := by decide +kernel
theorem dX2_level_6 : decode cX2_level 6 = .ok (.iload_n 2, 1) := by decide +kernel
theorem dX2_level_7 : decode cX2_level 7 = .ok (.invokevirtual 41, 3) := by decide +kernel
theorem dX2_level_10 : decode cX2_level 10 = .ok (.iaload, 1) := by decide +kernel
theorem dX2_level_11 : decode cX2_level 11 = .ok (.ireturn, 1) := by decide +kernel
theorem dX2_add_0 : decode cX2_add 0 = .ok (.aload_n 0, 1) := by decide +kernel
theorem dX2_add_1 : decode cX2_add 1 = .ok (.getfield 9, 3) := by decide +kernel
theorem dX2_add_4 : decode cX2_add 4 = .ok (.aload_n 0, 1) := by decide +kernel
theorem dX2_add_5 : decode cX2_add 5 = .ok (.iload_n 1, 1) := by decide +kernel
theorem dX2_add_6 : decode cX2_add 6 = .ok (.iload_n 2, 1) := by decide +kernel
theorem dX2_add_7 : decode cX2_add 7 = .ok (.invokevirtual 41, 3) := by decide +kernel
theorem dX2_add_10 : decode cX2_add 10 = .ok (.dup2, 1) := by decide +kernel
theorem dX2_add_11 : decode cX2_add 11 = .ok (.iaload, 1) := by decide +kernel
theorem dX2_add_12 : decode cX2_add 12 = .ok (.iload_n 3, 1) := by decide +kernel
theorem dX2_add_13 : decode cX2_add 13 = .ok (.iadd, 1) := by decide +kernel
theorem dX2_add_14 : decode cX2_add 14 = .ok (.iastore, 1) := by decide +kernel
theorem dX2_add_15 : decode cX2_add 15 = .ok (.return_, 1) := by decide +kernel
theorem dX2_exchange_0 : decode cX2_exchange 0 = .ok (.aload_n 0, 1) := by decide +kernel
theorem dX2_exchange_1 : decode cX2_exchange 1 = .ok (.getfield 9, 3) := by decide +kernel
theorem dX2_exchange_4 : decode cX2_exchange 4 = .ok (.iload_n 1, 1) := by decide +kernel
theorem dX2_exchange_5 : decode cX2_exchange 5 = .ok (.iaload, 1) := by decide +kernel
theorem dX2_exchange_6 : decode cX2_exchange 6 = .ok (.istore_n 3, 1) := by decide +kernel
theorem dX2_exchange_7 : decode cX2_exchange 7 = .ok (.aload_n 0, 1) := by decide +kernel
theorem dX2_exchange_8 : decode cX2_exchange 8 = .ok (.getfield 9, 3) := by decide +kernel
theorem dX2_exchange_11 : decode cX2_exchange 11 = .ok (.iload_n 1, 1) := by decide +kernel
theorem dX2_exchange_12 : decode cX2_exchange 12 = .ok (.aload_n 0, 1) := by decide +kernel
theorem dX2_exchange_13 : decode cX2_exchange 13 = .ok (.getfield 9, 3) := by decide +kernel
theorem dX2_exchange_16 : decode cX2_exchange 16 = .ok (.iload_n 2, 1) := by decide +kernel
theorem dX2_exchange_17 : decode cX2_exchange 17 = .ok (.iaload, 1) := by decide +kernel
theorem dX2_exchange_18 : decode cX2_exchange 18 = .ok (.iastore, 1) := by decide +kernel
theorem dX2_exchange_19 : decode cX2_exchange 19 = .ok (.aload_n 0, 1) := by decide +kernel
theorem dX2_exchange_20 : decode cX2_exchange 20 = .ok (.getfield 9, 3) := by decide +kernel
theorem dX2_exchange_23 : decode cX2_exchange 23 = .ok (.iload_n 2, 1) := by decide +kernel
theorem dX2_exchange_24 : decode cX2_exchange 24 = .ok (.iload_n 3, 1) := by decide +kernel
theorem dX2_exchange_25 : decode cX2_exchange 25 = .ok (.iastore, 1) := by decide +kernel
theorem dX2_exchange_26 : decode cX2_exchange 26 = .ok (.return_, 1) := by decide +kernel
theorem dX2_changedFrom_0 : decode cX2_changedFrom 0 = .ok (.iconst 0, 1) := by decide +kernel
theorem dX2_changedFrom_1 : decode cX2_changedFrom 1 = .ok (.istore_n 2, 1) := by decide +kernel
theorem dX2_changedFrom_2 : decode cX2_changedFrom 2 = .ok (.iconst 0, 1) := by decide +kernel
theorem dX2_changedFrom_3 : decode cX2_changedFrom 3 = .ok (.istore_n 3, 1) := by decide +kernel
theorem dX2_changedFrom_4 : decode cX2_changedFrom 4 = .ok (.iload_n 3, 1) := by decide +kernel
theorem dX2_changedFrom_5 : decode cX2_changedFrom 5 = .ok (.aload_n 0, 1) := by decide +kernel
theorem dX2_changedFrom_6 : decode cX2_changedFrom 6 = .ok (.invokevirtual 37, 3) := by decide +kernel
theorem dX2_changedFrom_9 : decode cX2_changedFrom 9 = .ok (.if_icmp .ge 24, 3) := by decide +kernel
theorem dX2_changedFrom_12 : decode cX2_changedFrom 12 = .ok (.aload_n 0, 1) := by decide +kernel
theorem dX2_changedFrom_13 : decode cX2_changedFrom 13 = .ok (.getfield 9, 3) := by decide +kernel
theorem dX2_changedFrom_16 : decode cX2_changedFrom 16 = .ok (.iload_n 3, 1) := by decide +kernel
theorem dX2_changedFrom_17 : decode cX2_changedFrom 17 = .ok (.iaload, 1) := by decide +kernel
theorem dX2_changedFrom_18 : decode cX2_changedFrom 18 = .ok (.aload_n 1, 1) := by decide +kernel
theorem dX2_changedFrom_19 : decode cX2_changedFrom 19 = .ok (.iload_n 3, 1) := by decide +kernel
theorem dX2_changedFrom_20 : decode cX2_changedFrom 20 = .ok (.iaload, 1) := by decide +kernel
theorem dX2_changedFrom_21 : decode cX2_changedFrom 21 = .ok (.if_icmp .eq 6, 3) := by decide +kernel
theorem dX2_changedFrom_24 : decode cX2_changedFrom 24 = .ok (.iinc 2 1, 3) := by decide +kernel
theorem dX2_changedFrom_27 : decode cX2_changedFrom 27 = .ok (.iinc 3 1, 3) := by decide +kernel
theorem dX2_changedFrom_30 : decode cX2_changedFrom 30 = .ok (.goto (-26), 3) := by decide +kernel
theorem dX2_changedFrom_33 : decode cX2_changedFrom 33 = .ok (.iload_n 2, 1) := by decide +kernel
theorem dX2_changedFrom_34 : decode cX2_changedFrom 34 = .ok (.ireturn, 1) := by decide +kernel
theorem dX2_takeFrom_0 : decode cX2_takeFrom 0 = .ok (.aload_n 0, 1) := by decide +kernel
theorem dX2_takeFrom_1 : decode cX2_takeFrom 1 = .ok (.aload_n 1, 1) := by decide +kernel
theorem dX2_takeFrom_2 : decode cX2_takeFrom 2 = .ok (.invokevirtual 44, 3) := by decide +kernel
theorem dX2_takeFrom_5 : decode cX2_takeFrom 5 = .ok (.istore_n 2, 1) := by decide +kernel
theorem dX2_takeFrom_6 : decode cX2_takeFrom 6 = .ok (.iconst 0, 1) := by decide +kernel
theorem dX2_takeFrom_7 : decode cX2_takeFrom 7 = .ok (.istore_n 3, 1) := by decide +kernel
theorem dX2_takeFrom_8 : decode cX2_takeFrom 8 = .ok (.iload_n 3, 1) := by decide +kernel
theorem dX2_takeFrom_9 : decode cX2_takeFrom 9 = .ok (.aload_n 0, 1) := by decide +kernel
theorem dX2_takeFrom_10 : decode cX2_takeFrom 10 = .ok (.invokevirtual 37, 3) := by decide +kernel
theorem dX2_takeFrom_13 : decode cX2_takeFrom 13 = .ok (.if_icmp .ge 18, 3) := by decide +kernel
theorem dX2_takeFrom_16 : decode cX2_takeFrom 16 = .ok (.aload_n 0, 1) := by decide +kernel
theorem dX2_takeFrom_17 : decode cX2_takeFrom 17 = .ok (.getfield 9, 3) := by decide +kernel
theorem dX2_takeFrom_20 : decode cX2_takeFrom 20 = .ok (.iload_n 3, 1) := by decide +kernel
theorem dX2_takeFrom_21 : decode cX2_takeFrom 21 = .ok (.aload_n 1, 1) := by decide +kernel
theorem dX2_takeFrom_22 : decode cX2_takeFrom 22 = .ok (.iload_n 3, 1) := by decide +kernel
theorem dX2_takeFrom_23 : decode cX2_takeFrom 23 = .ok (.iaload, 1) := by decide +kernel
theorem dX2_takeFrom_24 : decode cX2_takeFrom 24 = .ok (.iastore, 1) := by decide +kernel
theorem dX2_takeFrom_25 : decode cX2_takeFrom 25 = .ok (.iinc 3 1, 3) := by decide +kernel
theorem dX2_takeFrom_28 : decode cX2_takeFrom 28 = .ok (.goto (-20), 3) := by decide +kernel
theorem dX2_takeFrom_31 : decode cX2_takeFrom 31 = .ok (.iload_n 2, 1) := by decide +kernel
theorem dX2_takeFrom_32 : decode cX2_takeFrom 32 = .ok (.ireturn, 1) := by decide +kernel
theorem dX2_alikeSteps_0 : decode cX2_alikeSteps 0 = .ok (.iconst 0, 1) := by decide +kernel
theorem dX2_alikeSteps_1 : decode cX2_alikeSteps 1 = .ok (.istore_n 3, 1) := by decide +kernel
theorem dX2_alikeSteps_2 : decode cX2_alikeSteps 2 = .ok (.iconst 0, 1) := by decide +kernel
theorem dX2_alikeSteps_3 : decode cX2_alikeSteps 3 = .ok (.istore 4, 2) := by decide +kernel
theorem dX2_alikeSteps_5 : decode cX2_alikeSteps 5 = .ok (.iload 4, 2) := by decide +kernel
theorem dX2_alikeSteps_7 : decode cX2_alikeSteps 7 = .ok (.aload_n 0, 1) := by decide +kernel
theorem dX2_alikeSteps_8 : decode cX2_alikeSteps 8 = .ok (.getfield 31, 3) := by decide +kernel
theorem dX2_alikeSteps_11 : decode cX2_alikeSteps 11 = .ok (.if_icmp .ge 29, 3) := by decide +kernel
theorem dX2_alikeSteps_14 : decode cX2_alikeSteps 14 = .ok (.aload_n 0, 1) := by decide +kernel
theorem dX2_alikeSteps_15 : decode cX2_alikeSteps 15 = .ok (.iload_n 1, 1) := by decide +kernel
theorem dX2_alikeSteps_16 : decode cX2_alikeSteps 16 = .ok (.iload 4, 2) := by decide +kernel
theorem dX2_alikeSteps_18 : decode cX2_alikeSteps 18 = .ok (.invokevirtual 48, 3) := by decide +kernel
theorem dX2_alikeSteps_21 : decode cX2_alikeSteps 21 = .ok (.aload_n 0, 1) := by decide +kernel
theorem dX2_alikeSteps_22 : decode cX2_alikeSteps 22 = .ok (.iload_n 2, 1) := by decide +kernel
theorem dX2_alikeSteps_23 : decode cX2_alikeSteps 23 = .ok (.iload 4, 2) := by decide +kernel
theorem dX2_alikeSteps_25 : decode cX2_alikeSteps 25 = .ok (.invokevirtual 48, 3) := by decide +kernel
theorem dX2_alikeSteps_28 : decode cX2_alikeSteps 28 = .ok (.if_icmp .ne 6, 3) := by decide +kernel
theorem dX2_alikeSteps_31 : decode cX2_alikeSteps 31 = .ok (.iinc 3 1, 3) := by decide +kernel
theorem dX2_alikeSteps_34 : decode cX2_alikeSteps 34 = .ok (.iinc 4 1, 3) := by decide +kernel
theorem dX2_alikeSteps_37 : decode cX2_alikeSteps 37 = .ok (.goto (-32), 3) := by decide +kernel
theorem dX2_alikeSteps_40 : decode cX2_alikeSteps 40 = .ok (.iload_n 3, 1) := by decide +kernel
theorem dX2_alikeSteps_41 : decode cX2_alikeSteps 41 = .ok (.ireturn, 1) := by decide +kernel
theorem dX2_partSum_0 : decode cX2_partSum 0 = .ok (.lconst 0, 1) := by decide +kernel
theorem dX2_partSum_1 : decode cX2_partSum 1 = .ok (.lstore 5, 2) := by decide +kernel
theorem dX2_partSum_3 : decode cX2_partSum 3 = .ok (.iload_n 1, 1) := by decide +kernel
theorem dX2_partSum_4 : decode cX2_partSum 4 = .ok (.istore 7, 2) := by decide +kernel
theorem dX2_partSum_6 : decode cX2_partSum 6 = .ok (.iload 7, 2) := by decide +kernel
theorem dX2_partSum_8 : decode cX2_partSum 8 = .ok (.iload_n 3, 1) := by decide +kernel
theorem dX2_partSum_9 : decode cX2_partSum 9 = .ok (.if_icmp .gt 39, 3) := by decide +kernel
theorem dX2_partSum_12 : decode cX2_partSum 12 = .ok (.iload_n 2, 1) := by decide +kernel
theorem dX2_partSum_13 : decode cX2_partSum 13 = .ok (.istore 8, 2) := by decide +kernel
theorem dX2_partSum_15 : decode cX2_partSum 15 = .ok (.iload 8, 2) := by decide +kernel
theorem dX2_partSum_17 : decode cX2_partSum 17 = .ok (.iload 4, 2) := by decide +kernel
theorem dX2_partSum_19 : decode cX2_partSum 19 = .ok (.if_icmp .gt 23, 3) := by decide +kernel
theorem dX2_partSum_22 : decode cX2_partSum 22 = .ok (.lload 5, 2) := by decide +kernel
theorem dX2_partSum_24 : decode cX2_partSum 24 = .ok (.aload_n 0, 1) := by decide +kernel
theorem dX2_partSum_25 : decode cX2_partSum 25 = .ok (.iload 7, 2) := by decide +kernel
theorem dX2_partSum_27 : decode cX2_partSum 27 = .ok (.iload 8, 2) := by decide +kernel
theorem dX2_partSum_29 : decode cX2_partSum 29 = .ok (.invokevirtual 48, 3) := by decide +kernel
theorem dX2_partSum_32 : decode cX2_partSum 32 = .ok (.i2l, 1) := by decide +kernel
theorem dX2_partSum_33 : decode cX2_partSum 33 = .ok (.ladd, 1) := by decide +kernel
theorem dX2_partSum_34 : decode cX2_partSum 34 = .ok (.lstore 5, 2) := by decide +kernel
theorem dX2_partSum_36 : decode cX2_partSum 36 = .ok (.iinc 8 1, 3) := by decide +kernel
theorem dX2_partSum_39 : decode cX2_partSum 39 = .ok (.goto (-24), 3) := by decide +kernel
theorem dX2_partSum_42 : decode cX2_partSum 42 = .ok (.iinc 7 1, 3) := by decide +kernel
theorem dX2_partSum_45 : decode cX2_partSum 45 = .ok (.goto (-39), 3) := by decide +kernel
theorem dX2_partSum_48 : decode cX2_partSum 48 = .ok (.lload 5, 2) := by decide +kernel
theorem dX2_partSum_50 : decode cX2_partSum 50 = .ok (.lreturn, 1) := by decide +kernel
theorem dX2_wholeSum_0 : decode cX2_wholeSum 0 = .ok (.aload_n 0, 1) := by decide +kernel
theorem dX2_wholeSum_1 : decode cX2_wholeSum 1 = .ok (.iconst 0, 1) := by decide +kernel
theorem dX2_wholeSum_2 : decode cX2_wholeSum 2 = .ok (.iconst 0, 1) := by decide +kernel
theorem dX2_wholeSum_3 : decode cX2_wholeSum 3 = .ok (.aload_n 0, 1) := by decide +kernel
theorem dX2_wholeSum_4 : decode cX2_wholeSum 4 = .ok (.getfield 27, 3) := by decide +kernel
theorem dX2_wholeSum_7 : decode cX2_wholeSum 7 = .ok (.iconst 1, 1) := by decide +kernel
theorem dX2_wholeSum_8 : decode cX2_wholeSum 8 = .ok (.isub, 1) := by decide +kernel
theorem dX2_wholeSum_9 : decode cX2_wholeSum 9 = .ok (.aload_n 0, 1) := by decide +kernel
theorem dX2_wholeSum_10 : decode cX2_wholeSum 10 = .ok (.getfield 31, 3) := by decide +kernel
theorem dX2_wholeSum_13 : decode cX2_wholeSum 13 = .ok (.iconst 1, 1) := by decide +kernel
theorem dX2_wholeSum_14 : decode cX2_wholeSum 14 = .ok (.isub, 1) := by decide +kernel
theorem dX2_wholeSum_15 : decode cX2_wholeSum 15 = .ok (.invokevirtual 51, 3) := by decide +kernel
theorem dX2_wholeSum_18 : decode cX2_wholeSum 18 = .ok (.lreturn, 1) := by decide +kernel
theorem dX2_dryInPart_0 : decode cX2_dryInPart 0 = .ok (.iconst 0, 1) := by decide +kernel
theorem dX2_dryInPart_1 : decode cX2_dryInPart 1 = .ok (.istore 5, 2) := by decide +kernel
theorem dX2_dryInPart_3 : decode cX2_dryInPart 3 = .ok (.iload_n 1, 1) := by decide +kernel
theorem dX2_dryInPart_4 : decode cX2_dryInPart 4 = .ok (.istore 6, 2) := by decide +kernel
theorem dX2_dryInPart_6 : decode cX2_dryInPart 6 = .ok (.iload 6, 2) := by decide +kernel
theorem dX2_dryInPart_8 : decode cX2_dryInPart 8 = .ok (.iload_n 3, 1) := by decide +kernel
theorem dX2_dryInPart_9 : decode cX2_dryInPart 9 = .ok (.if_icmp .gt 39, 3) := by decide +kernel
theorem dX2_dryInPart_12 : decode cX2_dryInPart 12 = .ok (.iload_n 2, 1) := by decide +kernel
theorem dX2_dryInPart_13 : decode cX2_dryInPart 13 = .ok (.istore 7, 2) := by decide +kernel
theorem dX2_dryInPart_15 : decode cX2_dryInPart 15 = .ok (.iload 7, 2) := by decide +kernel
theorem dX2_dryInPart_17 : decode cX2_dryInPart 17 = .ok (.iload 4, 2) := by decide +kernel
theorem dX2_dryInPart_19 : decode cX2_dryInPart 19 = .ok (.if_icmp .gt 23, 3) := by decide +kernel
theorem dX2_dryInPart_22 : decode cX2_dryInPart 22 = .ok (.aload_n 0, 1) := by decide +kernel
theorem dX2_dryInPart_23 : decode cX2_dryInPart 23 = .ok (.iload 6, 2) := by decide +kernel
theorem dX2_dryInPart_25 : decode cX2_dryInPart 25 = .ok (.iload 7, 2) := by decide +kernel
theorem dX2_dryInPart_27 : decode cX2_dryInPart 27 = .ok (.invokevirtual 48, 3) := by decide +kernel
theorem dX2_dryInPart_30 : decode cX2_dryInPart 30 = .ok (.ifCond .gt 6, 3) := by decide +kernel
theorem dX2_dryInPart_33 : decode cX2_dryInPart 33 = .ok (.iinc 5 1, 3) := by decide +kernel
theorem dX2_dryInPart_36 : decode cX2_dryInPart 36 = .ok (.iinc 7 1, 3) := by decide +kernel
theorem dX2_dryInPart_39 : decode cX2_dryInPart 39 = .ok (.goto (-24), 3) := by decide +kernel
theorem dX2_dryInPart_42 : decode cX2_dryInPart 42 = .ok (.iinc 6 1, 3) := by decide +kernel
theorem dX2_dryInPart_45 : decode cX2_dryInPart 45 = .ok (.goto (-39), 3) := by decide +kernel
theorem dX2_dryInPart_48 : decode cX2_dryInPart 48 = .ok (.iload 5, 2) := by decide +kernel
theorem dX2_dryInPart_50 : decode cX2_dryInPart 50 = .ok (.ireturn, 1) := by decide +kernel
theorem dX2_upToLevel_0 : decode cX2_upToLevel 0 = .ok (.iconst 0, 1) := by decide +kernel
theorem dX2_upToLevel_1 : decode cX2_upToLevel 1 = .ok (.istore_n 2, 1) := by decide +kernel
theorem dX2_upToLevel_2 : decode cX2_upToLevel 2 = .ok (.iconst 0, 1) := by decide +kernel
theorem dX2_upToLevel_3 : decode cX2_upToLevel 3 = .ok (.istore_n 3, 1) := by decide +kernel
theorem dX2_upToLevel_4 : decode cX2_upToLevel 4 = .ok (.iload_n 3, 1) := by decide +kernel
theorem dX2_upToLevel_5 : decode cX2_upToLevel 5 = .ok (.aload_n 0, 1) := by decide +kernel
theorem dX2_upToLevel_6 : decode cX2_upToLevel 6 = .ok (.invokevirtual 37, 3) := by decide +kernel
theorem dX2_upToLevel_9 : decode cX2_upToLevel 9 = .ok (.if_icmp .ge 22, 3) := by decide +kernel
theorem dX2_upToLevel_12 : decode cX2_upToLevel 12 = .ok (.aload_n 0, 1) := by decide +kernel
theorem dX2_upToLevel_13 : decode cX2_upToLevel 13 = .ok (.getfield 9, 3) := by decide +kernel
theorem dX2_upToLevel_16 : decode cX2_upToLevel 16 = .ok (.iload_n 3, 1) := by decide +kernel
theorem dX2_upToLevel_17 : decode cX2_upToLevel 17 = .ok (.iaload, 1) := by decide +kernel
theorem dX2_upToLevel_18 : decode cX2_upToLevel 18 = .ok (.iload_n 1, 1) := by decide +kernel
theorem dX2_upToLevel_19 : decode cX2_upToLevel 19 = .ok (.if_icmp .gt 6, 3) := by decide +kernel
theorem dX2_upToLevel_22 : decode cX2_upToLevel 22 = .ok (.iinc 2 1, 3) := by decide +kernel
theorem dX2_upToLevel_25 : decode cX2_upToLevel 25 = .ok (.iinc 3 1, 3) := by decide +kernel
theorem dX2_upToLevel_28 : decode cX2_upToLevel 28 = .ok (.goto (-24), 3) := by decide +kernel
theorem dX2_upToLevel_31 : decode cX2_upToLevel 31 = .ok (.iload_n 2, 1) := by decide +kernel
theorem dX2_upToLevel_32 : decode cX2_upToLevel 32 = .ok (.ireturn, 1) := by decide +kernel
theorem dX2_allDry_0 : decode cX2_allDry 0 = .ok (.aload_n 0, 1) := by decide +kernel
theorem dX2_allDry_1 : decode cX2_allDry 1 = .ok (.iconst 0, 1) := by decide +kernel
theorem dX2_allDry_2 : decode cX2_allDry 2 = .ok (.invokevirtual 55, 3) := by decide +kernel
theorem dX2_allDry_5 : decode cX2_allDry 5 = .ok (.aload_n 0, 1) := by decide +kernel
theorem dX2_allDry_6 : decode cX2_allDry 6 = .ok (.invokevirtual 37, 3) := by decide +kernel
theorem dX2_allDry_9 : decode cX2_allDry 9 = .ok (.if_icmp .ne 7, 3) := by decide +kernel
theorem dX2_allDry_12 : decode cX2_allDry 12 = .ok (.iconst 1, 1) := by decide +kernel
theorem dX2_allDry_13 : decode cX2_allDry 13 = .ok (.goto 4, 3) := by decide +kernel
theorem dX2_allDry_16 : decode cX2_allDry 16 = .ok (.iconst 0, 1) := by decide +kernel
theorem dX2_allDry_17 : decode cX2_allDry 17 = .ok (.ireturn, 1) := by decide +kernel
theorem dX2_flowFor_0 : decode cX2_flowFor 0 = .ok (.iconst 0, 1) := by decide +kernel
theorem dX2_flowFor_1 : decode cX2_flowFor 1 = .ok (.istore_n 2, 1) := by decide +kernel
theorem dX2_flowFor_2 : decode cX2_flowFor 2 = .ok (.iconst 0, 1) := by decide +kernel
theorem dX2_flowFor_3 : decode cX2_flowFor 3 = .ok (.istore_n 3, 1) := by decide +kernel
theorem dX2_flowFor_4 : decode cX2_flowFor 4 = .ok (.iload_n 3, 1) := by decide +kernel
theorem dX2_flowFor_5 : decode cX2_flowFor 5 = .ok (.iload_n 1, 1) := by decide +kernel
theorem dX2_flowFor_6 : decode cX2_flowFor 6 = .ok (.if_icmp .ge 16, 3) := by decide +kernel
theorem dX2_flowFor_9 : decode cX2_flowFor 9 = .ok (.iload_n 2, 1) := by decide +kernel
theorem dX2_flowFor_10 : decode cX2_flowFor 10 = .ok (.aload_n 0, 1) := by decide +kernel
theorem dX2_flowFor_11 : decode cX2_flowFor 11 = .ok (.invokevirtual 59, 3) := by decide +kernel
theorem dX2_flowFor_14 : decode cX2_flowFor 14 = .ok (.iadd, 1) := by decide +kernel
theorem dX2_flowFor_15 : decode cX2_flowFor 15 = .ok (.istore_n 2, 1) := by decide +kernel
theorem dX2_flowFor_16 : decode cX2_flowFor 16 = .ok (.iinc 3 1, 3) := by decide +kernel
theorem dX2_flowFor_19 : decode cX2_flowFor 19 = .ok (.goto (-15), 3) := by decide +kernel
theorem dX2_flowFor_22 : decode cX2_flowFor 22 = .ok (.iload_n 2, 1) := by decide +kernel
theorem dX2_flowFor_23 : decode cX2_flowFor 23 = .ok (.ireturn, 1) := by decide +kernel
theorem dX2_flowOneHour_0 : decode cX2_flowOneHour 0 = .ok (.aload_n 0, 1) := by decide +kernel
theorem dX2_flowOneHour_1 : decode cX2_flowOneHour 1 = .ok (.invokevirtual 62, 3) := by decide +kernel
theorem dX2_flowOneHour_4 : decode cX2_flowOneHour 4 = .ok (.aload_n 0, 1) := by decide +kernel
theorem dX2_flowOneHour_5 : decode cX2_flowOneHour 5 = .ok (.invokevirtual 65, 3) := by decide +kernel
theorem dX2_flowOneHour_8 : decode cX2_flowOneHour 8 = .ok (.ireturn, 1) := by decide +kernel
theorem dX2_dryUp_0 : decode cX2_dryUp 0 = .ok (.aload_n 0, 1) := by decide +kernel
theorem dX2_dryUp_1 : decode cX2_dryUp 1 = .ok (.invokevirtual 37, 3) := by decide +kernel
theorem dX2_dryUp_4 : decode cX2_dryUp 4 = .ok (.istore_n 1, 1) := by decide +kernel
theorem dX2_dryUp_5 : decode cX2_dryUp 5 = .ok (.iconst 0, 1) := by decide +kernel
theorem dX2_dryUp_6 : decode cX2_dryUp 6 = .ok (.istore_n 2, 1) := by decide +kernel
theorem dX2_dryUp_7 : decode cX2_dryUp 7 = .ok (.iload_n 2, 1) := by decide +kernel
theorem dX2_dryUp_8 : decode cX2_dryUp 8 = .ok (.iload_n 1, 1) := by decide +kernel
theorem dX2_dryUp_9 : decode cX2_dryUp 9 = .ok (.if_icmp .ge 36, 3) := by decide +kernel
theorem dX2_dryUp_12 : decode cX2_dryUp 12 = .ok (.aload_n 0, 1) := by decide +kernel
theorem dX2_dryUp_13 : decode cX2_dryUp 13 = .ok (.getfield 9, 3) := by decide +kernel
theorem dX2_dryUp_16 : decode cX2_dryUp 16 = .ok (.iload_n 2, 1) := by decide +kernel
theorem dX2_dryUp_17 : decode cX2_dryUp 17 = .ok (.iaload, 1) := by decide +kernel
theorem dX2_dryUp_18 : decode cX2_dryUp 18 = .ok (.istore_n 3, 1) := by decide +kernel
theorem dX2_dryUp_19 : decode cX2_dryUp 19 = .ok (.iload_n 3, 1) := by decide +kernel
theorem dX2_dryUp_20 : decode cX2_dryUp 20 = .ok (.ifCond .le 19, 3) := by decide +kernel
theorem dX2_dryUp_23 : decode cX2_dryUp 23 = .ok (.aload_n 0, 1) := by decide +kernel
theorem dX2_dryUp_24 : decode cX2_dryUp 24 = .ok (.getfield 9, 3) := by decide +kernel
theorem dX2_dryUp_27 : decode cX2_dryUp 27 = .ok (.iload_n 2, 1) := by decide +kernel
theorem dX2_dryUp_28 : decode cX2_dryUp 28 = .ok (.iconst 0, 1) := by decide +kernel
theorem dX2_dryUp_29 : decode cX2_dryUp 29 = .ok (.iload_n 3, 1) := by decide +kernel
theorem dX2_dryUp_30 : decode cX2_dryUp 30 = .ok (.aload_n 0, 1) := by decide +kernel
theorem dX2_dryUp_31 : decode cX2_dryUp 31 = .ok (.getfield 34, 3) := by decide +kernel
theorem dX2_dryUp_34 : decode cX2_dryUp 34 = .ok (.isub, 1) := by decide +kernel
theorem dX2_dryUp_35 : decode cX2_dryUp 35 = .ok (.invokestatic 24, 3) := by decide +kernel
theorem dX2_dryUp_38 : decode cX2_dryUp 38 = .ok (.iastore, 1) := by decide +kernel
theorem dX2_dryUp_39 : decode cX2_dryUp 39 = .ok (.iinc 2 1, 3) := by decide +kernel
theorem dX2_dryUp_42 : decode cX2_dryUp 42 = .ok (.goto (-35), 3) := by decide +kernel
theorem dX2_dryUp_45 : decode cX2_dryUp 45 = .ok (.return_, 1) := by decide +kernel
theorem dX2_runDown_0 : decode cX2_runDown 0 = .ok (.iconst 0, 1) := by decide +kernel
theorem dX2_runDown_1 : decode cX2_runDown 1 = .ok (.istore_n 1, 1) := by decide +kernel
theorem dX2_runDown_2 : decode cX2_runDown 2 = .ok (.iconst 0, 1) := by decide +kernel
theorem dX2_runDown_3 : decode cX2_runDown 3 = .ok (.istore_n 2, 1) := by decide +kernel
theorem dX2_runDown_4 : decode cX2_runDown 4 = .ok (.iload_n 2, 1) := by decide +kernel
theorem dX2_runDown_5 : decode cX2_runDown 5 = .ok (.aload_n 0, 1) := by decide +kernel
theorem dX2_runDown_6 : decode cX2_runDown 6 = .ok (.getfield 27, 3) := by decide +kernel
theorem dX2_runDown_9 : decode cX2_runDown 9 = .ok (.if_icmp .ge 75, 3) := by decide +kernel
theorem dX2_runDown_12 : decode cX2_runDown 12 = .ok (.aload_n 0, 1) := by decide +kernel
theorem dX2_runDown_13 : decode cX2_runDown 13 = .ok (.iload_n 2, 1) := by decide +kernel
theorem dX2_runDown_14 : decode cX2_runDown 14 = .ok (.iconst 0, 1) := by decide +kernel
theorem dX2_runDown_15 : decode cX2_runDown 15 = .ok (.invokevirtual 41, 3) := by decide +kernel
theorem dX2_runDown_18 : decode cX2_runDown 18 = .ok (.istore_n 3, 1) := by decide +kernel
theorem dX2_runDown_19 : decode cX2_runDown 19 = .ok (.iconst 0, 1) := by decide +kernel
theorem dX2_runDown_20 : decode cX2_runDown 20 = .ok (.istore 4, 2) := by decide +kernel
theorem dX2_runDown_22 : decode cX2_runDown 22 = .ok (.iload 4, 2) := by decide +kernel
theorem dX2_runDown_24 : decode cX2_runDown 24 = .ok (.aload_n 0, 1) := by decide +kernel
theorem dX2_runDown_25 : decode cX2_runDown 25 = .ok (.getfield 31, 3) := by decide +kernel
theorem dX2_runDown_28 : decode cX2_runDown 28 = .ok (.if_icmp .ge 50, 3) := by decide +kernel
theorem dX2_runDown_31 : decode cX2_runDown 31 = .ok (.aload_n 0, 1) := by decide +kernel
theorem dX2_runDown_32 : decode cX2_runDown 32 = .ok (.getfield 9, 3) := by decide +kernel
theorem dX2_runDown_35 : decode cX2_runDown 35 = .ok (.iload_n 3, 1) := by decide +kernel
theorem dX2_runDown_36 : decode cX2_runDown 36 = .ok (.iload 4, 2) := by decide +kernel
theorem dX2_runDown_38 : decode cX2_runDown 38 = .ok (.iadd, 1) := by decide +kernel
theorem dX2_runDown_39 : decode cX2_runDown 39 = .ok (.iaload, 1) := by decide +kernel
theorem dX2_runDown_40 : decode cX2_runDown 40 = .ok (.iload_n 1, 1) := by decide +kernel
theorem dX2_runDown_41 : decode cX2_runDown 41 = .ok (.iadd, 1) := by decide +kernel
theorem dX2_runDown_42 : decode cX2_runDown 42 = .ok (.istore 5, 2) := by decide +kernel
theorem dX2_runDown_44 : decode cX2_runDown 44 = .ok (.iconst 0, 1) := by decide +kernel
theorem dX2_runDown_45 : decode cX2_runDown 45 = .ok (.iload 5, 2) := by decide +kernel
theorem dX2_runDown_47 : decode cX2_runDown 47 = .ok (.aload_n 0, 1) := by decide +kernel
theorem dX2_runDown_48 : decode cX2_runDown 48 = .ok (.getfield 15, 3) := by decide +kernel
theorem dX2_runDown_51 : decode cX2_runDown 51 = .ok (.iload 4, 2) := by decide +kernel
theorem dX2_runDown_53 : decode cX2_runDown 53 = .ok (.iaload, 1) := by decide +kernel
theorem dX2_runDown_54 : decode cX2_runDown 54 = .ok (.isub, 1) := by decide +kernel
theorem dX2_runDown_55 : decode cX2_runDown 55 = .ok (.invokestatic 24, 3) := by decide +kernel
theorem dX2_runDown_58 : decode cX2_runDown 58 = .ok (.istore_n 1, 1) := by decide +kernel
theorem dX2_runDown_59 : decode cX2_runDown 59 = .ok (.aload_n 0, 1) := by decide +kernel
theorem dX2_runDown_60 : decode cX2_runDown 60 = .ok (.getfield 9, 3) := by decide +kernel
theorem dX2_runDown_63 : decode cX2_runDown 63 = .ok (.iload_n 3, 1) := by decide +kernel
theorem dX2_runDown_64 : decode cX2_runDown 64 = .ok (.iload 4, 2) := by decide +kernel
theorem dX2_runDown_66 : decode cX2_runDown 66 = .ok (.iadd, 1) := by decide +kernel
theorem dX2_runDown_67 : decode cX2_runDown 67 = .ok (.iload 5, 2) := by decide +kernel
theorem dX2_runDown_69 : decode cX2_runDown 69 = .ok (.iload_n 1, 1) := by decide +kernel
theorem dX2_runDown_70 : decode cX2_runDown 70 = .ok (.isub, 1) := by decide +kernel
theorem dX2_runDown_71 : decode cX2_runDown 71 = .ok (.iastore, 1) := by decide +kernel
theorem dX2_runDown_72 : decode cX2_runDown 72 = .ok (.iinc 4 1, 3) := by decide +kernel
theorem dX2_runDown_75 : decode cX2_runDown 75 = .ok (.goto (-53), 3) := by decide +kernel
theorem dX2_runDown_78 : decode cX2_runDown 78 = .ok (.iinc 2 1, 3) := by decide +kernel
theorem dX2_runDown_81 : decode cX2_runDown 81 = .ok (.goto (-77), 3) := by decide +kernel
theorem dX2_runDown_84 : decode cX2_runDown 84 = .ok (.iload_n 1, 1) := by decide +kernel
theorem dX2_runDown_85 : decode cX2_runDown 85 = .ok (.ireturn, 1) := by decide +kernel
theorem dX3_init_0 : decode cX3_init 0 = .ok (.aload_n 0, 1) := by decide +kernel
theorem dX3_init_1 : decode cX3_init 1 = .ok (.invokespecial 3, 3) := by decide +kernel
theorem dX3_init_4 : decode cX3_init 4 = .ok (.aload_n 0, 1) := by decide +kernel
theorem dX3_init_5 : decode cX3_init 5 = .ok (.new 9, 3) := by decide +kernel
theorem dX3_init_8 : decode cX3_init 8 = .ok (.dup, 1) := by decide +kernel
theorem dX3_init_9 : decode cX3_init 9 = .ok (.invokespecial 11, 3) := by decide +kernel
theorem dX3_init_12 : decode cX3_init 12 = .ok (.putfield 12, 3) := by decide +kernel
theorem dX3_init_15 : decode cX3_init 15 = .ok (.aload_n 0, 1) := by decide +kernel
theorem dX3_init_16 : decode cX3_init 16 = .ok (.new 9, 3) := by decide +kernel
theorem dX3_init_19 : decode cX3_init 19 = .ok (.dup, 1) := by decide +kernel
theorem dX3_init_20 : decode cX3_init 20 = .ok (.invokespecial 11, 3) := by decide +kernel
theorem dX3_init_23 : decode cX3_init 23 = .ok (.putfield 16, 3) := by decide +kernel
theorem dX3_init_26 : decode cX3_init 26 = .ok (.aload_n 0, 1) := by decide +kernel
theorem dX3_init_27 : decode cX3_init 27 = .ok (.new 19, 3) := by decide +kernel
theorem dX3_init_30 : decode cX3_init 30 = .ok (.dup, 1) := by decide +kernel
theorem dX3_init_31 : decode cX3_init 31 = .ok (.bipush 30, 2) := by decide +kernel
theorem dX3_init_33 : decode cX3_init 33 = .ok (.invokespecial 21, 3) := by decide +kernel
theorem dX3_init_36 : decode cX3_init 36 = .ok (.putfield 24, 3) := by decide +kernel
theorem dX3_init_39 : decode cX3_init 39 = .ok (.aload_n 0, 1) := by decide +kernel
theorem dX3_init_40 : decode cX3_init 40 = .ok (.new 19, 3) := by decide +kernel
theorem dX3_init_43 : decode cX3_init 43 = .ok (.dup, 1) := by decide +kernel
theorem dX3_init_44 : decode cX3_init 44 = .ok (.bipush 12, 2) := by decide +kernel
theorem dX3_init_46 : decode cX3_init 46 = .ok (.invokespecial 21, 3) := by decide +kernel
theorem dX3_init_49 : decode cX3_init 49 = .ok (.putfield 28, 3) := by decide +kernel
theorem dX3_init_52 : decode cX3_init 52 = .ok (.aload_n 0, 1) := by decide +kernel
theorem dX3_init_53 : decode cX3_init 53 = .ok (.new 31, 3) := by decide +kernel
theorem dX3_init_56 : decode cX3_init 56 = .ok (.dup, 1) := by decide +kernel
theorem dX3_init_57 : decode cX3_init 57 = .ok (.invokespecial 33, 3) := by decide +kernel
theorem dX3_init_60 : decode cX3_init 60 = .ok (.putfield 34, 3) := by decide +kernel
theorem dX3_init_63 : decode cX3_init 63 = .ok (.aload_n 0, 1) := by decide +kernel
theorem dX3_init_64 : decode cX3_init 64 = .ok (.getfield 12, 3) := by decide +kernel
theorem dX3_init_67 : decode cX3_init 67 = .ok (.iconst 1, 1) := by decide +kernel
theorem dX3_init_68 : decode cX3_init 68 = .ok (.putfield 38, 3) := by decide +kernel
theorem dX3_init_71 : decode cX3_init 71 = .ok (.aload_n 0, 1) := by decide +kernel
theorem dX3_init_72 : decode cX3_init 72 = .ok (.getfield 12, 3) := by decide +kernel
theorem dX3_init_75 : decode cX3_init 75 = .ok (.iconst 4, 1) := by decide +kernel
theorem dX3_init_76 : decode cX3_init 76 = .ok (.bipush 8, 2) := by decide +kernel
theorem dX3_init_78 : decode cX3_init 78 = .ok (.invokevirtual 42, 3) := by decide +kernel
theorem dX3_init_81 : decode cX3_init 81 = .ok (.return_, 1) := by decide +kernel
theorem dX3_lay_0 : decode cX3_lay 0 = .ok (.iload_n 1, 1) := by decide +kernel
theorem dX3_lay_1 : decode cX3_lay 1 = .ok (.iconst 1, 1) := by decide +kernel
theorem dX3_lay_2 : decode cX3_lay 2 = .ok (.bipush 8, 2) := by decide +kernel
theorem dX3_lay_4 : decode cX3_lay 4 = .ok (.invokestatic 46, 3) := by decide +kernel
theorem dX3_lay_7 : decode cX3_lay 7 = .ok (.iload_n 2, 1) := by decide +kernel
theorem dX3_lay_8 : decode cX3_lay 8 = .ok (.iconst 1, 1) := by decide +kernel
theorem dX3_lay_9 : decode cX3_lay 9 = .ok (.bipush 16, 2) := by decide +kernel
theorem dX3_lay_11 : decode cX3_lay 11 = .ok (.invokestatic 46, 3) := by decide +kernel
theorem dX3_lay_14 : decode cX3_lay 14 = .ok (.aload_n 0, 1) := by decide +kernel
theorem dX3_lay_15 : decode cX3_lay 15 = .ok (.getfield 12, 3) := by decide +kernel
theorem dX3_lay_18 : decode cX3_lay 18 = .ok (.iload_n 1, 1) := by decide +kernel
theorem dX3_lay_19 : decode cX3_lay 19 = .ok (.iload_n 2, 1) := by decide +kernel
theorem dX3_lay_20 : decode cX3_lay 20 = .ok (.invokevirtual 42, 3) := by decide +kernel
theorem dX3_lay_23 : decode cX3_lay 23 = .ok (.aload_n 0, 1) := by decide +kernel
theorem dX3_lay_24 : decode cX3_lay 24 = .ok (.getfield 24, 3) := by decide +kernel
theorem dX3_lay_27 : decode cX3_lay 27 = .ok (.invokevirtual 50, 3) := by decide +kernel
theorem dX3_lay_30 : decode cX3_lay 30 = .ok (.aload_n 0, 1) := by decide +kernel
theorem dX3_lay_31 : decode cX3_lay 31 = .ok (.getfield 28, 3) := by decide +kernel
theorem dX3_lay_34 : decode cX3_lay 34 = .ok (.invokevirtual 50, 3) := by decide +kernel
theorem dX3_lay_37 : decode cX3_lay 37 = .ok (.aload_n 0, 1) := by decide +kernel
theorem dX3_lay_38 : decode cX3_lay 38 = .ok (.getfield 12, 3) := by decide +kernel
theorem dX3_lay_41 : decode cX3_lay 41 = .ok (.invokevirtual 53, 3) := by decide +kernel
theorem dX3_lay_44 : decode cX3_lay 44 = .ok (.ireturn, 1) := by decide +kernel
theorem dX3_rain_0 : decode cX3_rain 0 = .ok (.aload_n 0, 1) := by decide +kernel
theorem dX3_rain_1 : decode cX3_rain 1 = .ok (.iload_n 1, 1) := by decide +kernel
theorem dX3_rain_2 : decode cX3_rain 2 = .ok (.iload_n 2, 1) := by decide +kernel
theorem dX3_rain_3 : decode cX3_rain 3 = .ok (.invokevirtual 57, 3) := by decide +kernel
theorem dX3_rain_6 : decode cX3_rain 6 = .ok (.iload_n 3, 1) := by decide +kernel
theorem dX3_rain_7 : decode cX3_rain 7 = .ok (.bipush (-99), 2) := by decide +kernel
theorem dX3_rain_9 : decode cX3_rain 9 = .ok (.bipush 99, 2) := by decide +kernel
theorem dX3_rain_11 : decode cX3_rain 11 = .ok (.invokestatic 46, 3) := by decide +kernel
theorem dX3_rain_14 : decode cX3_rain 14 = .ok (.aload_n 0, 1) := by decide +kernel
theorem dX3_rain_15 : decode cX3_rain 15 = .ok (.invokevirtual 60, 3) := by decide +kernel
theorem dX3_rain_18 : decode cX3_rain 18 = .ok (.aload_n 0, 1) := by decide +kernel
theorem dX3_rain_19 : decode cX3_rain 19 = .ok (.getfield 12, 3) := by decide +kernel
theorem dX3_rain_22 : decode cX3_rain 22 = .ok (.iload_n 1, 1) := by decide +kernel
theorem dX3_rain_23 : decode cX3_rain 23 = .ok (.iload_n 2, 1) := by decide +kernel
theorem dX3_rain_24 : decode cX3_rain 24 = .ok (.iload_n 3, 1) := by decide +kernel
theorem dX3_rain_25 : decode cX3_rain 25 = .ok (.invokevirtual 63, 3) := by decide +kernel
theorem dX3_rain_28 : decode cX3_rain 28 = .ok (.aload_n 0, 1) := by decide +kernel
theorem dX3_rain_29 : decode cX3_rain 29 = .ok (.getfield 12, 3) := by decide +kernel
theorem dX3_rain_32 : decode cX3_rain 32 = .ok (.iload_n 1, 1) := by decide +kernel
theorem dX3_rain_33 : decode cX3_rain 33 = .ok (.iload_n 2, 1) := by decide +kernel
theorem dX3_rain_34 : decode cX3_rain 34 = .ok (.invokevirtual 66, 3) := by decide +kernel
theorem dX3_rain_37 : decode cX3_rain 37 = .ok (.ireturn, 1) := by decide +kernel
theorem dX3_splash_0 : decode cX3_splash 0 = .ok (.aload_n 0, 1) := by decide +kernel
theorem dX3_splash_1 : decode cX3_splash 1 = .ok (.iload_n 1, 1) := by decide +kernel
theorem dX3_splash_2 : decode cX3_splash 2 = .ok (.iload_n 2, 1) := by decide +kernel
theorem dX3_splash_3 : decode cX3_splash 3 = .ok (.iload_n 3, 1) := by decide +kernel
theorem dX3_splash_4 : decode cX3_splash 4 = .ok (.iload 4, 2) := by decide +kernel
theorem dX3_splash_6 : decode cX3_splash 6 = .ok (.invokevirtual 70, 3) := by decide +kernel
theorem dX3_splash_9 : decode cX3_splash 9 = .ok (.iload 5, 2) := by decide +kernel
theorem dX3_splash_11 : decode cX3_splash 11 = .ok (.bipush (-99), 2) := by decide +kernel
theorem dX3_splash_13 : decode cX3_splash 13 = .ok (.bipush 99, 2) := by decide +kernel
theorem dX3_splash_15 : decode cX3_splash 15 = .ok (.invokestatic 46, 3) := by decide +kernel
theorem dX3_splash_18 : decode cX3_splash 18 = .ok (.aload_n 0, 1) := by decide +kernel
theorem dX3_splash_19 : decode cX3_splash 19 = .ok (.invokevirtual 60, 3) := by decide +kernel
theorem dX3_splash_22 : decode cX3_splash 22 = .ok (.iload_n 1, 1) := by decide +kernel
theorem dX3_splash_23 : decode cX3_splash 23 = .ok (.istore 6, 2) := by decide +kernel
theorem dX3_splash_25 : decode cX3_splash 25 = .ok (.iload 6, 2) := by decide +kernel
theorem dX3_splash_27 : decode cX3_splash 27 = .ok (.iload_n 3, 1) := by decide +kernel
theorem dX3_splash_28 : decode cX3_splash 28 = .ok (.if_icmp .gt 38, 3) := by decide +kernel
theorem dX3_splash_31 : decode cX3_splash 31 = .ok (.iload_n 2, 1) := by decide +kernel
theorem dX3_splash_32 : decode cX3_splash 32 = .ok (.istore 7, 2) := by decide +kernel
theorem dX3_splash_34 : decode cX3_splash 34 = .ok (.iload 7, 2) := by decide +kernel
theorem dX3_splash_36 : decode cX3_splash 36 = .ok (.iload 4, 2) := by decide +kernel
theorem dX3_splash_38 : decode cX3_splash 38 = .ok (.if_icmp .gt 22, 3) := by decide +kernel
theorem dX3_splash_41 : decode cX3_splash 41 = .ok (.aload_n 0, 1) := by decide +kernel
theorem dX3_splash_42 : decode cX3_splash 42 = .ok (.getfield 12, 3) := by decide +kernel
theorem dX3_splash_45 : decode cX3_splash 45 = .ok (.iload 6, 2) := by decide +kernel
theorem dX3_splash_47 : decode cX3_splash 47 = .ok (.iload 7, 2) := by decide +kernel
theorem dX3_splash_49 : decode cX3_splash 49 = .ok (.iload 5, 2) := by decide +kernel
theorem dX3_splash_51 : decode cX3_splash 51 = .ok (.invokevirtual 63, 3) := by decide +kernel
theorem dX3_splash_54 : decode cX3_splash 54 = .ok (.iinc 7 1, 3) := by decide +kernel
theorem dX3_splash_57 : decode cX3_splash 57 = .ok (.goto (-23), 3) := by decide +kernel
theorem dX3_splash_60 : decode cX3_splash 60 = .ok (.iinc 6 1, 3) := by decide +kernel
theorem dX3_splash_63 : decode cX3_splash 63 = .ok (.goto (-38), 3) := by decide +kernel
theorem dX3_splash_66 : decode cX3_splash 66 = .ok (.iload_n 3, 1) := by decide +kernel
theorem dX3_splash_67 : decode cX3_splash 67 = .ok (.iload_n 1, 1) := by decide +kernel
theorem dX3_splash_68 : decode cX3_splash 68 = .ok (.isub, 1) := by decide +kernel
theorem dX3_splash_69 : decode cX3_splash 69 = .ok (.iconst 1, 1) := by decide +kernel
theorem dX3_splash_70 : decode cX3_splash 70 = .ok (.iadd, 1) := by decide +kernel
theorem dX3_splash_71 : decode cX3_splash 71 = .ok (.iload 4, 2) := by decide +kernel
theorem dX3_splash_73 : decode cX3_splash 73 = .ok (.iload_n 2, 1) := by decide +kernel
theorem dX3_splash_74 : decode cX3_splash 74 = .ok (.isub, 1) := by decide +kernel
theorem dX3_splash_75 : decode cX3_splash 75 = .ok (.iconst 1, 1) := by decide +kernel
theorem dX3_splash_76 : decode cX3_splash 76 = .ok (.iadd, 1) := by decide +kernel
theorem dX3_splash_77 : decode cX3_splash 77 = .ok (.imul, 1) := by decide +kernel
theorem dX3_splash_78 : decode cX3_splash 78 = .ok (.ireturn, 1) := by decide +kernel
theorem dX3_swap_0 : decode cX3_swap 0 = .ok (.aload_n 0, 1) := by decide +kernel
theorem dX3_swap_1 : decode cX3_swap 1 = .ok (.iload_n 1, 1) := by decide +kernel
theorem dX3_swap_2 : decode cX3_swap 2 = .ok (.invokevirtual 74, 3) := by decide +kernel
theorem dX3_swap_5 : decode cX3_swap 5 = .ok (.aload_n 0, 1) := by decide +kernel
theorem dX3_swap_6 : decode cX3_swap 6 = .ok (.iload_n 2, 1) := by decide +kernel
theorem dX3_swap_7 : decode cX3_swap 7 = .ok (.invokevirtual 74, 3) := by decide +kernel
theorem dX3_swap_10 : decode cX3_swap 10 = .ok (.aload_n 0, 1) := by decide +kernel
theorem dX3_swap_11 : decode cX3_swap 11 = .ok (.invokevirtual 60, 3) := by decide +kernel
theorem dX3_swap_14 : decode cX3_swap 14 = .ok (.aload_n 0, 1) := by decide +kernel
theorem dX3_swap_15 : decode cX3_swap 15 = .ok (.getfield 12, 3) := by decide +kernel
theorem dX3_swap_18 : decode cX3_swap 18 = .ok (.getfield 77, 3) := by decide +kernel
theorem dX3_swap_21 : decode cX3_swap 21 = .ok (.aload_n 0, 1) := by decide +kernel
theorem dX3_swap_22 : decode cX3_swap 22 = .ok (.getfield 12, 3) := by decide +kernel
theorem dX3_swap_25 : decode cX3_swap 25 = .ok (.iload_n 1, 1) := by decide +kernel
theorem dX3_swap_26 : decode cX3_swap 26 = .ok (.iload_n 2, 1) := by decide +kernel
theorem dX3_swap_27 : decode cX3_swap 27 = .ok (.invokevirtual 80, 3) := by decide +kernel
theorem dX3_swap_30 : decode cX3_swap 30 = .ok (.isub, 1) := by decide +kernel
theorem dX3_swap_31 : decode cX3_swap 31 = .ok (.istore_n 3, 1) := by decide +kernel
theorem dX3_swap_32 : decode cX3_swap 32 = .ok (.iconst 0, 1) := by decide +kernel
theorem dX3_swap_33 : decode cX3_swap 33 = .ok (.istore 4, 2) := by decide +kernel
theorem dX3_swap_35 : decode cX3_swap 35 = .ok (.iload 4, 2) := by decide +kernel
theorem dX3_swap_37 : decode cX3_swap 37 = .ok (.aload_n 0, 1) := by decide +kernel
theorem dX3_swap_38 : decode cX3_swap 38 = .ok (.getfield 12, 3) := by decide +kernel
theorem dX3_swap_41 : decode cX3_swap 41 = .ok (.getfield 77, 3) := by decide +kernel
theorem dX3_swap_44 : decode cX3_swap 44 = .ok (.if_icmp .ge 36, 3) := by decide +kernel
theorem dX3_swap_47 : decode cX3_swap 47 = .ok (.aload_n 0, 1) := by decide +kernel
theorem dX3_swap_48 : decode cX3_swap 48 = .ok (.getfield 12, 3) := by decide +kernel
theorem dX3_swap_51 : decode cX3_swap 51 = .ok (.aload_n 0, 1) := by decide +kernel
theorem dX3_swap_52 : decode cX3_swap 52 = .ok (.getfield 12, 3) := by decide +kernel
theorem dX3_swap_55 : decode cX3_swap 55 = .ok (.iload_n 1, 1) := by decide +kernel
theorem dX3_swap_56 : decode cX3_swap 56 = .ok (.iload 4, 2) := by decide +kernel
theorem dX3_swap_58 : decode cX3_swap 58 = .ok (.invokevirtual 83, 3) := by decide +kernel
theorem dX3_swap_61 : decode cX3_swap 61 = .ok (.aload_n 0, 1) := by decide +kernel
theorem dX3_swap_62 : decode cX3_swap 62 = .ok (.getfield 12, 3) := by decide +kernel
theorem dX3_swap_65 : decode cX3_swap 65 = .ok (.iload_n 2, 1) := by decide +kernel
theorem dX3_swap_66 : decode cX3_swap 66 = .ok (.iload 4, 2) := by decide +kernel
theorem dX3_swap_68 : decode cX3_swap 68 = .ok (.invokevirtual 83, 3) := by decide +kernel
theorem dX3_swap_71 : decode cX3_swap 71 = .ok (.invokevirtual 86, 3) := by decide +kernel
theorem dX3_swap_74 : decode cX3_swap 74 = .ok (.iinc 4 1, 3) := by decide +kernel
theorem dX3_swap_77 : decode cX3_swap 77 = .ok (.goto (-42), 3) := by decide +kernel
theorem dX3_swap_80 : decode cX3_swap 80 = .ok (.iload_n 3, 1) := by decide +kernel
theorem dX3_swap_81 : decode cX3_swap 81 = .ok (.ireturn, 1) := by decide +kernel
theorem dX3_turn_0 : decode cX3_turn 0 = .ok (.aload_n 0, 1) := by decide +kernel
theorem dX3_turn_1 : decode cX3_turn 1 = .ok (.iload_n 1, 1) := by decide +kernel
theorem dX3_turn_2 : decode cX3_turn 2 = .ok (.invokevirtual 74, 3) := by decide +kernel
theorem dX3_turn_5 : decode cX3_turn 5 = .ok (.aload_n 0, 1) := by decide +kernel
theorem dX3_turn_6 : decode cX3_turn 6 = .ok (.invokevirtual 60, 3) := by decide +kernel
theorem dX3_turn_9 : decode cX3_turn 9 = .ok (.aload_n 0, 1) := by decide +kernel
theorem dX3_turn_10 : decode cX3_turn 10 = .ok (.getfield 12, 3) := by decide +kernel
theorem dX3_turn_13 : decode cX3_turn 13 = .ok (.iload_n 1, 1) := by decide +kernel
theorem dX3_turn_14 : decode cX3_turn 14 = .ok (.iconst 0, 1) := by decide +kernel
theorem dX3_turn_15 : decode cX3_turn 15 = .ok (.invokevirtual 83, 3) := by decide +kernel
theorem dX3_turn_18 : decode cX3_turn 18 = .ok (.istore_n 2, 1) := by decide +kernel
theorem dX3_turn_19 : decode cX3_turn 19 = .ok (.aload_n 0, 1) := by decide +kernel
theorem dX3_turn_20 : decode cX3_turn 20 = .ok (.getfield 12, 3) := by decide +kernel
theorem dX3_turn_23 : decode cX3_turn 23 = .ok (.iload_n 1, 1) := by decide +kernel
theorem dX3_turn_24 : decode cX3_turn 24 = .ok (.aload_n 0, 1) := by decide +kernel
theorem dX3_turn_25 : decode cX3_turn 25 = .ok (.getfield 12, 3) := by decide +kernel
theorem dX3_turn_28 : decode cX3_turn 28 = .ok (.getfield 77, 3) := by decide +kernel
theorem dX3_turn_31 : decode cX3_turn 31 = .ok (.iconst 1, 1) := by decide +kernel
theorem dX3_turn_32 : decode cX3_turn 32 = .ok (.isub, 1) := by decide +kernel
theorem dX3_turn_33 : decode cX3_turn 33 = .ok (.invokevirtual 83, 3) := by decide +kernel
theorem dX3_turn_36 : decode cX3_turn 36 = .ok (.istore_n 3, 1) := by decide +kernel
theorem dX3_turn_37 : decode cX3_turn 37 = .ok (.iload_n 2, 1) := by decide +kernel
theorem dX3_turn_38 : decode cX3_turn 38 = .ok (.iload_n 3, 1) := by decide +kernel
theorem dX3_turn_39 : decode cX3_turn 39 = .ok (.if_icmp .ge 21, 3) := by decide +kernel
theorem dX3_turn_42 : decode cX3_turn 42 = .ok (.aload_n 0, 1) := by decide +kernel
theorem dX3_turn_43 : decode cX3_turn 43 = .ok (.getfield 12, 3) := by decide +kernel
theorem dX3_turn_46 : decode cX3_turn 46 = .ok (.iload_n 2, 1) := by decide +kernel
theorem dX3_turn_47 : decode cX3_turn 47 = .ok (.iload_n 3, 1) := by decide +kernel
theorem dX3_turn_48 : decode cX3_turn 48 = .ok (.invokevirtual 86, 3) := by decide +kernel
theorem dX3_turn_51 : decode cX3_turn 51 = .ok (.iinc 2 1, 3) := by decide +kernel
theorem dX3_turn_54 : decode cX3_turn 54 = .ok (.iinc 3 (-1), 3) := by decide +kernel
theorem dX3_turn_57 : decode cX3_turn 57 = .ok (.goto (-20), 3) := by decide +kernel
theorem dX3_turn_60 : decode cX3_turn 60 = .ok (.aload_n 0, 1) := by decide +kernel
theorem dX3_turn_61 : decode cX3_turn 61 = .ok (.getfield 12, 3) := by decide +kernel
theorem dX3_turn_64 : decode cX3_turn 64 = .ok (.aload_n 0, 1) := by decide +kernel
theorem dX3_turn_65 : decode cX3_turn 65 = .ok (.getfield 24, 3) := by decide +kernel
theorem dX3_turn_68 : decode cX3_turn 68 = .ok (.aload_n 0, 1) := by decide +kernel
theorem dX3_turn_69 : decode cX3_turn 69 = .ok (.getfield 24, 3) := by decide +kernel
theorem dX3_turn_72 : decode cX3_turn 72 = .ok (.getfield 89, 3) := by decide +kernel
theorem dX3_turn_75 : decode cX3_turn 75 = .ok (.iconst 1, 1) := by decide +kernel
theorem dX3_turn_76 : decode cX3_turn 76 = .ok (.isub, 1) := by decide +kernel
theorem dX3_turn_77 : decode cX3_turn 77 = .ok (.invokevirtual 92, 3) := by decide +kernel
theorem dX3_turn_80 : decode cX3_turn 80 = .ok (.invokevirtual 96, 3) := by decide +kernel
theorem dX3_turn_83 : decode cX3_turn 83 = .ok (.ireturn, 1) := by decide +kernel
theorem dX3_bail_0 : decode cX3_bail 0 = .ok (.aload_n 0, 1) := by decide +kernel
theorem dX3_bail_1 : decode cX3_bail 1 = .ok (.iload_n 1, 1) := by decide +kernel
theorem dX3_bail_2 : decode cX3_bail 2 = .ok (.invokevirtual 74, 3) := by decide +kernel
theorem dX3_bail_5 : decode cX3_bail 5 = .ok (.iload_n 2, 1) := by decide +kernel
theorem dX3_bail_6 : decode cX3_bail 6 = .ok (.iconst 1, 1) := by decide +kernel
theorem dX3_bail_7 : decode cX3_bail 7 = .ok (.sipush 999, 3) := by decide +kernel
theorem dX3_bail_10 : decode cX3_bail 10 = .ok (.invokestatic 46, 3) := by decide +kernel
theorem dX3_bail_13 : decode cX3_bail 13 = .ok (.aload_n 0, 1) := by decide +kernel
theorem dX3_bail_14 : decode cX3_bail 14 = .ok (.invokevirtual 60, 3) := by decide +kernel
theorem dX3_bail_17 : decode cX3_bail 17 = .ok (.iconst 0, 1) := by decide +kernel
theorem dX3_bail_18 : decode cX3_bail 18 = .ok (.istore_n 3, 1) := by decide +kernel
theorem dX3_bail_19 : decode cX3_bail 19 = .ok (.iconst 0, 1) := by decide +kernel
theorem dX3_bail_20 : decode cX3_bail 20 = .ok (.istore 4, 2) := by decide +kernel
theorem dX3_bail_22 : decode cX3_bail 22 = .ok (.iload 4, 2) := by decide +kernel
theorem dX3_bail_24 : decode cX3_bail 24 = .ok (.aload_n 0, 1) := by decide +kernel
theorem dX3_bail_25 : decode cX3_bail 25 = .ok (.getfield 12, 3) := by decide +kernel
theorem dX3_bail_28 : decode cX3_bail 28 = .ok (.getfield 77, 3) := by decide +kernel
theorem dX3_bail_31 : decode cX3_bail 31 = .ok (.if_icmp .ge 53, 3) := by decide +kernel
theorem dX3_bail_34 : decode cX3_bail 34 = .ok (.iconst 0, 1) := by decide +kernel
theorem dX3_bail_35 : decode cX3_bail 35 = .ok (.aload_n 0, 1) := by decide +kernel
theorem dX3_bail_36 : decode cX3_bail 36 = .ok (.getfield 12, 3) := by decide +kernel
theorem dX3_bail_39 : decode cX3_bail 39 = .ok (.iload_n 1, 1) := by decide +kernel
theorem dX3_bail_40 : decode cX3_bail 40 = .ok (.iload 4, 2) := by decide +kernel
theorem dX3_bail_42 : decode cX3_bail 42 = .ok (.invokevirtual 66, 3) := by decide +kernel
theorem dX3_bail_45 : decode cX3_bail 45 = .ok (.invokestatic 100, 3) := by decide +kernel
theorem dX3_bail_48 : decode cX3_bail 48 = .ok (.istore 5, 2) := by decide +kernel
theorem dX3_bail_50 : decode cX3_bail 50 = .ok (.iload 5, 2) := by decide +kernel
theorem dX3_bail_52 : decode cX3_bail 52 = .ok (.iload_n 2, 1) := by decide +kernel
theorem dX3_bail_53 : decode cX3_bail 53 = .ok (.iload_n 3, 1) := by decide +kernel
theorem dX3_bail_54 : decode cX3_bail 54 = .ok (.isub, 1) := by decide +kernel
theorem dX3_bail_55 : decode cX3_bail 55 = .ok (.invokestatic 105, 3) := by decide +kernel
theorem dX3_bail_58 : decode cX3_bail 58 = .ok (.istore 6, 2) := by decide +kernel
theorem dX3_bail_60 : decode cX3_bail 60 = .ok (.aload_n 0, 1) := by decide +kernel
theorem dX3_bail_61 : decode cX3_bail 61 = .ok (.getfield 12, 3) := by decide +kernel
theorem dX3_bail_64 : decode cX3_bail 64 = .ok (.iload_n 1, 1) := by decide +kernel
theorem dX3_bail_65 : decode cX3_bail 65 = .ok (.iload 4, 2) := by decide +kernel
theorem dX3_bail_67 : decode cX3_bail 67 = .ok (.iload 6, 2) := by decide +kernel
theorem dX3_bail_69 : decode cX3_bail 69 = .ok (.ineg, 1) := by decide +kernel
theorem dX3_bail_70 : decode cX3_bail 70 = .ok (.invokevirtual 63, 3) := by decide +kernel
theorem dX3_bail_73 : decode cX3_bail 73 = .ok (.iload_n 3, 1) := by decide +kernel
theorem dX3_bail_74 : decode cX3_bail 74 = .ok (.iload 6, 2) := by decide +kernel
theorem dX3_bail_76 : decode cX3_bail 76 = .ok (.iadd, 1) := by decide +kernel
theorem dX3_bail_77 : decode cX3_bail 77 = .ok (.istore_n 3, 1) := by decide +kernel
theorem dX3_bail_78 : decode cX3_bail 78 = .ok (.iinc 4 1, 3) := by decide +kernel
theorem dX3_bail_81 : decode cX3_bail 81 = .ok (.goto (-59), 3) := by decide +kernel
theorem dX3_bail_84 : decode cX3_bail 84 = .ok (.iload_n 3, 1) := by decide +kernel
theorem dX3_bail_85 : decode cX3_bail 85 = .ok (.ireturn, 1) := by decide +kernel
theorem dX3_passHours_0 : decode cX3_passHours 0 = .ok (.iload_n 1, 1) := by decide +kernel
theorem dX3_passHours_1 : decode cX3_passHours 1 = .ok (.iconst 1, 1) := by decide +kernel
theorem dX3_passHours_2 : decode cX3_passHours 2 = .ok (.bipush 40, 2) := by decide +kernel
theorem dX3_passHours_4 : decode cX3_passHours 4 = .ok (.invokestatic 46, 3) := by decide +kernel
theorem dX3_passHours_7 : decode cX3_passHours 7 = .ok (.aload_n 0, 1) := by decide +kernel
theorem dX3_passHours_8 : decode cX3_passHours 8 = .ok (.invokevirtual 60, 3) := by decide +kernel
theorem dX3_passHours_11 : decode cX3_passHours 11 = .ok (.aload_n 0, 1) := by decide +kernel
theorem dX3_passHours_12 : decode cX3_passHours 12 = .ok (.getfield 12, 3) := by decide +kernel
theorem dX3_passHours_15 : decode cX3_passHours 15 = .ok (.iload_n 1, 1) := by decide +kernel
theorem dX3_passHours_16 : decode cX3_passHours 16 = .ok (.invokevirtual 108, 3) := by decide +kernel
theorem dX3_passHours_19 : decode cX3_passHours 19 = .ok (.istore_n 2, 1) := by decide +kernel
theorem dX3_passHours_20 : decode cX3_passHours 20 = .ok (.aload_n 0, 1) := by decide +kernel
theorem dX3_passHours_21 : decode cX3_passHours 21 = .ok (.dup, 1) := by decide +kernel
theorem dX3_passHours_22 : decode cX3_passHours 22 = .ok (.getfield 112, 3) := by decide +kernel
theorem dX3_passHours_25 : decode cX3_passHours 25 = .ok (.iload_n 1, 1) := by decide +kernel
theorem dX3_passHours_26 : decode cX3_passHours 26 = .ok (.iadd, 1) := by decide +kernel
theorem dX3_passHours_27 : decode cX3_passHours 27 = .ok (.putfield 112, 3) := by decide +kernel
theorem dX3_passHours_30 : decode cX3_passHours 30 = .ok (.aload_n 0, 1) := by decide +kernel
theorem dX3_passHours_31 : decode cX3_passHours 31 = .ok (.dup, 1) := by decide +kernel
theorem dX3_passHours_32 : decode cX3_passHours 32 = .ok (.getfield 115, 3) := by decide +kernel
theorem dX3_passHours_35 : decode cX3_passHours 35 = .ok (.iload_n 2, 1) := by decide +kernel
theorem dX3_passHours_36 : decode cX3_passHours 36 = .ok (.i2l, 1) := by decide +kernel
theorem dX3_passHours_37 : decode cX3_passHours 37 = .ok (.ladd, 1) := by decide +kernel
theorem dX3_passHours_38 : decode cX3_passHours 38 = .ok (.putfield 115, 3) := by decide +kernel
theorem dX3_passHours_41 : decode cX3_passHours 41 = .ok (.iload_n 2, 1) := by decide +kernel
theorem dX3_passHours_42 : decode cX3_passHours 42 = .ok (.ireturn, 1) := by decide +kernel
theorem dX3_mark_0 : decode cX3_mark 0 = .ok (.aload_n 0, 1) := by decide +kernel
theorem dX3_mark_1 : decode cX3_mark 1 = .ok (.getfield 28, 3) := by decide +kernel
theorem dX3_mark_4 : decode cX3_mark 4 = .ok (.getfield 89, 3) := by decide +kernel
theorem dX3_mark_7 : decode cX3_mark 7 = .ok (.bipush 12, 2) := by decide +kernel
theorem dX3_mark_9 : decode cX3_mark 9 = .ok (.if_icmp .lt 13, 3) := by decide +kernel
theorem dX3_mark_12 : decode cX3_mark 12 = .ok (.new 119, 3) := by decide +kernel
theorem dX3_mark_15 : decode cX3_mark 15 = .ok (.dup, 1) := by decide +kernel
theorem dX3_mark_16 : decode cX3_mark 16 = .ok (.ldc 121, 2) := by decide +kernel
theorem dX3_mark_18 : decode cX3_mark 18 = .ok (.invokespecial 123, 3) := by decide +kernel
theorem dX3_mark_21 : decode cX3_mark 21 = .ok (.athrow, 1) := by decide +kernel
theorem dX3_mark_22 : decode cX3_mark 22 = .ok (.aload_n 0, 1) := by decide +kernel
theorem dX3_mark_23 : decode cX3_mark 23 = .ok (.getfield 28, 3) := by decide +kernel
theorem dX3_mark_26 : decode cX3_mark 26 = .ok (.aload_n 0, 1) := by decide +kernel
theorem dX3_mark_27 : decode cX3_mark 27 = .ok (.getfield 12, 3) := by decide +kernel
theorem dX3_mark_30 : decode cX3_mark 30 = .ok (.invokevirtual 126, 3) := by decide +kernel
theorem dX3_mark_33 : decode cX3_mark 33 = .ok (.aload_n 0, 1) := by decide +kernel
theorem dX3_mark_34 : decode cX3_mark 34 = .ok (.getfield 28, 3) := by decide +kernel
theorem dX3_mark_37 : decode cX3_mark 37 = .ok (.getfield 89, 3) := by decide +kernel
theorem dX3_mark_40 : decode cX3_mark 40 = .ok (.iconst 1, 1) := by decide +kernel
theorem dX3_mark_41 : decode cX3_mark 41 = .ok (.isub, 1) := by decide +kernel
theorem dX3_mark_42 : decode cX3_mark 42 = .ok (.ireturn, 1) := by decide +kernel
theorem dX3_back_0 : decode cX3_back 0 = .ok (.aload_n 0, 1) := by decide +kernel
theorem dX3_back_1 : decode cX3_back 1 = .ok (.iload_n 1, 1) := by decide +kernel
theorem dX3_back_2 : decode cX3_back 2 = .ok (.invokevirtual 130, 3) := by decide +kernel
theorem dX3_back_5 : decode cX3_back 5 = .ok (.aload_n 0, 1) := by decide +kernel
theorem dX3_back_6 : decode cX3_back 6 = .ok (.invokevirtual 60, 3) := by decide +kernel
theorem dX3_back_9 : decode cX3_back 9 = .ok (.aload_n 0, 1) := by decide +kernel
theorem dX3_back_10 : decode cX3_back 10 = .ok (.getfield 12, 3) := by decide +kernel
theorem dX3_back_13 : decode cX3_back 13 = .ok (.aload_n 0, 1) := by decide +kernel
theorem dX3_back_14 : decode cX3_back 14 = .ok (.getfield 28, 3) := by decide +kernel
theorem dX3_back_17 : decode cX3_back 17 = .ok (.iload_n 1, 1) := by decide +kernel
theorem dX3_back_18 : decode cX3_back 18 = .ok (.invokevirtual 92, 3) := by decide +kernel
theorem dX3_back_21 : decode cX3_back 21 = .ok (.invokevirtual 133, 3) := by decide +kernel
theorem dX3_back_24 : decode cX3_back 24 = .ok (.ireturn, 1) := by decide +kernel
theorem dX3_undo_0 : decode cX3_undo 0 = .ok (.aload_n 0, 1) := by decide +kernel
theorem dX3_undo_1 : decode cX3_undo 1 = .ok (.getfield 24, 3) := by decide +kernel
theorem dX3_undo_4 : decode cX3_undo 4 = .ok (.getfield 89, 3) := by decide +kernel
theorem dX3_undo_7 : decode cX3_undo 7 = .ok (.iconst 1, 1) := by decide +kernel
theorem dX3_undo_8 : decode cX3_undo 8 = .ok (.if_icmp .ge 13, 3) := by decide +kernel
theorem dX3_undo_11 : decode cX3_undo 11 = .ok (.new 119, 3) := by decide +kernel
theorem dX3_undo_14 : decode cX3_undo 14 = .ok (.dup, 1) := by decide +kernel
theorem dX3_undo_15 : decode cX3_undo 15 = .ok (.ldc 136, 2) := by decide +kernel
theorem dX3_undo_17 : decode cX3_undo 17 = .ok (.invokespecial 123, 3) := by decide +kernel
theorem dX3_undo_20 : decode cX3_undo 20 = .ok (.athrow, 1) := by decide +kernel
theorem dX3_undo_21 : decode cX3_undo 21 = .ok (.aload_n 0, 1) := by decide +kernel
theorem dX3_undo_22 : decode cX3_undo 22 = .ok (.getfield 12, 3) := by decide +kernel
theorem dX3_undo_25 : decode cX3_undo 25 = .ok (.aload_n 0, 1) := by decide +kernel
theorem dX3_undo_26 : decode cX3_undo 26 = .ok (.getfield 24, 3) := by decide +kernel
theorem dX3_undo_29 : decode cX3_undo 29 = .ok (.aload_n 0, 1) := by decide +kernel
theorem dX3_undo_30 : decode cX3_undo 30 = .ok (.getfield 24, 3) := by decide +kernel
theorem dX3_undo_33 : decode cX3_undo 33 = .ok (.getfield 89, 3) := by decide +kernel
theorem dX3_undo_36 : decode cX3_undo 36 = .ok (.iconst 1, 1) := by decide +kernel
theorem dX3_undo_37 : decode cX3_undo 37 = .ok (.isub, 1) := by decide +kernel
theorem dX3_undo_38 : decode cX3_undo 38 = .ok (.invokevirtual 92, 3) := by decide +kernel
theorem dX3_undo_41 : decode cX3_undo 41 = .ok (.invokevirtual 133, 3) := by decide +kernel
theorem dX3_undo_44 : decode cX3_undo 44 = .ok (.istore_n 1, 1) := by decide +kernel
theorem dX3_undo_45 : decode cX3_undo 45 = .ok (.aload_n 0, 1) := by decide +kernel
theorem dX3_undo_46 : decode cX3_undo 46 = .ok (.getfield 24, 3) := by decide +kernel
theorem dX3_undo_49 : decode cX3_undo 49 = .ok (.invokevirtual 138, 3) := by decide +kernel
theorem dX3_undo_52 : decode cX3_undo 52 = .ok (.iload_n 1, 1) := by decide +kernel
theorem dX3_undo_53 : decode cX3_undo 53 = .ok (.ireturn, 1) := by decide +kernel
theorem dX3_setSun_0 : decode cX3_setSun 0 = .ok (.iload_n 1, 1) := by decide +kernel
theorem dX3_setSun_1 : decode cX3_setSun 1 = .ok (.iconst 0, 1) := by decide +kernel
theorem dX3_setSun_2 : decode cX3_setSun 2 = .ok (.bipush 9, 2) := by decide +kernel
theorem dX3_setSun_4 : decode cX3_setSun 4 = .ok (.invokestatic 46, 3) := by decide +kernel
theorem dX3_setSun_7 : decode cX3_setSun 7 = .ok (.aload_n 0, 1) := by decide +kernel
theorem dX3_setSun_8 : decode cX3_setSun 8 = .ok (.getfield 12, 3) := by decide +kernel
theorem dX3_setSun_11 : decode cX3_setSun 11 = .ok (.getfield 38, 3) := by decide +kernel
theorem dX3_setSun_14 : decode cX3_setSun 14 = .ok (.istore_n 2, 1) := by decide +kernel
theorem dX3_setSun_15 : decode cX3_setSun 15 = .ok (.aload_n 0, 1) := by decide +kernel
theorem dX3_setSun_16 : decode cX3_setSun 16 = .ok (.getfield 12, 3) := by decide +kernel
theorem dX3_setSun_19 : decode cX3_setSun 19 = .ok (.iload_n 1, 1) := by decide +kernel
theorem dX3_setSun_20 : decode cX3_setSun 20 = .ok (.putfield 38, 3) := by decide +kernel
theorem dX3_setSun_23 : decode cX3_setSun 23 = .ok (.iload_n 2, 1) := by decide +kernel
theorem dX3_setSun_24 : decode cX3_setSun 24 = .ok (.ireturn, 1) := by decide +kernel
theorem dX3_setEdge_0 : decode cX3_setEdge 0 = .ok (.aload_n 0, 1) := by decide +kernel
theorem dX3_setEdge_1 : decode cX3_setEdge 1 = .ok (.iload_n 1, 1) := by decide +kernel
theorem dX3_setEdge_2 : decode cX3_setEdge 2 = .ok (.invokevirtual 141, 3) := by decide +kernel
theorem dX3_setEdge_5 : decode cX3_setEdge 5 = .ok (.iload_n 2, 1) := by decide +kernel
theorem dX3_setEdge_6 : decode cX3_setEdge 6 = .ok (.iconst 0, 1) := by decide +kernel
theorem dX3_setEdge_7 : decode cX3_setEdge 7 = .ok (.sipush 999, 3) := by decide +kernel
theorem dX3_setEdge_10 : decode cX3_setEdge 10 = .ok (.invokestatic 46, 3) := by decide +kernel
theorem dX3_setEdge_13 : decode cX3_setEdge 13 = .ok (.aload_n 0, 1) := by decide +kernel
theorem dX3_setEdge_14 : decode cX3_setEdge 14 = .ok (.getfield 12, 3) := by decide +kernel
theorem dX3_setEdge_17 : decode cX3_setEdge 17 = .ok (.getfield 144, 3) := by decide +kernel
theorem dX3_setEdge_20 : decode cX3_setEdge 20 = .ok (.iload_n 1, 1) := by decide +kernel
theorem dX3_setEdge_21 : decode cX3_setEdge 21 = .ok (.iaload, 1) := by decide +kernel
theorem dX3_setEdge_22 : decode cX3_setEdge 22 = .ok (.istore_n 3, 1) := by decide +kernel
theorem dX3_setEdge_23 : decode cX3_setEdge 23 = .ok (.aload_n 0, 1) := by decide +kernel
theorem dX3_setEdge_24 : decode cX3_setEdge 24 = .ok (.getfield 12, 3) := by decide +kernel
theorem dX3_setEdge_27 : decode cX3_setEdge 27 = .ok (.getfield 144, 3) := by decide +kernel
theorem dX3_setEdge_30 : decode cX3_setEdge 30 = .ok (.iload_n 1, 1) := by decide +kernel
theorem dX3_setEdge_31 : decode cX3_setEdge 31 = .ok (.iload_n 2, 1) := by decide +kernel
theorem dX3_setEdge_32 : decode cX3_setEdge 32 = .ok (.iastore, 1) := by decide +kernel
theorem dX3_setEdge_33 : decode cX3_setEdge 33 = .ok (.iload_n 3, 1) := by decide +kernel
theorem dX3_setEdge_34 : decode cX3_setEdge 34 = .ok (.ireturn, 1) := by decide +kernel
theorem dX3_flights_0 : decode cX3_flights 0 = .ok (.aload_n 0, 1) := by decide +kernel
theorem dX3_flights_1 : decode cX3_flights 1 = .ok (.getfield 12, 3) := by decide +kernel
theorem dX3_flights_4 : decode cX3_flights 4 = .ok (.getfield 148, 3) := by decide +kernel
theorem dX3_flights_7 : decode cX3_flights 7 = .ok (.ireturn, 1) := by decide +kernel
theorem dX3_steps_0 : decode cX3_steps 0 = .ok (.aload_n 0, 1) := by decide +kernel
theorem dX3_steps_1 : decode cX3_steps 1 = .ok (.getfield 12, 3) := by decide +kernel
theorem dX3_steps_4 : decode cX3_steps 4 = .ok (.getfield 77, 3) := by decide +kernel
theorem dX3_steps_7 : decode cX3_steps 7 = .ok (.ireturn, 1) := by decide +kernel
theorem dX3_hours_0 : decode cX3_hours 0 = .ok (.aload_n 0, 1) := by decide +kernel
theorem dX3_hours_1 : decode cX3_hours 1 = .ok (.getfield 112, 3) := by decide +kernel
theorem dX3_hours_4 : decode cX3_hours 4 = .ok (.ireturn, 1) := by decide +kernel
theorem dX3_sun_0 : decode cX3_sun 0 = .ok (.aload_n 0, 1) := by decide +kernel
theorem dX3_sun_1 : decode cX3_sun 1 = .ok (.getfield 12, 3) := by decide +kernel
theorem dX3_sun_4 : decode cX3_sun 4 = .ok (.getfield 38, 3) := by decide +kernel
theorem dX3_sun_7 : decode cX3_sun 7 = .ok (.ireturn, 1) := by decide +kernel
theorem dX3_edgeOf_0 : decode cX3_edgeOf 0 = .ok (.aload_n 0, 1) := by decide +kernel
theorem dX3_edgeOf_1 : decode cX3_edgeOf 1 = .ok (.iload_n 1, 1) := by decide +kernel
theorem dX3_edgeOf_2 : decode cX3_edgeOf 2 = .ok (.invokevirtual 141, 3) := by decide +kernel
theorem dX3_edgeOf_5 : decode cX3_edgeOf 5 = .ok (.aload_n 0, 1) := by decide +kernel
theorem dX3_edgeOf_6 : decode cX3_edgeOf 6 = .ok (.getfield 12, 3) := by decide +kernel
theorem dX3_edgeOf_9 : decode cX3_edgeOf 9 = .ok (.getfield 144, 3) := by decide +kernel
theorem dX3_edgeOf_12 : decode cX3_edgeOf 12 = .ok (.iload_n 1, 1) := by decide +kernel
theorem dX3_edgeOf_13 : decode cX3_edgeOf 13 = .ok (.iaload, 1) := by decide +kernel
theorem dX3_edgeOf_14 : decode cX3_edgeOf 14 = .ok (.ireturn, 1) := by decide +kernel
theorem dX3_marks_0 : decode cX3_marks 0 = .ok (.aload_n 0, 1) := by decide +kernel
theorem dX3_marks_1 : decode cX3_marks 1 = .ok (.getfield 28, 3) := by decide +kernel
theorem dX3_marks_4 : decode cX3_marks 4 = .ok (.getfield 89, 3) := by decide +kernel
theorem dX3_marks_7 : decode cX3_marks 7 = .ok (.ireturn, 1) := by decide +kernel
theorem dX3_deeds_0 : decode cX3_deeds 0 = .ok (.aload_n 0, 1) := by decide +kernel
theorem dX3_deeds_1 : decode cX3_deeds 1 = .ok (.getfield 24, 3) := by decide +kernel
theorem dX3_deeds_4 : decode cX3_deeds 4 = .ok (.getfield 89, 3) := by decide +kernel
theorem dX3_deeds_7 : decode cX3_deeds 7 = .ok (.ireturn, 1) := by decide +kernel
theorem dX3_gone_0 : decode cX3_gone 0 = .ok (.aload_n 0, 1) := by decide +kernel
theorem dX3_gone_1 : decode cX3_gone 1 = .ok (.getfield 115, 3) := by decide +kernel
theorem dX3_gone_4 : decode cX3_gone 4 = .ok (.lreturn, 1) := by decide +kernel
theorem dX3_levelAt_0 : decode cX3_levelAt 0 = .ok (.aload_n 0, 1) := by decide +kernel
theorem dX3_levelAt_1 : decode cX3_levelAt 1 = .ok (.iload_n 1, 1) := by decide +kernel
theorem dX3_levelAt_2 : decode cX3_levelAt 2 = .ok (.iload_n 2, 1) := by decide +kernel
theorem dX3_levelAt_3 : decode cX3_levelAt 3 = .ok (.invokevirtual 57, 3) := by decide +kernel
theorem dX3_levelAt_6 : decode cX3_levelAt 6 = .ok (.aload_n 0, 1) := by decide +kernel
theorem dX3_levelAt_7 : decode cX3_levelAt 7 = .ok (.getfield 12, 3) := by decide +kernel
theorem dX3_levelAt_10 : decode cX3_levelAt 10 = .ok (.iload_n 1, 1) := by decide +kernel
theorem dX3_levelAt_11 : decode cX3_levelAt 11 = .ok (.iload_n 2, 1) := by decide +kernel
theorem dX3_levelAt_12 : decode cX3_levelAt 12 = .ok (.invokevirtual 66, 3) := by decide +kernel
theorem dX3_levelAt_15 : decode cX3_levelAt 15 = .ok (.ireturn, 1) := by decide +kernel
theorem dX3_sumOf_0 : decode cX3_sumOf 0 = .ok (.aload_n 0, 1) := by decide +kernel
theorem dX3_sumOf_1 : decode cX3_sumOf 1 = .ok (.iload_n 1, 1) := by decide +kernel
theorem dX3_sumOf_2 : decode cX3_sumOf 2 = .ok (.iload_n 2, 1) := by decide +kernel
theorem dX3_sumOf_3 : decode cX3_sumOf 3 = .ok (.iload_n 3, 1) := by decide +kernel
theorem dX3_sumOf_4 : decode cX3_sumOf 4 = .ok (.iload 4, 2) := by decide +kernel
theorem dX3_sumOf_6 : decode cX3_sumOf 6 = .ok (.invokevirtual 70, 3) := by decide +kernel
theorem dX3_sumOf_9 : decode cX3_sumOf 9 = .ok (.aload_n 0, 1) := by decide +kernel
theorem dX3_sumOf_10 : decode cX3_sumOf 10 = .ok (.getfield 12, 3) := by decide +kernel
theorem dX3_sumOf_13 : decode cX3_sumOf 13 = .ok (.iload_n 1, 1) := by decide +kernel
theorem dX3_sumOf_14 : decode cX3_sumOf 14 = .ok (.iload_n 2, 1) := by decide +kernel
theorem dX3_sumOf_15 : decode cX3_sumOf 15 = .ok (.iload_n 3, 1) := by decide +kernel
theorem dX3_sumOf_16 : decode cX3_sumOf 16 = .ok (.iload 4, 2) := by decide +kernel
theorem dX3_sumOf_18 : decode cX3_sumOf 18 = .ok (.invokevirtual 151, 3) := by decide +kernel
theorem dX3_sumOf_21 : decode cX3_sumOf 21 = .ok (.lreturn, 1) := by decide +kernel
theorem dX3_sumTo_0 : decode cX3_sumTo 0 = .ok (.aload_n 0, 1) := by decide +kernel
theorem dX3_sumTo_1 : decode cX3_sumTo 1 = .ok (.iload_n 1, 1) := by decide +kernel
theorem dX3_sumTo_2 : decode cX3_sumTo 2 = .ok (.iload_n 2, 1) := by decide +kernel
theorem dX3_sumTo_3 : decode cX3_sumTo 3 = .ok (.invokevirtual 57, 3) := by decide +kernel
theorem dX3_sumTo_6 : decode cX3_sumTo 6 = .ok (.aload_n 0, 1) := by decide +kernel
theorem dX3_sumTo_7 : decode cX3_sumTo 7 = .ok (.getfield 12, 3) := by decide +kernel
theorem dX3_sumTo_10 : decode cX3_sumTo 10 = .ok (.iconst 0, 1) := by decide +kernel
theorem dX3_sumTo_11 : decode cX3_sumTo 11 = .ok (.iconst 0, 1) := by decide +kernel
theorem dX3_sumTo_12 : decode cX3_sumTo 12 = .ok (.iload_n 1, 1) := by decide +kernel
theorem dX3_sumTo_13 : decode cX3_sumTo 13 = .ok (.iload_n 2, 1) := by decide +kernel
theorem dX3_sumTo_14 : decode cX3_sumTo 14 = .ok (.invokevirtual 151, 3) := by decide +kernel
theorem dX3_sumTo_17 : decode cX3_sumTo 17 = .ok (.lreturn, 1) := by decide +kernel
theorem dX3_flightSum_0 : decode cX3_flightSum 0 = .ok (.aload_n 0, 1) := by decide +kernel
theorem dX3_flightSum_1 : decode cX3_flightSum 1 = .ok (.iload_n 1, 1) := by decide +kernel
theorem dX3_flightSum_2 : decode cX3_flightSum 2 = .ok (.invokevirtual 74, 3) := by decide +kernel
theorem dX3_flightSum_5 : decode cX3_flightSum 5 = .ok (.aload_n 0, 1) := by decide +kernel
theorem dX3_flightSum_6 : decode cX3_flightSum 6 = .ok (.getfield 12, 3) := by decide +kernel
theorem dX3_flightSum_9 : decode cX3_flightSum 9 = .ok (.iload_n 1, 1) := by decide +kernel
theorem dX3_flightSum_10 : decode cX3_flightSum 10 = .ok (.iconst 0, 1) := by decide +kernel
theorem dX3_flightSum_11 : decode cX3_flightSum 11 = .ok (.iload_n 1, 1) := by decide +kernel
theorem dX3_flightSum_12 : decode cX3_flightSum 12 = .ok (.aload_n 0, 1) := by decide +kernel
theorem dX3_flightSum_13 : decode cX3_flightSum 13 = .ok (.getfield 12, 3) := by decide +kernel
theorem dX3_flightSum_16 : decode cX3_flightSum 16 = .ok (.getfield 77, 3) := by decide +kernel
theorem dX3_flightSum_19 : decode cX3_flightSum 19 = .ok (.iconst 1, 1) := by decide +kernel
theorem dX3_flightSum_20 : decode cX3_flightSum 20 = .ok (.isub, 1) := by decide +kernel
theorem dX3_flightSum_21 : decode cX3_flightSum 21 = .ok (.invokevirtual 151, 3) := by decide +kernel
theorem dX3_flightSum_24 : decode cX3_flightSum 24 = .ok (.lreturn, 1) := by decide +kernel
theorem dX3_stepSum_0 : decode cX3_stepSum 0 = .ok (.aload_n 0, 1) := by decide +kernel
theorem dX3_stepSum_1 : decode cX3_stepSum 1 = .ok (.iload_n 1, 1) := by decide +kernel
theorem dX3_stepSum_2 : decode cX3_stepSum 2 = .ok (.invokevirtual 141, 3) := by decide +kernel
theorem dX3_stepSum_5 : decode cX3_stepSum 5 = .ok (.aload_n 0, 1) := by decide +kernel
theorem dX3_stepSum_6 : decode cX3_stepSum 6 = .ok (.getfield 12, 3) := by decide +kernel
theorem dX3_stepSum_9 : decode cX3_stepSum 9 = .ok (.iconst 0, 1) := by decide +kernel
theorem dX3_stepSum_10 : decode cX3_stepSum 10 = .ok (.iload_n 1, 1) := by decide +kernel
theorem dX3_stepSum_11 : decode cX3_stepSum 11 = .ok (.aload_n 0, 1) := by decide +kernel
theorem dX3_stepSum_12 : decode cX3_stepSum 12 = .ok (.getfield 12, 3) := by decide +kernel
theorem dX3_stepSum_15 : decode cX3_stepSum 15 = .ok (.getfield 148, 3) := by decide +kernel
theorem dX3_stepSum_18 : decode cX3_stepSum 18 = .ok (.iconst 1, 1) := by decide +kernel
theorem dX3_stepSum_19 : decode cX3_stepSum 19 = .ok (.isub, 1) := by decide +kernel
theorem dX3_stepSum_20 : decode cX3_stepSum 20 = .ok (.iload_n 1, 1) := by decide +kernel
theorem dX3_stepSum_21 : decode cX3_stepSum 21 = .ok (.invokevirtual 151, 3) := by decide +kernel
theorem dX3_stepSum_24 : decode cX3_stepSum 24 = .ok (.lreturn, 1) := by decide +kernel
theorem dX3_total_0 : decode cX3_total 0 = .ok (.aload_n 0, 1) := by decide +kernel
theorem dX3_total_1 : decode cX3_total 1 = .ok (.getfield 12, 3) := by decide +kernel
theorem dX3_total_4 : decode cX3_total 4 = .ok (.invokevirtual 155, 3) := by decide +kernel
theorem dX3_total_7 : decode cX3_total 7 = .ok (.lreturn, 1) := by decide +kernel
theorem dX3_firstReaching_0 : decode cX3_firstReaching 0 = .ok (.aload_n 0, 1) := by decide +kernel
theorem dX3_firstReaching_1 : decode cX3_firstReaching 1 = .ok (.iload_n 1, 1) := by decide +kernel
theorem dX3_firstReaching_2 : decode cX3_firstReaching 2 = .ok (.invokevirtual 74, 3) := by decide +kernel
theorem dX3_firstReaching_5 : decode cX3_firstReaching 5 = .ok (.lconst 0, 1) := by decide +kernel
theorem dX3_firstReaching_6 : decode cX3_firstReaching 6 = .ok (.lstore_n 3, 1) := by decide +kernel
theorem dX3_firstReaching_7 : decode cX3_firstReaching 7 = .ok (.iconst 0, 1) := by decide +kernel
theorem dX3_firstReaching_8 : decode cX3_firstReaching 8 = .ok (.istore 5, 2) := by decide +kernel
theorem dX3_firstReaching_10 : decode cX3_firstReaching 10 = .ok (.iload 5, 2) := by decide +kernel
theorem dX3_firstReaching_12 : decode cX3_firstReaching 12 = .ok (.aload_n 0, 1) := by decide +kernel
theorem dX3_firstReaching_13 : decode cX3_firstReaching 13 = .ok (.getfield 12, 3) := by decide +kernel
theorem dX3_firstReaching_16 : decode cX3_firstReaching 16 = .ok (.getfield 77, 3) := by decide +kernel
theorem dX3_firstReaching_19 : decode cX3_firstReaching 19 = .ok (.if_icmp .ge 33, 3) := by decide +kernel
theorem dX3_firstReaching_22 : decode cX3_firstReaching 22 = .ok (.lload_n 3, 1) := by decide +kernel
theorem dX3_firstReaching_23 : decode cX3_firstReaching 23 = .ok (.aload_n 0, 1) := by decide +kernel
theorem dX3_firstReaching_24 : decode cX3_firstReaching 24 = .ok (.getfield 12, 3) := by decide +kernel
theorem dX3_firstReaching_27 : decode cX3_firstReaching 27 = .ok (.iload_n 1, 1) := by decide +kernel
theorem dX3_firstReaching_28 : decode cX3_firstReaching 28 = .ok (.iload 5, 2) := by decide +kernel
theorem dX3_firstReaching_30 : decode cX3_firstReaching 30 = .ok (.invokevirtual 66, 3) := by decide +kernel
theorem dX3_firstReaching_33 : decode cX3_firstReaching 33 = .ok (.i2l, 1) := by decide +kernel
theorem dX3_firstReaching_34 : decode cX3_firstReaching 34 = .ok (.ladd, 1) := by decide +kernel
theorem dX3_firstReaching_35 : decode cX3_firstReaching 35 = .ok (.lstore_n 3, 1) := by decide +kernel
theorem dX3_firstReaching_36 : decode cX3_firstReaching 36 = .ok (.lload_n 3, 1) := by decide +kernel
theorem dX3_firstReaching_37 : decode cX3_firstReaching 37 = .ok (.iload_n 2, 1) := by decide +kernel
theorem dX3_firstReaching_38 : decode cX3_firstReaching 38 = .ok (.i2l, 1) := by decide +kernel
theorem dX3_firstReaching_39 : decode cX3_firstReaching 39 = .ok (.lcmp, 1) := by decide +kernel
theorem dX3_firstReaching_40 : decode cX3_firstReaching 40 = .ok (.ifCond .lt 6, 3) := by decide +kernel
theorem dX3_firstReaching_43 : decode cX3_firstReaching 43 = .ok (.iload 5, 2) := by decide +kernel
theorem dX3_firstReaching_45 : decode cX3_firstReaching 45 = .ok (.ireturn, 1) := by decide +kernel
theorem dX3_firstReaching_46 : decode cX3_firstReaching 46 = .ok (.iinc 5 1, 3) := by decide +kernel
theorem dX3_firstReaching_49 : decode cX3_firstReaching 49 = .ok (.goto (-39), 3) := by decide +kernel
theorem dX3_firstReaching_52 : decode cX3_firstReaching 52 = .ok (.iconst (-1), 1) := by decide +kernel
theorem dX3_firstReaching_53 : decode cX3_firstReaching 53 = .ok (.ireturn, 1) := by decide +kernel
theorem dX3_bestRun_0 : decode cX3_bestRun 0 = .ok (.aload_n 0, 1) := by decide +kernel
theorem dX3_bestRun_1 : decode cX3_bestRun 1 = .ok (.iload_n 1, 1) := by decide +kernel
theorem dX3_bestRun_2 : decode cX3_bestRun 2 = .ok (.invokevirtual 74, 3) := by decide +kernel
theorem dX3_bestRun_5 : decode cX3_bestRun 5 = .ok (.ldc2_w 161, 3) := by decide +kernel
theorem dX3_bestRun_8 : decode cX3_bestRun 8 = .ok (.lstore_n 2, 1) := by decide +kernel
theorem dX3_bestRun_9 : decode cX3_bestRun 9 = .ok (.lconst 0, 1) := by decide +kernel
theorem dX3_bestRun_10 : decode cX3_bestRun 10 = .ok (.lstore 4, 2) := by decide +kernel
theorem dX3_bestRun_12 : decode cX3_bestRun 12 = .ok (.iconst 0, 1) := by decide +kernel
theorem dX3_bestRun_13 : decode cX3_bestRun 13 = .ok (.istore 6, 2) := by decide +kernel
theorem dX3_bestRun_15 : decode cX3_bestRun 15 = .ok (.iload 6, 2) := by decide +kernel
theorem dX3_bestRun_17 : decode cX3_bestRun 17 = .ok (.aload_n 0, 1) := by decide +kernel
theorem dX3_bestRun_18 : decode cX3_bestRun 18 = .ok (.getfield 12, 3) := by decide +kernel
theorem dX3_bestRun_21 : decode cX3_bestRun 21 = .ok (.getfield 77, 3) := by decide +kernel
theorem dX3_bestRun_24 : decode cX3_bestRun 24 = .ok (.if_icmp .ge 36, 3) := by decide +kernel
theorem dX3_bestRun_27 : decode cX3_bestRun 27 = .ok (.lconst 0, 1) := by decide +kernel
theorem dX3_bestRun_28 : decode cX3_bestRun 28 = .ok (.lload 4, 2) := by decide +kernel
theorem dX3_bestRun_30 : decode cX3_bestRun 30 = .ok (.invokestatic 163, 3) := by decide +kernel
theorem dX3_bestRun_33 : decode cX3_bestRun 33 = .ok (.aload_n 0, 1) := by decide +kernel
theorem dX3_bestRun_34 : decode cX3_bestRun 34 = .ok (.getfield 12, 3) := by decide +kernel
theorem dX3_bestRun_37 : decode cX3_bestRun 37 = .ok (.iload_n 1, 1) := by decide +kernel
theorem dX3_bestRun_38 : decode cX3_bestRun 38 = .ok (.iload 6, 2) := by decide +kernel
theorem dX3_bestRun_40 : decode cX3_bestRun 40 = .ok (.invokevirtual 66, 3) := by decide +kernel
theorem dX3_bestRun_43 : decode cX3_bestRun 43 = .ok (.i2l, 1) := by decide +kernel
theorem dX3_bestRun_44 : decode cX3_bestRun 44 = .ok (.ladd, 1) := by decide +kernel
theorem dX3_bestRun_45 : decode cX3_bestRun 45 = .ok (.lstore 4, 2) := by decide +kernel
theorem dX3_bestRun_47 : decode cX3_bestRun 47 = .ok (.lload_n 2, 1) := by decide +kernel
theorem dX3_bestRun_48 : decode cX3_bestRun 48 = .ok (.lload 4, 2) := by decide +kernel
theorem dX3_bestRun_50 : decode cX3_bestRun 50 = .ok (.invokestatic 163, 3) := by decide +kernel
theorem dX3_bestRun_53 : decode cX3_bestRun 53 = .ok (.lstore_n 2, 1) := by decide +kernel
theorem dX3_bestRun_54 : decode cX3_bestRun 54 = .ok (.iinc 6 1, 3) := by decide +kernel
theorem dX3_bestRun_57 : decode cX3_bestRun 57 = .ok (.goto (-42), 3) := by decide +kernel
theorem dX3_bestRun_60 : decode cX3_bestRun 60 = .ok (.lload_n 2, 1) := by decide +kernel
theorem dX3_bestRun_61 : decode cX3_bestRun 61 = .ok (.lreturn, 1) := by decide +kernel
theorem dX3_dryIn_0 : decode cX3_dryIn 0 = .ok (.aload_n 0, 1) := by decide +kernel
theorem dX3_dryIn_1 : decode cX3_dryIn 1 = .ok (.iload_n 1, 1) := by decide +kernel
theorem dX3_dryIn_2 : decode cX3_dryIn 2 = .ok (.iload_n 2, 1) := by decide +kernel
theorem dX3_dryIn_3 : decode cX3_dryIn 3 = .ok (.iload_n 3, 1) := by decide +kernel
theorem dX3_dryIn_4 : decode cX3_dryIn 4 = .ok (.iload 4, 2) := by decide +kernel
theorem dX3_dryIn_6 : decode cX3_dryIn 6 = .ok (.invokevirtual 70, 3) := by decide +kernel
theorem dX3_dryIn_9 : decode cX3_dryIn 9 = .ok (.aload_n 0, 1) := by decide +kernel
theorem dX3_dryIn_10 : decode cX3_dryIn 10 = .ok (.getfield 12, 3) := by decide +kernel
theorem dX3_dryIn_13 : decode cX3_dryIn 13 = .ok (.iload_n 1, 1) := by decide +kernel
theorem dX3_dryIn_14 : decode cX3_dryIn 14 = .ok (.iload_n 2, 1) := by decide +kernel
theorem dX3_dryIn_15 : decode cX3_dryIn 15 = .ok (.iload_n 3, 1) := by decide +kernel
theorem dX3_dryIn_16 : decode cX3_dryIn 16 = .ok (.iload 4, 2) := by decide +kernel
theorem dX3_dryIn_18 : decode cX3_dryIn 18 = .ok (.invokevirtual 166, 3) := by decide +kernel
theorem dX3_dryIn_21 : decode cX3_dryIn 21 = .ok (.ireturn, 1) := by decide +kernel
theorem dX3_dry_0 : decode cX3_dry 0 = .ok (.aload_n 0, 1) := by decide +kernel
theorem dX3_dry_1 : decode cX3_dry 1 = .ok (.getfield 12, 3) := by decide +kernel
theorem dX3_dry_4 : decode cX3_dry 4 = .ok (.iconst 0, 1) := by decide +kernel
theorem dX3_dry_5 : decode cX3_dry 5 = .ok (.invokevirtual 170, 3) := by decide +kernel
theorem dX3_dry_8 : decode cX3_dry 8 = .ok (.ireturn, 1) := by decide +kernel
theorem dX3_dryAt_0 : decode cX3_dryAt 0 = .ok (.iconst 0, 1) := by decide +kernel
theorem dX3_dryAt_1 : decode cX3_dryAt 1 = .ok (.istore_n 2, 1) := by decide +kernel
theorem dX3_dryAt_2 : decode cX3_dryAt 2 = .ok (.iconst 0, 1) := by decide +kernel
theorem dX3_dryAt_3 : decode cX3_dryAt 3 = .ok (.istore_n 3, 1) := by decide +kernel
theorem dX3_dryAt_4 : decode cX3_dryAt 4 = .ok (.iload_n 3, 1) := by decide +kernel
theorem dX3_dryAt_5 : decode cX3_dryAt 5 = .ok (.aload_n 0, 1) := by decide +kernel
theorem dX3_dryAt_6 : decode cX3_dryAt 6 = .ok (.getfield 12, 3) := by decide +kernel
theorem dX3_dryAt_9 : decode cX3_dryAt 9 = .ok (.invokevirtual 53, 3) := by decide +kernel
theorem dX3_dryAt_12 : decode cX3_dryAt 12 = .ok (.if_icmp .ge 31, 3) := by decide +kernel
theorem dX3_dryAt_15 : decode cX3_dryAt 15 = .ok (.aload_n 0, 1) := by decide +kernel
theorem dX3_dryAt_16 : decode cX3_dryAt 16 = .ok (.getfield 12, 3) := by decide +kernel
theorem dX3_dryAt_19 : decode cX3_dryAt 19 = .ok (.getfield 173, 3) := by decide +kernel
theorem dX3_dryAt_22 : decode cX3_dryAt 22 = .ok (.iload_n 3, 1) := by decide +kernel
theorem dX3_dryAt_23 : decode cX3_dryAt 23 = .ok (.iaload, 1) := by decide +kernel
theorem dX3_dryAt_24 : decode cX3_dryAt 24 = .ok (.ifCond .gt 13, 3) := by decide +kernel
theorem dX3_dryAt_27 : decode cX3_dryAt 27 = .ok (.iload_n 2, 1) := by decide +kernel
theorem dX3_dryAt_28 : decode cX3_dryAt 28 = .ok (.iload_n 1, 1) := by decide +kernel
theorem dX3_dryAt_29 : decode cX3_dryAt 29 = .ok (.if_icmp .ne 5, 3) := by decide +kernel
theorem dX3_dryAt_32 : decode cX3_dryAt 32 = .ok (.iload_n 3, 1) := by decide +kernel
theorem dX3_dryAt_33 : decode cX3_dryAt 33 = .ok (.ireturn, 1) := by decide +kernel
theorem dX3_dryAt_34 : decode cX3_dryAt 34 = .ok (.iinc 2 1, 3) := by decide +kernel
theorem dX3_dryAt_37 : decode cX3_dryAt 37 = .ok (.iinc 3 1, 3) := by decide +kernel
theorem dX3_dryAt_40 : decode cX3_dryAt 40 = .ok (.goto (-36), 3) := by decide +kernel
theorem dX3_dryAt_43 : decode cX3_dryAt 43 = .ok (.new 176, 3) := by decide +kernel
theorem dX3_dryAt_46 : decode cX3_dryAt 46 = .ok (.dup, 1) := by decide +kernel
theorem dX3_dryAt_47 : decode cX3_dryAt 47 = .ok (.ldc 178, 2) := by decide +kernel
theorem dX3_dryAt_49 : decode cX3_dryAt 49 = .ok (.invokespecial 180, 3) := by decide +kernel
theorem dX3_dryAt_52 : decode cX3_dryAt 52 = .ok (.athrow, 1) := by decide +kernel
theorem dX3_longestDry_0 : decode cX3_longestDry 0 = .ok (.aload_n 0, 1) := by decide +kernel
theorem dX3_longestDry_1 : decode cX3_longestDry 1 = .ok (.iload_n 1, 1) := by decide +kernel
theorem dX3_longestDry_2 : decode cX3_longestDry 2 = .ok (.invokevirtual 74, 3) := by decide +kernel
theorem dX3_longestDry_5 : decode cX3_longestDry 5 = .ok (.iconst 0, 1) := by decide +kernel
theorem dX3_longestDry_6 : decode cX3_longestDry 6 = .ok (.istore_n 2, 1) := by decide +kernel
theorem dX3_longestDry_7 : decode cX3_longestDry 7 = .ok (.iconst 0, 1) := by decide +kernel
theorem dX3_longestDry_8 : decode cX3_longestDry 8 = .ok (.istore_n 3, 1) := by decide +kernel
theorem dX3_longestDry_9 : decode cX3_longestDry 9 = .ok (.iconst 0, 1) := by decide +kernel
theorem dX3_longestDry_10 : decode cX3_longestDry 10 = .ok (.istore 4, 2) := by decide +kernel
theorem dX3_longestDry_12 : decode cX3_longestDry 12 = .ok (.iload 4, 2) := by decide +kernel
theorem dX3_longestDry_14 : decode cX3_longestDry 14 = .ok (.aload_n 0, 1) := by decide +kernel
theorem dX3_longestDry_15 : decode cX3_longestDry 15 = .ok (.getfield 12, 3) := by decide +kernel
theorem dX3_longestDry_18 : decode cX3_longestDry 18 = .ok (.getfield 77, 3) := by decide +kernel
theorem dX3_longestDry_21 : decode cX3_longestDry 21 = .ok (.if_icmp .ge 36, 3) := by decide +kernel
theorem dX3_longestDry_24 : decode cX3_longestDry 24 = .ok (.aload_n 0, 1) := by decide +kernel
theorem dX3_longestDry_25 : decode cX3_longestDry 25 = .ok (.getfield 12, 3) := by decide +kernel
theorem dX3_longestDry_28 : decode cX3_longestDry 28 = .ok (.iload_n 1, 1) := by decide +kernel
theorem dX3_longestDry_29 : decode cX3_longestDry 29 = .ok (.iload 4, 2) := by decide +kernel
theorem dX3_longestDry_31 : decode cX3_longestDry 31 = .ok (.invokevirtual 66, 3) := by decide +kernel
theorem dX3_longestDry_34 : decode cX3_longestDry 34 = .ok (.ifCond .gt 9, 3) := by decide +kernel
theorem dX3_longestDry_37 : decode cX3_longestDry 37 = .ok (.iload_n 3, 1) := by decide +kernel
theorem dX3_longestDry_38 : decode cX3_longestDry 38 = .ok (.iconst 1, 1) := by decide +kernel
theorem dX3_longestDry_39 : decode cX3_longestDry 39 = .ok (.iadd, 1) := by decide +kernel
theorem dX3_longestDry_40 : decode cX3_longestDry 40 = .ok (.goto 4, 3) := by decide +kernel
theorem dX3_longestDry_43 : decode cX3_longestDry 43 = .ok (.iconst 0, 1) := by decide +kernel
theorem dX3_longestDry_44 : decode cX3_longestDry 44 = .ok (.istore_n 3, 1) := by decide +kernel
theorem dX3_longestDry_45 : decode cX3_longestDry 45 = .ok (.iload_n 2, 1) := by decide +kernel
theorem dX3_longestDry_46 : decode cX3_longestDry 46 = .ok (.iload_n 3, 1) := by decide +kernel
theorem dX3_longestDry_47 : decode cX3_longestDry 47 = .ok (.invokestatic 100, 3) := by decide +kernel
theorem dX3_longestDry_50 : decode cX3_longestDry 50 = .ok (.istore_n 2, 1) := by decide +kernel
theorem dX3_longestDry_51 : decode cX3_longestDry 51 = .ok (.iinc 4 1, 3) := by decide +kernel
theorem dX3_longestDry_54 : decode cX3_longestDry 54 = .ok (.goto (-42), 3) := by decide +kernel
theorem dX3_longestDry_57 : decode cX3_longestDry 57 = .ok (.iload_n 2, 1) := by decide +kernel
theorem dX3_longestDry_58 : decode cX3_longestDry 58 = .ok (.ireturn, 1) := by decide +kernel
theorem dX3_driestFlight_0 : decode cX3_driestFlight 0 = .ok (.iconst 0, 1) := by decide +kernel
theorem dX3_driestFlight_1 : decode cX3_driestFlight 1 = .ok (.istore_n 1, 1) := by decide +kernel
theorem dX3_driestFlight_2 : decode cX3_driestFlight 2 = .ok (.iconst (-1), 1) := by decide +kernel
theorem dX3_driestFlight_3 : decode cX3_driestFlight 3 = .ok (.istore_n 2, 1) := by decide +kernel
theorem dX3_driestFlight_4 : decode cX3_driestFlight 4 = .ok (.iconst 0, 1) := by decide +kernel
theorem dX3_driestFlight_5 : decode cX3_driestFlight 5 = .ok (.istore_n 3, 1) := by decide +kernel
theorem dX3_driestFlight_6 : decode cX3_driestFlight 6 = .ok (.iload_n 3, 1) := by decide +kernel
theorem dX3_driestFlight_7 : decode cX3_driestFlight 7 = .ok (.aload_n 0, 1) := by decide +kernel
theorem dX3_driestFlight_8 : decode cX3_driestFlight 8 = .ok (.getfield 12, 3) := by decide +kernel
theorem dX3_driestFlight_11 : decode cX3_driestFlight 11 = .ok (.getfield 148, 3) := by decide +kernel
theorem dX3_driestFlight_14 : decode cX3_driestFlight 14 = .ok (.if_icmp .ge 41, 3) := by decide +kernel
theorem dX3_driestFlight_17 : decode cX3_driestFlight 17 = .ok (.aload_n 0, 1) := by decide +kernel
theorem dX3_driestFlight_18 : decode cX3_driestFlight 18 = .ok (.getfield 12, 3) := by decide +kernel
theorem dX3_driestFlight_21 : decode cX3_driestFlight 21 = .ok (.iload_n 3, 1) := by decide +kernel
theorem dX3_driestFlight_22 : decode cX3_driestFlight 22 = .ok (.iconst 0, 1) := by decide +kernel
theorem dX3_driestFlight_23 : decode cX3_driestFlight 23 = .ok (.iload_n 3, 1) := by decide +kernel
theorem dX3_driestFlight_24 : decode cX3_driestFlight 24 = .ok (.aload_n 0, 1) := by decide +kernel
theorem dX3_driestFlight_25 : decode cX3_driestFlight 25 = .ok (.getfield 12, 3) := by decide +kernel
theorem dX3_driestFlight_28 : decode cX3_driestFlight 28 = .ok (.getfield 77, 3) := by decide +kernel
theorem dX3_driestFlight_31 : decode cX3_driestFlight 31 = .ok (.iconst 1, 1) := by decide +kernel
theorem dX3_driestFlight_32 : decode cX3_driestFlight 32 = .ok (.isub, 1) := by decide +kernel
theorem dX3_driestFlight_33 : decode cX3_driestFlight 33 = .ok (.invokevirtual 166, 3) := by decide +kernel
theorem dX3_driestFlight_36 : decode cX3_driestFlight 36 = .ok (.istore 4, 2) := by decide +kernel
theorem dX3_driestFlight_38 : decode cX3_driestFlight 38 = .ok (.iload 4, 2) := by decide +kernel
theorem dX3_driestFlight_40 : decode cX3_driestFlight 40 = .ok (.iload_n 2, 1) := by decide +kernel
theorem dX3_driestFlight_41 : decode cX3_driestFlight 41 = .ok (.if_icmp .le 8, 3) := by decide +kernel
theorem dX3_driestFlight_44 : decode cX3_driestFlight 44 = .ok (.iload 4, 2) := by decide +kernel
theorem dX3_driestFlight_46 : decode cX3_driestFlight 46 = .ok (.istore_n 2, 1) := by decide +kernel
theorem dX3_driestFlight_47 : decode cX3_driestFlight 47 = .ok (.iload_n 3, 1) := by decide +kernel
theorem dX3_driestFlight_48 : decode cX3_driestFlight 48 = .ok (.istore_n 1, 1) := by decide +kernel
theorem dX3_driestFlight_49 : decode cX3_driestFlight 49 = .ok (.iinc 3 1, 3) := by decide +kernel
theorem dX3_driestFlight_52 : decode cX3_driestFlight 52 = .ok (.goto (-46), 3) := by decide +kernel
theorem dX3_driestFlight_55 : decode cX3_driestFlight 55 = .ok (.iload_n 1, 1) := by decide +kernel
theorem dX3_driestFlight_56 : decode cX3_driestFlight 56 = .ok (.ireturn, 1) := by decide +kernel
theorem dX3_lowestIn_0 : decode cX3_lowestIn 0 = .ok (.aload_n 0, 1) := by decide +kernel
theorem dX3_lowestIn_1 : decode cX3_lowestIn 1 = .ok (.iload_n 1, 1) := by decide +kernel
theorem dX3_lowestIn_2 : decode cX3_lowestIn 2 = .ok (.iload_n 2, 1) := by decide +kernel
theorem dX3_lowestIn_3 : decode cX3_lowestIn 3 = .ok (.iload_n 3, 1) := by decide +kernel
theorem dX3_lowestIn_4 : decode cX3_lowestIn 4 = .ok (.iload 4, 2) := by decide +kernel
theorem dX3_lowestIn_6 : decode cX3_lowestIn 6 = .ok (.invokevirtual 70, 3) := by decide +kernel
theorem dX3_lowestIn_9 : decode cX3_lowestIn 9 = .ok (.ldc 183, 2) := by decide +kernel
theorem dX3_lowestIn_11 : decode cX3_lowestIn 11 = .ok (.istore 5, 2) := by decide +kernel
theorem dX3_lowestIn_13 : decode cX3_lowestIn 13 = .ok (.iload_n 1, 1) := by decide +kernel
theorem dX3_lowestIn_14 : decode cX3_lowestIn 14 = .ok (.istore 6, 2) := by decide +kernel
theorem dX3_lowestIn_16 : decode cX3_lowestIn 16 = .ok (.iload 6, 2) := by decide +kernel
theorem dX3_lowestIn_18 : decode cX3_lowestIn 18 = .ok (.iload_n 3, 1) := by decide +kernel
theorem dX3_lowestIn_19 : decode cX3_lowestIn 19 = .ok (.if_icmp .gt 43, 3) := by decide +kernel
theorem dX3_lowestIn_22 : decode cX3_lowestIn 22 = .ok (.iload_n 2, 1) := by decide +kernel
theorem dX3_lowestIn_23 : decode cX3_lowestIn 23 = .ok (.istore 7, 2) := by decide +kernel
theorem dX3_lowestIn_25 : decode cX3_lowestIn 25 = .ok (.iload 7, 2) := by decide +kernel
theorem dX3_lowestIn_27 : decode cX3_lowestIn 27 = .ok (.iload 4, 2) := by decide +kernel
theorem dX3_lowestIn_29 : decode cX3_lowestIn 29 = .ok (.if_icmp .gt 27, 3) := by decide +kernel
theorem dX3_lowestIn_32 : decode cX3_lowestIn 32 = .ok (.iload 5, 2) := by decide +kernel
theorem dX3_lowestIn_34 : decode cX3_lowestIn 34 = .ok (.aload_n 0, 1) := by decide +kernel
theorem dX3_lowestIn_35 : decode cX3_lowestIn 35 = .ok (.getfield 12, 3) := by decide +kernel
theorem dX3_lowestIn_38 : decode cX3_lowestIn 38 = .ok (.iload 6, 2) := by decide +kernel
theorem dX3_lowestIn_40 : decode cX3_lowestIn 40 = .ok (.iload 7, 2) := by decide +kernel
theorem dX3_lowestIn_42 : decode cX3_lowestIn 42 = .ok (.invokevirtual 66, 3) := by decide +kernel
theorem dX3_lowestIn_45 : decode cX3_lowestIn 45 = .ok (.invokestatic 105, 3) := by decide +kernel
theorem dX3_lowestIn_48 : decode cX3_lowestIn 48 = .ok (.istore 5, 2) := by decide +kernel
theorem dX3_lowestIn_50 : decode cX3_lowestIn 50 = .ok (.iinc 7 1, 3) := by decide +kernel
theorem dX3_lowestIn_53 : decode cX3_lowestIn 53 = .ok (.goto (-28), 3) := by decide +kernel
theorem dX3_lowestIn_56 : decode cX3_lowestIn 56 = .ok (.iinc 6 1, 3) := by decide +kernel
theorem dX3_lowestIn_59 : decode cX3_lowestIn 59 = .ok (.goto (-43), 3) := by decide +kernel
theorem dX3_lowestIn_62 : decode cX3_lowestIn 62 = .ok (.iload 5, 2) := by decide +kernel
theorem dX3_lowestIn_64 : decode cX3_lowestIn 64 = .ok (.ireturn, 1) := by decide +kernel
theorem dX3_highestAt_0 : decode cX3_highestAt 0 = .ok (.aload_n 0, 1) := by decide +kernel
theorem dX3_highestAt_1 : decode cX3_highestAt 1 = .ok (.iload_n 1, 1) := by decide +kernel
theorem dX3_highestAt_2 : decode cX3_highestAt 2 = .ok (.invokevirtual 74, 3) := by decide +kernel
theorem dX3_highestAt_5 : decode cX3_highestAt 5 = .ok (.iconst 0, 1) := by decide +kernel
theorem dX3_highestAt_6 : decode cX3_highestAt 6 = .ok (.istore_n 2, 1) := by decide +kernel
theorem dX3_highestAt_7 : decode cX3_highestAt 7 = .ok (.iconst 1, 1) := by decide +kernel
theorem dX3_highestAt_8 : decode cX3_highestAt 8 = .ok (.istore_n 3, 1) := by decide +kernel
theorem dX3_highestAt_9 : decode cX3_highestAt 9 = .ok (.iload_n 3, 1) := by decide +kernel
theorem dX3_highestAt_10 : decode cX3_highestAt 10 = .ok (.aload_n 0, 1) := by decide +kernel
theorem dX3_highestAt_11 : decode cX3_highestAt 11 = .ok (.getfield 12, 3) := by decide +kernel
theorem dX3_highestAt_14 : decode cX3_highestAt 14 = .ok (.getfield 77, 3) := by decide +kernel
theorem dX3_highestAt_17 : decode cX3_highestAt 17 = .ok (.if_icmp .ge 32, 3) := by decide +kernel
theorem dX3_highestAt_20 : decode cX3_highestAt 20 = .ok (.aload_n 0, 1) := by decide +kernel
theorem dX3_highestAt_21 : decode cX3_highestAt 21 = .ok (.getfield 12, 3) := by decide +kernel
theorem dX3_highestAt_24 : decode cX3_highestAt 24 = .ok (.iload_n 1, 1) := by decide +kernel
theorem dX3_highestAt_25 : decode cX3_highestAt 25 = .ok (.iload_n 3, 1) := by decide +kernel
theorem dX3_highestAt_26 : decode cX3_highestAt 26 = .ok (.invokevirtual 66, 3) := by decide +kernel
theorem dX3_highestAt_29 : decode cX3_highestAt 29 = .ok (.aload_n 0, 1) := by decide +kernel
theorem dX3_highestAt_30 : decode cX3_highestAt 30 = .ok (.getfield 12, 3) := by decide +kernel
theorem dX3_highestAt_33 : decode cX3_highestAt 33 = .ok (.iload_n 1, 1) := by decide +kernel
theorem dX3_highestAt_34 : decode cX3_highestAt 34 = .ok (.iload_n 2, 1) := by decide +kernel
theorem dX3_highestAt_35 : decode cX3_highestAt 35 = .ok (.invokevirtual 66, 3) := by decide +kernel
theorem dX3_highestAt_38 : decode cX3_highestAt 38 = .ok (.if_icmp .le 5, 3) := by decide +kernel
theorem dX3_highestAt_41 : decode cX3_highestAt 41 = .ok (.iload_n 3, 1) := by decide +kernel
theorem dX3_highestAt_42 : decode cX3_highestAt 42 = .ok (.istore_n 2, 1) := by decide +kernel
theorem dX3_highestAt_43 : decode cX3_highestAt 43 = .ok (.iinc 3 1, 3) := by decide +kernel
theorem dX3_highestAt_46 : decode cX3_highestAt 46 = .ok (.goto (-37), 3) := by decide +kernel
theorem dX3_highestAt_49 : decode cX3_highestAt 49 = .ok (.iload_n 2, 1) := by decide +kernel
theorem dX3_highestAt_50 : decode cX3_highestAt 50 = .ok (.ireturn, 1) := by decide +kernel
theorem dX3_upTo_0 : decode cX3_upTo 0 = .ok (.aload_n 0, 1) := by decide +kernel
theorem dX3_upTo_1 : decode cX3_upTo 1 = .ok (.getfield 12, 3) := by decide +kernel
theorem dX3_upTo_4 : decode cX3_upTo 4 = .ok (.iload_n 1, 1) := by decide +kernel
theorem dX3_upTo_5 : decode cX3_upTo 5 = .ok (.invokevirtual 170, 3) := by decide +kernel
theorem dX3_upTo_8 : decode cX3_upTo 8 = .ok (.ireturn, 1) := by decide +kernel
theorem dX3_levelInOrder_0 : decode cX3_levelInOrder 0 = .ok (.iload_n 1, 1) := by decide +kernel
theorem dX3_levelInOrder_1 : decode cX3_levelInOrder 1 = .ok (.aload_n 0, 1) := by decide +kernel
theorem dX3_levelInOrder_2 : decode cX3_levelInOrder 2 = .ok (.getfield 12, 3) := by decide +kernel
theorem dX3_levelInOrder_5 : decode cX3_levelInOrder 5 = .ok (.invokevirtual 53, 3) := by decide +kernel
theorem dX3_levelInOrder_8 : decode cX3_levelInOrder 8 = .ok (.invokestatic 184, 3) := by decide +kernel
theorem dX3_levelInOrder_11 : decode cX3_levelInOrder 11 = .ok (.ldc 183, 2) := by decide +kernel
theorem dX3_levelInOrder_13 : decode cX3_levelInOrder 13 = .ok (.istore_n 2, 1) := by decide +kernel
theorem dX3_levelInOrder_14 : decode cX3_levelInOrder 14 = .ok (.iconst 0, 1) := by decide +kernel
theorem dX3_levelInOrder_15 : decode cX3_levelInOrder 15 = .ok (.istore_n 3, 1) := by decide +kernel
theorem dX3_levelInOrder_16 : decode cX3_levelInOrder 16 = .ok (.iload_n 3, 1) := by decide +kernel
theorem dX3_levelInOrder_17 : decode cX3_levelInOrder 17 = .ok (.aload_n 0, 1) := by decide +kernel
theorem dX3_levelInOrder_18 : decode cX3_levelInOrder 18 = .ok (.getfield 12, 3) := by decide +kernel
theorem dX3_levelInOrder_21 : decode cX3_levelInOrder 21 = .ok (.invokevirtual 53, 3) := by decide +kernel
theorem dX3_levelInOrder_24 : decode cX3_levelInOrder 24 = .ok (.if_icmp .ge 42, 3) := by decide +kernel
theorem dX3_levelInOrder_27 : decode cX3_levelInOrder 27 = .ok (.aload_n 0, 1) := by decide +kernel
theorem dX3_levelInOrder_28 : decode cX3_levelInOrder 28 = .ok (.getfield 12, 3) := by decide +kernel
theorem dX3_levelInOrder_31 : decode cX3_levelInOrder 31 = .ok (.getfield 173, 3) := by decide +kernel
theorem dX3_levelInOrder_34 : decode cX3_levelInOrder 34 = .ok (.iload_n 3, 1) := by decide +kernel
theorem dX3_levelInOrder_35 : decode cX3_levelInOrder 35 = .ok (.iaload, 1) := by decide +kernel
theorem dX3_levelInOrder_36 : decode cX3_levelInOrder 36 = .ok (.istore 4, 2) := by decide +kernel
theorem dX3_levelInOrder_38 : decode cX3_levelInOrder 38 = .ok (.iload 4, 2) := by decide +kernel
theorem dX3_levelInOrder_40 : decode cX3_levelInOrder 40 = .ok (.iload_n 2, 1) := by decide +kernel
theorem dX3_levelInOrder_41 : decode cX3_levelInOrder 41 = .ok (.if_icmp .ge 19, 3) := by decide +kernel
theorem dX3_levelInOrder_44 : decode cX3_levelInOrder 44 = .ok (.aload_n 0, 1) := by decide +kernel
theorem dX3_levelInOrder_45 : decode cX3_levelInOrder 45 = .ok (.getfield 12, 3) := by decide +kernel
theorem dX3_levelInOrder_48 : decode cX3_levelInOrder 48 = .ok (.iload 4, 2) := by decide +kernel
theorem dX3_levelInOrder_50 : decode cX3_levelInOrder 50 = .ok (.invokevirtual 170, 3) := by decide +kernel
theorem dX3_levelInOrder_53 : decode cX3_levelInOrder 53 = .ok (.iload_n 1, 1) := by decide +kernel
theorem dX3_levelInOrder_54 : decode cX3_levelInOrder 54 = .ok (.if_icmp .le 6, 3) := by decide +kernel
theorem dX3_levelInOrder_57 : decode cX3_levelInOrder 57 = .ok (.iload 4, 2) := by decide +kernel
theorem dX3_levelInOrder_59 : decode cX3_levelInOrder 59 = .ok (.istore_n 2, 1) := by decide +kernel
theorem dX3_levelInOrder_60 : decode cX3_levelInOrder 60 = .ok (.iinc 3 1, 3) := by decide +kernel
theorem dX3_levelInOrder_63 : decode cX3_levelInOrder 63 = .ok (.goto (-47), 3) := by decide +kernel
theorem dX3_levelInOrder_66 : decode cX3_levelInOrder 66 = .ok (.iload_n 2, 1) := by decide +kernel
theorem dX3_levelInOrder_67 : decode cX3_levelInOrder 67 = .ok (.ireturn, 1) := by decide +kernel
theorem dX3_outOfOrder_0 : decode cX3_outOfOrder 0 = .ok (.aload_n 0, 1) := by decide +kernel
theorem dX3_outOfOrder_1 : decode cX3_outOfOrder 1 = .ok (.getfield 34, 3) := by decide +kernel
theorem dX3_outOfOrder_4 : decode cX3_outOfOrder 4 = .ok (.aload_n 0, 1) := by decide +kernel
theorem dX3_outOfOrder_5 : decode cX3_outOfOrder 5 = .ok (.getfield 12, 3) := by decide +kernel
theorem dX3_outOfOrder_8 : decode cX3_outOfOrder 8 = .ok (.invokevirtual 187, 3) := by decide +kernel
theorem dX3_outOfOrder_11 : decode cX3_outOfOrder 11 = .ok (.aload_n 0, 1) := by decide +kernel
theorem dX3_outOfOrder_12 : decode cX3_outOfOrder 12 = .ok (.getfield 34, 3) := by decide +kernel
theorem dX3_outOfOrder_15 : decode cX3_outOfOrder 15 = .ok (.iconst 0, 1) := by decide +kernel
theorem dX3_outOfOrder_16 : decode cX3_outOfOrder 16 = .ok (.iconst 0, 1) := by decide +kernel
theorem dX3_outOfOrder_17 : decode cX3_outOfOrder 17 = .ok (.invokevirtual 190, 3) := by decide +kernel
theorem dX3_outOfOrder_20 : decode cX3_outOfOrder 20 = .ok (.ireturn, 1) := by decide +kernel
theorem dX3_alike_0 : decode cX3_alike 0 = .ok (.aload_n 0, 1) := by decide +kernel
theorem dX3_alike_1 : decode cX3_alike 1 = .ok (.iload_n 1, 1) := by decide +kernel
theorem dX3_alike_2 : decode cX3_alike 2 = .ok (.invokevirtual 74, 3) := by decide +kernel
theorem dX3_alike_5 : decode cX3_alike 5 = .ok (.aload_n 0, 1) := by decide +kernel
theorem dX3_alike_6 : decode cX3_alike 6 = .ok (.iload_n 2, 1) := by decide +kernel
theorem dX3_alike_7 : decode cX3_alike 7 = .ok (.invokevirtual 74, 3) := by decide +kernel
theorem dX3_alike_10 : decode cX3_alike 10 = .ok (.aload_n 0, 1) := by decide +kernel
theorem dX3_alike_11 : decode cX3_alike 11 = .ok (.getfield 12, 3) := by decide +kernel
theorem dX3_alike_14 : decode cX3_alike 14 = .ok (.iload_n 1, 1) := by decide +kernel
theorem dX3_alike_15 : decode cX3_alike 15 = .ok (.iload_n 2, 1) := by decide +kernel
theorem dX3_alike_16 : decode cX3_alike 16 = .ok (.invokevirtual 80, 3) := by decide +kernel
theorem dX3_alike_19 : decode cX3_alike 19 = .ok (.ireturn, 1) := by decide +kernel
theorem dX3_changedSince_0 : decode cX3_changedSince 0 = .ok (.aload_n 0, 1) := by decide +kernel
theorem dX3_changedSince_1 : decode cX3_changedSince 1 = .ok (.iload_n 1, 1) := by decide +kernel
theorem dX3_changedSince_2 : decode cX3_changedSince 2 = .ok (.invokevirtual 130, 3) := by decide +kernel
theorem dX3_changedSince_5 : decode cX3_changedSince 5 = .ok (.aload_n 0, 1) := by decide +kernel
theorem dX3_changedSince_6 : decode cX3_changedSince 6 = .ok (.getfield 12, 3) := by decide +kernel
theorem dX3_changedSince_9 : decode cX3_changedSince 9 = .ok (.aload_n 0, 1) := by decide +kernel
theorem dX3_changedSince_10 : decode cX3_changedSince 10 = .ok (.getfield 28, 3) := by decide +kernel
theorem dX3_changedSince_13 : decode cX3_changedSince 13 = .ok (.iload_n 1, 1) := by decide +kernel
theorem dX3_changedSince_14 : decode cX3_changedSince 14 = .ok (.invokevirtual 92, 3) := by decide +kernel
theorem dX3_changedSince_17 : decode cX3_changedSince 17 = .ok (.invokevirtual 96, 3) := by decide +kernel
theorem dX3_changedSince_20 : decode cX3_changedSince 20 = .ok (.ireturn, 1) := by decide +kernel
theorem dX3_totalIn_0 : decode cX3_totalIn 0 = .ok (.iload_n 1, 1) := by decide +kernel
theorem dX3_totalIn_1 : decode cX3_totalIn 1 = .ok (.iconst 1, 1) := by decide +kernel
theorem dX3_totalIn_2 : decode cX3_totalIn 2 = .ok (.bipush 40, 2) := by decide +kernel
theorem dX3_totalIn_4 : decode cX3_totalIn 4 = .ok (.invokestatic 46, 3) := by decide +kernel
theorem dX3_totalIn_7 : decode cX3_totalIn 7 = .ok (.aload_n 0, 1) := by decide +kernel
theorem dX3_totalIn_8 : decode cX3_totalIn 8 = .ok (.getfield 16, 3) := by decide +kernel
theorem dX3_totalIn_11 : decode cX3_totalIn 11 = .ok (.aload_n 0, 1) := by decide +kernel
theorem dX3_totalIn_12 : decode cX3_totalIn 12 = .ok (.getfield 12, 3) := by decide +kernel
theorem dX3_totalIn_15 : decode cX3_totalIn 15 = .ok (.invokevirtual 193, 3) := by decide +kernel
theorem dX3_totalIn_18 : decode cX3_totalIn 18 = .ok (.aload_n 0, 1) := by decide +kernel
theorem dX3_totalIn_19 : decode cX3_totalIn 19 = .ok (.getfield 16, 3) := by decide +kernel
theorem dX3_totalIn_22 : decode cX3_totalIn 22 = .ok (.iload_n 1, 1) := by decide +kernel
theorem dX3_totalIn_23 : decode cX3_totalIn 23 = .ok (.invokevirtual 108, 3) := by decide +kernel
theorem dX3_totalIn_26 : decode cX3_totalIn 26 = .ok (.pop, 1) := by decide +kernel
theorem dX3_totalIn_27 : decode cX3_totalIn 27 = .ok (.aload_n 0, 1) := by decide +kernel
theorem dX3_totalIn_28 : decode cX3_totalIn 28 = .ok (.getfield 16, 3) := by decide +kernel
theorem dX3_totalIn_31 : decode cX3_totalIn 31 = .ok (.invokevirtual 155, 3) := by decide +kernel
theorem dX3_totalIn_34 : decode cX3_totalIn 34 = .ok (.lreturn, 1) := by decide +kernel
theorem dX3_goneIn_0 : decode cX3_goneIn 0 = .ok (.iload_n 1, 1) := by decide +kernel
theorem dX3_goneIn_1 : decode cX3_goneIn 1 = .ok (.iconst 1, 1) := by decide +kernel
theorem dX3_goneIn_2 : decode cX3_goneIn 2 = .ok (.bipush 40, 2) := by decide +kernel
theorem dX3_goneIn_4 : decode cX3_goneIn 4 = .ok (.invokestatic 46, 3) := by decide +kernel
theorem dX3_goneIn_7 : decode cX3_goneIn 7 = .ok (.aload_n 0, 1) := by decide +kernel
theorem dX3_goneIn_8 : decode cX3_goneIn 8 = .ok (.getfield 16, 3) := by decide +kernel
theorem dX3_goneIn_11 : decode cX3_goneIn 11 = .ok (.aload_n 0, 1) := by decide +kernel
theorem dX3_goneIn_12 : decode cX3_goneIn 12 = .ok (.getfield 12, 3) := by decide +kernel
theorem dX3_goneIn_15 : decode cX3_goneIn 15 = .ok (.invokevirtual 193, 3) := by decide +kernel
theorem dX3_goneIn_18 : decode cX3_goneIn 18 = .ok (.aload_n 0, 1) := by decide +kernel
theorem dX3_goneIn_19 : decode cX3_goneIn 19 = .ok (.getfield 16, 3) := by decide +kernel
theorem dX3_goneIn_22 : decode cX3_goneIn 22 = .ok (.iload_n 1, 1) := by decide +kernel
theorem dX3_goneIn_23 : decode cX3_goneIn 23 = .ok (.invokevirtual 108, 3) := by decide +kernel
theorem dX3_goneIn_26 : decode cX3_goneIn 26 = .ok (.ireturn, 1) := by decide +kernel
theorem dX3_hoursUntilDry_0 : decode cX3_hoursUntilDry 0 = .ok (.aload_n 0, 1) := by decide +kernel
theorem dX3_hoursUntilDry_1 : decode cX3_hoursUntilDry 1 = .ok (.getfield 16, 3) := by decide +kernel
theorem dX3_hoursUntilDry_4 : decode cX3_hoursUntilDry 4 = .ok (.aload_n 0, 1) := by decide +kernel
theorem dX3_hoursUntilDry_5 : decode cX3_hoursUntilDry 5 = .ok (.getfield 12, 3) := by decide +kernel
theorem dX3_hoursUntilDry_8 : decode cX3_hoursUntilDry 8 = .ok (.invokevirtual 193, 3) := by decide +kernel
theorem dX3_hoursUntilDry_11 : decode cX3_hoursUntilDry 11 = .ok (.iconst 0, 1) := by decide +kernel
theorem dX3_hoursUntilDry_12 : decode cX3_hoursUntilDry 12 = .ok (.istore_n 1, 1) := by decide +kernel
theorem dX3_hoursUntilDry_13 : decode cX3_hoursUntilDry 13 = .ok (.iload_n 1, 1) := by decide +kernel
theorem dX3_hoursUntilDry_14 : decode cX3_hoursUntilDry 14 = .ok (.bipush 60, 2) := by decide +kernel
theorem dX3_hoursUntilDry_16 : decode cX3_hoursUntilDry 16 = .ok (.if_icmp .ge 29, 3) := by decide +kernel
theorem dX3_hoursUntilDry_19 : decode cX3_hoursUntilDry 19 = .ok (.aload_n 0, 1) := by decide +kernel
theorem dX3_hoursUntilDry_20 : decode cX3_hoursUntilDry 20 = .ok (.getfield 16, 3) := by decide +kernel
theorem dX3_hoursUntilDry_23 : decode cX3_hoursUntilDry 23 = .ok (.invokevirtual 196, 3) := by decide +kernel
theorem dX3_hoursUntilDry_26 : decode cX3_hoursUntilDry 26 = .ok (.ifCond .eq 5, 3) := by decide +kernel
theorem dX3_hoursUntilDry_29 : decode cX3_hoursUntilDry 29 = .ok (.iload_n 1, 1) := by decide +kernel
theorem dX3_hoursUntilDry_30 : decode cX3_hoursUntilDry 30 = .ok (.ireturn, 1) := by decide +kernel
theorem dX3_hoursUntilDry_31 : decode cX3_hoursUntilDry 31 = .ok (.aload_n 0, 1) := by decide +kernel
theorem dX3_hoursUntilDry_32 : decode cX3_hoursUntilDry 32 = .ok (.getfield 16, 3) := by decide +kernel
theorem dX3_hoursUntilDry_35 : decode cX3_hoursUntilDry 35 = .ok (.invokevirtual 200, 3) := by decide +kernel
theorem dX3_hoursUntilDry_38 : decode cX3_hoursUntilDry 38 = .ok (.pop, 1) := by decide +kernel
theorem dX3_hoursUntilDry_39 : decode cX3_hoursUntilDry 39 = .ok (.iinc 1 1, 3) := by decide +kernel
theorem dX3_hoursUntilDry_42 : decode cX3_hoursUntilDry 42 = .ok (.goto (-29), 3) := by decide +kernel
theorem dX3_hoursUntilDry_45 : decode cX3_hoursUntilDry 45 = .ok (.aload_n 0, 1) := by decide +kernel
theorem dX3_hoursUntilDry_46 : decode cX3_hoursUntilDry 46 = .ok (.getfield 16, 3) := by decide +kernel
theorem dX3_hoursUntilDry_49 : decode cX3_hoursUntilDry 49 = .ok (.invokevirtual 196, 3) := by decide +kernel
theorem dX3_hoursUntilDry_52 : decode cX3_hoursUntilDry 52 = .ok (.ifCond .eq 8, 3) := by decide +kernel
theorem dX3_hoursUntilDry_55 : decode cX3_hoursUntilDry 55 = .ok (.bipush 60, 2) := by decide +kernel
theorem dX3_hoursUntilDry_57 : decode cX3_hoursUntilDry 57 = .ok (.goto 4, 3) := by decide +kernel
theorem dX3_hoursUntilDry_60 : decode cX3_hoursUntilDry 60 = .ok (.iconst (-1), 1) := by decide +kernel
theorem dX3_hoursUntilDry_61 : decode cX3_hoursUntilDry 61 = .ok (.ireturn, 1) := by decide +kernel
theorem dX3_sunWanted_0 : decode cX3_sunWanted 0 = .ok (.iload_n 1, 1) := by decide +kernel
theorem dX3_sunWanted_1 : decode cX3_sunWanted 1 = .ok (.iconst 1, 1) := by decide +kernel
theorem dX3_sunWanted_2 : decode cX3_sunWanted 2 = .ok (.bipush 40, 2) := by decide +kernel
theorem dX3_sunWanted_4 : decode cX3_sunWanted 4 = .ok (.invokestatic 46, 3) := by decide +kernel
theorem dX3_sunWanted_7 : decode cX3_sunWanted 7 = .ok (.iconst 0, 1) := by decide +kernel
theorem dX3_sunWanted_8 : decode cX3_sunWanted 8 = .ok (.istore_n 2, 1) := by decide +kernel
theorem dX3_sunWanted_9 : decode cX3_sunWanted 9 = .ok (.iload_n 2, 1) := by decide +kernel
theorem dX3_sunWanted_10 : decode cX3_sunWanted 10 = .ok (.bipush 9, 2) := by decide +kernel
theorem dX3_sunWanted_12 : decode cX3_sunWanted 12 = .ok (.if_icmp .gt 49, 3) := by decide +kernel
theorem dX3_sunWanted_15 : decode cX3_sunWanted 15 = .ok (.aload_n 0, 1) := by decide +kernel
theorem dX3_sunWanted_16 : decode cX3_sunWanted 16 = .ok (.getfield 16, 3) := by decide +kernel
theorem dX3_sunWanted_19 : decode cX3_sunWanted 19 = .ok (.aload_n 0, 1) := by decide +kernel
theorem dX3_sunWanted_20 : decode cX3_sunWanted 20 = .ok (.getfield 12, 3) := by decide +kernel
theorem dX3_sunWanted_23 : decode cX3_sunWanted 23 = .ok (.invokevirtual 193, 3) := by decide +kernel
theorem dX3_sunWanted_26 : decode cX3_sunWanted 26 = .ok (.aload_n 0, 1) := by decide +kernel
theorem dX3_sunWanted_27 : decode cX3_sunWanted 27 = .ok (.getfield 16, 3) := by decide +kernel
theorem dX3_sunWanted_30 : decode cX3_sunWanted 30 = .ok (.iload_n 2, 1) := by decide +kernel
theorem dX3_sunWanted_31 : decode cX3_sunWanted 31 = .ok (.putfield 38, 3) := by decide +kernel
theorem dX3_sunWanted_34 : decode cX3_sunWanted 34 = .ok (.aload_n 0, 1) := by decide +kernel
theorem dX3_sunWanted_35 : decode cX3_sunWanted 35 = .ok (.getfield 16, 3) := by decide +kernel
theorem dX3_sunWanted_38 : decode cX3_sunWanted 38 = .ok (.iload_n 1, 1) := by decide +kernel
theorem dX3_sunWanted_39 : decode cX3_sunWanted 39 = .ok (.invokevirtual 108, 3) := by decide +kernel
theorem dX3_sunWanted_42 : decode cX3_sunWanted 42 = .ok (.pop, 1) := by decide +kernel
theorem dX3_sunWanted_43 : decode cX3_sunWanted 43 = .ok (.aload_n 0, 1) := by decide +kernel
theorem dX3_sunWanted_44 : decode cX3_sunWanted 44 = .ok (.getfield 16, 3) := by decide +kernel
theorem dX3_sunWanted_47 : decode cX3_sunWanted 47 = .ok (.invokevirtual 196, 3) := by decide +kernel
theorem dX3_sunWanted_50 : decode cX3_sunWanted 50 = .ok (.ifCond .eq 5, 3) := by decide +kernel
theorem dX3_sunWanted_53 : decode cX3_sunWanted 53 = .ok (.iload_n 2, 1) := by decide +kernel
theorem dX3_sunWanted_54 : decode cX3_sunWanted 54 = .ok (.ireturn, 1) := by decide +kernel
theorem dX3_sunWanted_55 : decode cX3_sunWanted 55 = .ok (.iinc 2 1, 3) := by decide +kernel
theorem dX3_sunWanted_58 : decode cX3_sunWanted 58 = .ok (.goto (-49), 3) := by decide +kernel
theorem dX3_sunWanted_61 : decode cX3_sunWanted 61 = .ok (.iconst (-1), 1) := by decide +kernel
theorem dX3_sunWanted_62 : decode cX3_sunWanted 62 = .ok (.ireturn, 1) := by decide +kernel
theorem dX3_bestEdge_0 : decode cX3_bestEdge 0 = .ok (.aload_n 0, 1) := by decide +kernel
theorem dX3_bestEdge_1 : decode cX3_bestEdge 1 = .ok (.iload_n 1, 1) := by decide +kernel
theorem dX3_bestEdge_2 : decode cX3_bestEdge 2 = .ok (.invokevirtual 141, 3) := by decide +kernel
theorem dX3_bestEdge_5 : decode cX3_bestEdge 5 = .ok (.iload_n 2, 1) := by decide +kernel
theorem dX3_bestEdge_6 : decode cX3_bestEdge 6 = .ok (.iconst 1, 1) := by decide +kernel
theorem dX3_bestEdge_7 : decode cX3_bestEdge 7 = .ok (.bipush 40, 2) := by decide +kernel
theorem dX3_bestEdge_9 : decode cX3_bestEdge 9 = .ok (.invokestatic 46, 3) := by decide +kernel
theorem dX3_bestEdge_12 : decode cX3_bestEdge 12 = .ok (.iconst 0, 1) := by decide +kernel
theorem dX3_bestEdge_13 : decode cX3_bestEdge 13 = .ok (.istore_n 3, 1) := by decide +kernel
theorem dX3_bestEdge_14 : decode cX3_bestEdge 14 = .ok (.ldc 183, 2) := by decide +kernel
theorem dX3_bestEdge_16 : decode cX3_bestEdge 16 = .ok (.istore 4, 2) := by decide +kernel
theorem dX3_bestEdge_18 : decode cX3_bestEdge 18 = .ok (.iconst 0, 1) := by decide +kernel
theorem dX3_bestEdge_19 : decode cX3_bestEdge 19 = .ok (.istore 5, 2) := by decide +kernel
theorem dX3_bestEdge_21 : decode cX3_bestEdge 21 = .ok (.iload 5, 2) := by decide +kernel
theorem dX3_bestEdge_23 : decode cX3_bestEdge 23 = .ok (.sipush 300, 3) := by decide +kernel
theorem dX3_bestEdge_26 : decode cX3_bestEdge 26 = .ok (.if_icmp .gt 60, 3) := by decide +kernel
theorem dX3_bestEdge_29 : decode cX3_bestEdge 29 = .ok (.iload 4, 2) := by decide +kernel
theorem dX3_bestEdge_31 : decode cX3_bestEdge 31 = .ok (.ifCond .le 55, 3) := by decide +kernel
theorem dX3_bestEdge_34 : decode cX3_bestEdge 34 = .ok (.aload_n 0, 1) := by decide +kernel
theorem dX3_bestEdge_35 : decode cX3_bestEdge 35 = .ok (.getfield 16, 3) := by decide +kernel
theorem dX3_bestEdge_38 : decode cX3_bestEdge 38 = .ok (.aload_n 0, 1) := by decide +kernel
theorem dX3_bestEdge_39 : decode cX3_bestEdge 39 = .ok (.getfield 12, 3) := by decide +kernel
theorem dX3_bestEdge_42 : decode cX3_bestEdge 42 = .ok (.invokevirtual 193, 3) := by decide +kernel
theorem dX3_bestEdge_45 : decode cX3_bestEdge 45 = .ok (.aload_n 0, 1) := by decide +kernel
theorem dX3_bestEdge_46 : decode cX3_bestEdge 46 = .ok (.getfield 16, 3) := by decide +kernel
theorem dX3_bestEdge_49 : decode cX3_bestEdge 49 = .ok (.getfield 144, 3) := by decide +kernel
theorem dX3_bestEdge_52 : decode cX3_bestEdge 52 = .ok (.iload_n 1, 1) := by decide +kernel
theorem dX3_bestEdge_53 : decode cX3_bestEdge 53 = .ok (.iload 5, 2) := by decide +kernel
theorem dX3_bestEdge_55 : decode cX3_bestEdge 55 = .ok (.iastore, 1) := by decide +kernel
theorem dX3_bestEdge_56 : decode cX3_bestEdge 56 = .ok (.aload_n 0, 1) := by decide +kernel
theorem dX3_bestEdge_57 : decode cX3_bestEdge 57 = .ok (.getfield 16, 3) := by decide +kernel
theorem dX3_bestEdge_60 : decode cX3_bestEdge 60 = .ok (.iload_n 2, 1) := by decide +kernel
theorem dX3_bestEdge_61 : decode cX3_bestEdge 61 = .ok (.invokevirtual 108, 3) := by decide +kernel
theorem dX3_bestEdge_64 : decode cX3_bestEdge 64 = .ok (.istore 6, 2) := by decide +kernel
theorem dX3_bestEdge_66 : decode cX3_bestEdge 66 = .ok (.iload 6, 2) := by decide +kernel
theorem dX3_bestEdge_68 : decode cX3_bestEdge 68 = .ok (.iload 4, 2) := by decide +kernel
theorem dX3_bestEdge_70 : decode cX3_bestEdge 70 = .ok (.if_icmp .ge 10, 3) := by decide +kernel
theorem dX3_bestEdge_73 : decode cX3_bestEdge 73 = .ok (.iload 6, 2) := by decide +kernel
theorem dX3_bestEdge_75 : decode cX3_bestEdge 75 = .ok (.istore 4, 2) := by decide +kernel
theorem dX3_bestEdge_77 : decode cX3_bestEdge 77 = .ok (.iload 5, 2) := by decide +kernel
theorem dX3_bestEdge_79 : decode cX3_bestEdge 79 = .ok (.istore_n 3, 1) := by decide +kernel
theorem dX3_bestEdge_80 : decode cX3_bestEdge 80 = .ok (.iinc 5 10, 3) := by decide +kernel
theorem dX3_bestEdge_83 : decode cX3_bestEdge 83 = .ok (.goto (-62), 3) := by decide +kernel
theorem dX3_bestEdge_86 : decode cX3_bestEdge 86 = .ok (.iload_n 3, 1) := by decide +kernel
theorem dX3_bestEdge_87 : decode cX3_bestEdge 87 = .ok (.ireturn, 1) := by decide +kernel
theorem dX3_bestSwap_0 : decode cX3_bestSwap 0 = .ok (.aload_n 0, 1) := by decide +kernel
theorem dX3_bestSwap_1 : decode cX3_bestSwap 1 = .ok (.iload_n 1, 1) := by decide +kernel
theorem dX3_bestSwap_2 : decode cX3_bestSwap 2 = .ok (.invokevirtual 74, 3) := by decide +kernel
theorem dX3_bestSwap_5 : decode cX3_bestSwap 5 = .ok (.aload_n 0, 1) := by decide +kernel
theorem dX3_bestSwap_6 : decode cX3_bestSwap 6 = .ok (.getfield 34, 3) := by decide +kernel
theorem dX3_bestSwap_9 : decode cX3_bestSwap 9 = .ok (.aload_n 0, 1) := by decide +kernel
theorem dX3_bestSwap_10 : decode cX3_bestSwap 10 = .ok (.getfield 12, 3) := by decide +kernel
theorem dX3_bestSwap_13 : decode cX3_bestSwap 13 = .ok (.invokevirtual 187, 3) := by decide +kernel
theorem dX3_bestSwap_16 : decode cX3_bestSwap 16 = .ok (.aload_n 0, 1) := by decide +kernel
theorem dX3_bestSwap_17 : decode cX3_bestSwap 17 = .ok (.getfield 34, 3) := by decide +kernel
theorem dX3_bestSwap_20 : decode cX3_bestSwap 20 = .ok (.iload_n 1, 1) := by decide +kernel
theorem dX3_bestSwap_21 : decode cX3_bestSwap 21 = .ok (.invokevirtual 203, 3) := by decide +kernel
theorem dX3_bestSwap_24 : decode cX3_bestSwap 24 = .ok (.ireturn, 1) := by decide +kernel
theorem dX3_meanLevel_0 : decode cX3_meanLevel 0 = .ok (.aload_n 0, 1) := by decide +kernel
theorem dX3_meanLevel_1 : decode cX3_meanLevel 1 = .ok (.getfield 12, 3) := by decide +kernel
theorem dX3_meanLevel_4 : decode cX3_meanLevel 4 = .ok (.invokevirtual 53, 3) := by decide +kernel
theorem dX3_meanLevel_7 : decode cX3_meanLevel 7 = .ok (.istore_n 1, 1) := by decide +kernel
theorem dX3_meanLevel_8 : decode cX3_meanLevel 8 = .ok (.iload_n 1, 1) := by decide +kernel
theorem dX3_meanLevel_9 : decode cX3_meanLevel 9 = .ok (.iconst 1, 1) := by decide +kernel
theorem dX3_meanLevel_10 : decode cX3_meanLevel 10 = .ok (.if_icmp .ge 7, 3) := by decide +kernel
theorem dX3_meanLevel_13 : decode cX3_meanLevel 13 = .ok (.dconst 0, 1) := by decide +kernel
theorem dX3_meanLevel_14 : decode cX3_meanLevel 14 = .ok (.goto 14, 3) := by decide +kernel
theorem dX3_meanLevel_17 : decode cX3_meanLevel 17 = .ok (.aload_n 0, 1) := by decide +kernel
theorem dX3_meanLevel_18 : decode cX3_meanLevel 18 = .ok (.getfield 12, 3) := by decide +kernel
theorem dX3_meanLevel_21 : decode cX3_meanLevel 21 = .ok (.invokevirtual 155, 3) := by decide +kernel
theorem dX3_meanLevel_24 : decode cX3_meanLevel 24 = .ok (.l2d, 1) := by decide +kernel
theorem dX3_meanLevel_25 : decode cX3_meanLevel 25 = .ok (.iload_n 1, 1) := by decide +kernel
theorem dX3_meanLevel_26 : decode cX3_meanLevel 26 = .ok (.i2d, 1) := by decide +kernel
theorem dX3_meanLevel_27 : decode cX3_meanLevel 27 = .ok (.ddiv, 1) := by decide +kernel
theorem dX3_meanLevel_28 : decode cX3_meanLevel 28 = .ok (.dreturn, 1) := by decide +kernel
theorem dX3_digest_0 : decode cX3_digest 0 = .ok (.ldc2_w 206, 3) := by decide +kernel
theorem dX3_digest_3 : decode cX3_digest 3 = .ok (.aload_n 0, 1) := by decide +kernel
theorem dX3_digest_4 : decode cX3_digest 4 = .ok (.invokevirtual 208, 3) := by decide +kernel
theorem dX3_digest_7 : decode cX3_digest 7 = .ok (.i2l, 1) := by decide +kernel
theorem dX3_digest_8 : decode cX3_digest 8 = .ok (.invokestatic 211, 3) := by decide +kernel
theorem dX3_digest_11 : decode cX3_digest 11 = .ok (.lstore_n 1, 1) := by decide +kernel
theorem dX3_digest_12 : decode cX3_digest 12 = .ok (.lload_n 1, 1) := by decide +kernel
theorem dX3_digest_13 : decode cX3_digest 13 = .ok (.aload_n 0, 1) := by decide +kernel
theorem dX3_digest_14 : decode cX3_digest 14 = .ok (.invokevirtual 214, 3) := by decide +kernel
theorem dX3_digest_17 : decode cX3_digest 17 = .ok (.i2l, 1) := by decide +kernel
theorem dX3_digest_18 : decode cX3_digest 18 = .ok (.invokestatic 211, 3) := by decide +kernel
theorem dX3_digest_21 : decode cX3_digest 21 = .ok (.lstore_n 1, 1) := by decide +kernel
theorem dX3_digest_22 : decode cX3_digest 22 = .ok (.lload_n 1, 1) := by decide +kernel
theorem dX3_digest_23 : decode cX3_digest 23 = .ok (.aload_n 0, 1) := by decide +kernel
theorem dX3_digest_24 : decode cX3_digest 24 = .ok (.invokevirtual 217, 3) := by decide +kernel
theorem dX3_digest_27 : decode cX3_digest 27 = .ok (.i2l, 1) := by decide +kernel
theorem dX3_digest_28 : decode cX3_digest 28 = .ok (.invokestatic 211, 3) := by decide +kernel
theorem dX3_digest_31 : decode cX3_digest 31 = .ok (.lstore_n 1, 1) := by decide +kernel
theorem dX3_digest_32 : decode cX3_digest 32 = .ok (.lload_n 1, 1) := by decide +kernel
theorem dX3_digest_33 : decode cX3_digest 33 = .ok (.aload_n 0, 1) := by decide +kernel
theorem dX3_digest_34 : decode cX3_digest 34 = .ok (.invokevirtual 220, 3) := by decide +kernel
theorem dX3_digest_37 : decode cX3_digest 37 = .ok (.i2l, 1) := by decide +kernel
theorem dX3_digest_38 : decode cX3_digest 38 = .ok (.invokestatic 211, 3) := by decide +kernel
theorem dX3_digest_41 : decode cX3_digest 41 = .ok (.lstore_n 1, 1) := by decide +kernel
theorem dX3_digest_42 : decode cX3_digest 42 = .ok (.lload_n 1, 1) := by decide +kernel
theorem dX3_digest_43 : decode cX3_digest 43 = .ok (.aload_n 0, 1) := by decide +kernel
theorem dX3_digest_44 : decode cX3_digest 44 = .ok (.invokevirtual 223, 3) := by decide +kernel
theorem dX3_digest_47 : decode cX3_digest 47 = .ok (.i2l, 1) := by decide +kernel
theorem dX3_digest_48 : decode cX3_digest 48 = .ok (.invokestatic 211, 3) := by decide +kernel
theorem dX3_digest_51 : decode cX3_digest 51 = .ok (.lstore_n 1, 1) := by decide +kernel
theorem dX3_digest_52 : decode cX3_digest 52 = .ok (.lload_n 1, 1) := by decide +kernel
theorem dX3_digest_53 : decode cX3_digest 53 = .ok (.aload_n 0, 1) := by decide +kernel
theorem dX3_digest_54 : decode cX3_digest 54 = .ok (.invokevirtual 226, 3) := by decide +kernel
theorem dX3_digest_57 : decode cX3_digest 57 = .ok (.i2l, 1) := by decide +kernel
theorem dX3_digest_58 : decode cX3_digest 58 = .ok (.invokestatic 211, 3) := by decide +kernel
theorem dX3_digest_61 : decode cX3_digest 61 = .ok (.lstore_n 1, 1) := by decide +kernel
theorem dX3_digest_62 : decode cX3_digest 62 = .ok (.lload_n 1, 1) := by decide +kernel
theorem dX3_digest_63 : decode cX3_digest 63 = .ok (.aload_n 0, 1) := by decide +kernel
theorem dX3_digest_64 : decode cX3_digest 64 = .ok (.invokevirtual 229, 3) := by decide +kernel
theorem dX3_digest_67 : decode cX3_digest 67 = .ok (.invokestatic 211, 3) := by decide +kernel
theorem dX3_digest_70 : decode cX3_digest 70 = .ok (.lstore_n 1, 1) := by decide +kernel
theorem dX3_digest_71 : decode cX3_digest 71 = .ok (.lload_n 1, 1) := by decide +kernel
theorem dX3_digest_72 : decode cX3_digest 72 = .ok (.aload_n 0, 1) := by decide +kernel
theorem dX3_digest_73 : decode cX3_digest 73 = .ok (.invokevirtual 232, 3) := by decide +kernel
theorem dX3_digest_76 : decode cX3_digest 76 = .ok (.invokestatic 211, 3) := by decide +kernel
theorem dX3_digest_79 : decode cX3_digest 79 = .ok (.lstore_n 1, 1) := by decide +kernel
theorem dX3_digest_80 : decode cX3_digest 80 = .ok (.lload_n 1, 1) := by decide +kernel
theorem dX3_digest_81 : decode cX3_digest 81 = .ok (.aload_n 0, 1) := by decide +kernel
theorem dX3_digest_82 : decode cX3_digest 82 = .ok (.invokevirtual 235, 3) := by decide +kernel
theorem dX3_digest_85 : decode cX3_digest 85 = .ok (.i2l, 1) := by decide +kernel
theorem dX3_digest_86 : decode cX3_digest 86 = .ok (.invokestatic 211, 3) := by decide +kernel
theorem dX3_digest_89 : decode cX3_digest 89 = .ok (.lstore_n 1, 1) := by decide +kernel
theorem dX3_digest_90 : decode cX3_digest 90 = .ok (.lload_n 1, 1) := by decide +kernel
theorem dX3_digest_91 : decode cX3_digest 91 = .ok (.aload_n 0, 1) := by decide +kernel
theorem dX3_digest_92 : decode cX3_digest 92 = .ok (.invokevirtual 238, 3) := by decide +kernel
theorem dX3_digest_95 : decode cX3_digest 95 = .ok (.i2l, 1) := by decide +kernel
theorem dX3_digest_96 : decode cX3_digest 96 = .ok (.invokestatic 211, 3) := by decide +kernel
theorem dX3_digest_99 : decode cX3_digest 99 = .ok (.lstore_n 1, 1) := by decide +kernel
theorem dX3_digest_100 : decode cX3_digest 100 = .ok (.lload_n 1, 1) := by decide +kernel
theorem dX3_digest_101 : decode cX3_digest 101 = .ok (.aload_n 0, 1) := by decide +kernel
theorem dX3_digest_102 : decode cX3_digest 102 = .ok (.invokevirtual 241, 3) := by decide +kernel
theorem dX3_digest_105 : decode cX3_digest 105 = .ok (.i2l, 1) := by decide +kernel
theorem dX3_digest_106 : decode cX3_digest 106 = .ok (.invokestatic 211, 3) := by decide +kernel
theorem dX3_digest_109 : decode cX3_digest 109 = .ok (.lstore_n 1, 1) := by decide +kernel
theorem dX3_digest_110 : decode cX3_digest 110 = .ok (.lload_n 1, 1) := by decide +kernel
theorem dX3_digest_111 : decode cX3_digest 111 = .ok (.aload_n 0, 1) := by decide +kernel
theorem dX3_digest_112 : decode cX3_digest 112 = .ok (.invokevirtual 244, 3) := by decide +kernel
theorem dX3_digest_115 : decode cX3_digest 115 = .ok (.i2l, 1) := by decide +kernel
theorem dX3_digest_116 : decode cX3_digest 116 = .ok (.invokestatic 211, 3) := by decide +kernel
theorem dX3_digest_119 : decode cX3_digest 119 = .ok (.lstore_n 1, 1) := by decide +kernel
theorem dX3_digest_120 : decode cX3_digest 120 = .ok (.lload_n 1, 1) := by decide +kernel
theorem dX3_digest_121 : decode cX3_digest 121 = .ok (.aload_n 0, 1) := by decide +kernel
theorem dX3_digest_122 : decode cX3_digest 122 = .ok (.iconst 3, 1) := by decide +kernel
theorem dX3_digest_123 : decode cX3_digest 123 = .ok (.invokevirtual 247, 3) := by decide +kernel
theorem dX3_digest_126 : decode cX3_digest 126 = .ok (.invokestatic 211, 3) := by decide +kernel
theorem dX3_digest_129 : decode cX3_digest 129 = .ok (.lstore_n 1, 1) := by decide +kernel
theorem dX3_digest_130 : decode cX3_digest 130 = .ok (.lload_n 1, 1) := by decide +kernel
theorem dX3_digest_131 : decode cX3_digest 131 = .ok (.aload_n 0, 1) := by decide +kernel
theorem dX3_digest_132 : decode cX3_digest 132 = .ok (.iconst 3, 1) := by decide +kernel
theorem dX3_digest_133 : decode cX3_digest 133 = .ok (.invokevirtual 251, 3) := by decide +kernel
theorem dX3_digest_136 : decode cX3_digest 136 = .ok (.i2l, 1) := by decide +kernel
theorem dX3_digest_137 : decode cX3_digest 137 = .ok (.invokestatic 211, 3) := by decide +kernel
theorem dX3_digest_140 : decode cX3_digest 140 = .ok (.lstore_n 1, 1) := by decide +kernel
theorem dX3_digest_141 : decode cX3_digest 141 = .ok (.lload_n 1, 1) := by decide +kernel
theorem dX3_digest_142 : decode cX3_digest 142 = .ok (.aload_n 0, 1) := by decide +kernel
theorem dX3_digest_143 : decode cX3_digest 143 = .ok (.iconst 5, 1) := by decide +kernel
theorem dX3_digest_144 : decode cX3_digest 144 = .ok (.invokevirtual 254, 3) := by decide +kernel
theorem dX3_digest_147 : decode cX3_digest 147 = .ok (.i2l, 1) := by decide +kernel
theorem dX3_digest_148 : decode cX3_digest 148 = .ok (.invokestatic 211, 3) := by decide +kernel
theorem dX3_digest_151 : decode cX3_digest 151 = .ok (.lstore_n 1, 1) := by decide +kernel
theorem dX3_digest_152 : decode cX3_digest 152 = .ok (.aload_n 0, 1) := by decide +kernel
theorem dX3_digest_153 : decode cX3_digest 153 = .ok (.lload_n 1, 1) := by decide +kernel
theorem dX3_digest_154 : decode cX3_digest 154 = .ok (.invokevirtual 257, 3) := by decide +kernel
theorem dX3_digest_157 : decode cX3_digest 157 = .ok (.lstore_n 1, 1) := by decide +kernel
theorem dX3_digest_158 : decode cX3_digest 158 = .ok (.aload_n 0, 1) := by decide +kernel
theorem dX3_digest_159 : decode cX3_digest 159 = .ok (.lload_n 1, 1) := by decide +kernel
theorem dX3_digest_160 : decode cX3_digest 160 = .ok (.invokevirtual 261, 3) := by decide +kernel
theorem dX3_digest_163 : decode cX3_digest 163 = .ok (.lstore_n 1, 1) := by decide +kernel
theorem dX3_digest_164 : decode cX3_digest 164 = .ok (.aload_n 0, 1) := by decide +kernel
theorem dX3_digest_165 : decode cX3_digest 165 = .ok (.lload_n 1, 1) := by decide +kernel
theorem dX3_digest_166 : decode cX3_digest 166 = .ok (.invokevirtual 264, 3) := by decide +kernel
theorem dX3_digest_169 : decode cX3_digest 169 = .ok (.lreturn, 1) := by decide +kernel
theorem dX3_digested_0 : decode cX3_digested 0 = .ok (.lload_n 0, 1) := by decide +kernel
theorem dX3_digested_1 : decode cX3_digested 1 = .ok (.ldc2_w 267, 3) := by decide +kernel
theorem dX3_digested_4 : decode cX3_digested 4 = .ok (.lmul, 1) := by decide +kernel
theorem dX3_digested_5 : decode cX3_digested 5 = .ok (.lload_n 2, 1) := by decide +kernel
theorem dX3_digested_6 : decode cX3_digested 6 = .ok (.ladd, 1) := by decide +kernel
theorem dX3_digested_7 : decode cX3_digested 7 = .ok (.lreturn, 1) := by decide +kernel
theorem dX3_digestedFlights_0 : decode cX3_digestedFlights 0 = .ok (.lload_n 1, 1) := by decide +kernel
theorem dX3_digestedFlights_1 : decode cX3_digestedFlights 1 = .ok (.lstore_n 3, 1) := by decide +kernel
theorem dX3_digestedFlights_2 : decode cX3_digestedFlights 2 = .ok (.aload_n 0, 1) := by decide +kernel
theorem dX3_digestedFlights_3 : decode cX3_digestedFlights 3 = .ok (.getfield 34, 3) := by decide +kernel
theorem dX3_digestedFlights_6 : decode cX3_digestedFlights 6 = .ok (.aload_n 0, 1) := by decide +kernel
theorem dX3_digestedFlights_7 : decode cX3_digestedFlights 7 = .ok (.getfield 12, 3) := by decide +kernel
theorem dX3_digestedFlights_10 : decode cX3_digestedFlights 10 = .ok (.invokevirtual 187, 3) := by decide +kernel
theorem dX3_digestedFlights_13 : decode cX3_digestedFlights 13 = .ok (.iconst 0, 1) := by decide +kernel
theorem dX3_digestedFlights_14 : decode cX3_digestedFlights 14 = .ok (.istore 5, 2) := by decide +kernel
theorem dX3_digestedFlights_16 : decode cX3_digestedFlights 16 = .ok (.iload 5, 2) := by decide +kernel
theorem dX3_digestedFlights_18 : decode cX3_digestedFlights 18 = .ok (.aload_n 0, 1) := by decide +kernel
theorem dX3_digestedFlights_19 : decode cX3_digestedFlights 19 = .ok (.getfield 12, 3) := by decide +kernel
theorem dX3_digestedFlights_22 : decode cX3_digestedFlights 22 = .ok (.getfield 148, 3) := by decide +kernel
theorem dX3_digestedFlights_25 : decode cX3_digestedFlights 25 = .ok (.if_icmp .ge 108, 3) := by decide +kernel
theorem dX3_digestedFlights_28 : decode cX3_digestedFlights 28 = .ok (.lload_n 3, 1) := by decide +kernel
theorem dX3_digestedFlights_29 : decode cX3_digestedFlights 29 = .ok (.aload_n 0, 1) := by decide +kernel
theorem dX3_digestedFlights_30 : decode cX3_digestedFlights 30 = .ok (.iload 5, 2) := by decide +kernel
theorem dX3_digestedFlights_32 : decode cX3_digestedFlights 32 = .ok (.invokevirtual 269, 3) := by decide +kernel
theorem dX3_digestedFlights_35 : decode cX3_digestedFlights 35 = .ok (.invokestatic 211, 3) := by decide +kernel
theorem dX3_digestedFlights_38 : decode cX3_digestedFlights 38 = .ok (.lstore_n 3, 1) := by decide +kernel
theorem dX3_digestedFlights_39 : decode cX3_digestedFlights 39 = .ok (.lload_n 3, 1) := by decide +kernel
theorem dX3_digestedFlights_40 : decode cX3_digestedFlights 40 = .ok (.aload_n 0, 1) := by decide +kernel
theorem dX3_digestedFlights_41 : decode cX3_digestedFlights 41 = .ok (.iload 5, 2) := by decide +kernel
theorem dX3_digestedFlights_43 : decode cX3_digestedFlights 43 = .ok (.invokevirtual 272, 3) := by decide +kernel
theorem dX3_digestedFlights_46 : decode cX3_digestedFlights 46 = .ok (.invokestatic 211, 3) := by decide +kernel
theorem dX3_digestedFlights_49 : decode cX3_digestedFlights 49 = .ok (.lstore_n 3, 1) := by decide +kernel
theorem dX3_digestedFlights_50 : decode cX3_digestedFlights 50 = .ok (.lload_n 3, 1) := by decide +kernel
theorem dX3_digestedFlights_51 : decode cX3_digestedFlights 51 = .ok (.aload_n 0, 1) := by decide +kernel
theorem dX3_digestedFlights_52 : decode cX3_digestedFlights 52 = .ok (.iload 5, 2) := by decide +kernel
theorem dX3_digestedFlights_54 : decode cX3_digestedFlights 54 = .ok (.invokevirtual 275, 3) := by decide +kernel
theorem dX3_digestedFlights_57 : decode cX3_digestedFlights 57 = .ok (.i2l, 1) := by decide +kernel
theorem dX3_digestedFlights_58 : decode cX3_digestedFlights 58 = .ok (.invokestatic 211, 3) := by decide +kernel
theorem dX3_digestedFlights_61 : decode cX3_digestedFlights 61 = .ok (.lstore_n 3, 1) := by decide +kernel
theorem dX3_digestedFlights_62 : decode cX3_digestedFlights 62 = .ok (.lload_n 3, 1) := by decide +kernel
theorem dX3_digestedFlights_63 : decode cX3_digestedFlights 63 = .ok (.aload_n 0, 1) := by decide +kernel
theorem dX3_digestedFlights_64 : decode cX3_digestedFlights 64 = .ok (.iload 5, 2) := by decide +kernel
theorem dX3_digestedFlights_66 : decode cX3_digestedFlights 66 = .ok (.invokevirtual 278, 3) := by decide +kernel
theorem dX3_digestedFlights_69 : decode cX3_digestedFlights 69 = .ok (.i2l, 1) := by decide +kernel
theorem dX3_digestedFlights_70 : decode cX3_digestedFlights 70 = .ok (.invokestatic 211, 3) := by decide +kernel
theorem dX3_digestedFlights_73 : decode cX3_digestedFlights 73 = .ok (.lstore_n 3, 1) := by decide +kernel
theorem dX3_digestedFlights_74 : decode cX3_digestedFlights 74 = .ok (.lload_n 3, 1) := by decide +kernel
theorem dX3_digestedFlights_75 : decode cX3_digestedFlights 75 = .ok (.aload_n 0, 1) := by decide +kernel
theorem dX3_digestedFlights_76 : decode cX3_digestedFlights 76 = .ok (.getfield 34, 3) := by decide +kernel
theorem dX3_digestedFlights_79 : decode cX3_digestedFlights 79 = .ok (.iload 5, 2) := by decide +kernel
theorem dX3_digestedFlights_81 : decode cX3_digestedFlights 81 = .ok (.invokevirtual 203, 3) := by decide +kernel
theorem dX3_digestedFlights_84 : decode cX3_digestedFlights 84 = .ok (.i2l, 1) := by decide +kernel
theorem dX3_digestedFlights_85 : decode cX3_digestedFlights 85 = .ok (.invokestatic 211, 3) := by decide +kernel
theorem dX3_digestedFlights_88 : decode cX3_digestedFlights 88 = .ok (.lstore_n 3, 1) := by decide +kernel
theorem dX3_digestedFlights_89 : decode cX3_digestedFlights 89 = .ok (.iconst 0, 1) := by decide +kernel
theorem dX3_digestedFlights_90 : decode cX3_digestedFlights 90 = .ok (.istore 6, 2) := by decide +kernel
theorem dX3_digestedFlights_92 : decode cX3_digestedFlights 92 = .ok (.iload 6, 2) := by decide +kernel
theorem dX3_digestedFlights_94 : decode cX3_digestedFlights 94 = .ok (.aload_n 0, 1) := by decide +kernel
theorem dX3_digestedFlights_95 : decode cX3_digestedFlights 95 = .ok (.getfield 12, 3) := by decide +kernel
theorem dX3_digestedFlights_98 : decode cX3_digestedFlights 98 = .ok (.getfield 77, 3) := by decide +kernel
theorem dX3_digestedFlights_101 : decode cX3_digestedFlights 101 = .ok (.if_icmp .ge 26, 3) := by decide +kernel
theorem dX3_digestedFlights_104 : decode cX3_digestedFlights 104 = .ok (.lload_n 3, 1) := by decide +kernel
theorem dX3_digestedFlights_105 : decode cX3_digestedFlights 105 = .ok (.aload_n 0, 1) := by decide +kernel
theorem dX3_digestedFlights_106 : decode cX3_digestedFlights 106 = .ok (.getfield 12, 3) := by decide +kernel
theorem dX3_digestedFlights_109 : decode cX3_digestedFlights 109 = .ok (.iload 5, 2) := by decide +kernel
theorem dX3_digestedFlights_111 : decode cX3_digestedFlights 111 = .ok (.iload 6, 2) := by decide +kernel
theorem dX3_digestedFlights_113 : decode cX3_digestedFlights 113 = .ok (.invokevirtual 66, 3) := by decide +kernel
theorem dX3_digestedFlights_116 : decode cX3_digestedFlights 116 = .ok (.i2l, 1) := by decide +kernel
theorem dX3_digestedFlights_117 : decode cX3_digestedFlights 117 = .ok (.invokestatic 211, 3) := by decide +kernel
theorem dX3_digestedFlights_120 : decode cX3_digestedFlights 120 = .ok (.lstore_n 3, 1) := by decide +kernel
theorem dX3_digestedFlights_121 : decode cX3_digestedFlights 121 = .ok (.iinc 6 1, 3) := by decide +kernel
theorem dX3_digestedFlights_124 : decode cX3_digestedFlights 124 = .ok (.goto (-32), 3) := by decide +kernel
theorem dX3_digestedFlights_127 : decode cX3_digestedFlights 127 = .ok (.iinc 5 1, 3) := by decide +kernel
theorem dX3_digestedFlights_130 : decode cX3_digestedFlights 130 = .ok (.goto (-114), 3) := by decide +kernel
theorem dX3_digestedFlights_133 : decode cX3_digestedFlights 133 = .ok (.lload_n 3, 1) := by decide +kernel
theorem dX3_digestedFlights_134 : decode cX3_digestedFlights 134 = .ok (.lreturn, 1) := by decide +kernel
theorem dX3_digestedSteps_0 : decode cX3_digestedSteps 0 = .ok (.lload_n 1, 1) := by decide +kernel
theorem dX3_digestedSteps_1 : decode cX3_digestedSteps 1 = .ok (.lstore_n 3, 1) := by decide +kernel
theorem dX3_digestedSteps_2 : decode cX3_digestedSteps 2 = .ok (.iconst 0, 1) := by decide +kernel
theorem dX3_digestedSteps_3 : decode cX3_digestedSteps 3 = .ok (.istore 5, 2) := by decide +kernel
theorem dX3_digestedSteps_5 : decode cX3_digestedSteps 5 = .ok (.iload 5, 2) := by decide +kernel
theorem dX3_digestedSteps_7 : decode cX3_digestedSteps 7 = .ok (.aload_n 0, 1) := by decide +kernel
theorem dX3_digestedSteps_8 : decode cX3_digestedSteps 8 = .ok (.getfield 12, 3) := by decide +kernel
theorem dX3_digestedSteps_11 : decode cX3_digestedSteps 11 = .ok (.getfield 77, 3) := by decide +kernel
theorem dX3_digestedSteps_14 : decode cX3_digestedSteps 14 = .ok (.if_icmp .ge 32, 3) := by decide +kernel
theorem dX3_digestedSteps_17 : decode cX3_digestedSteps 17 = .ok (.lload_n 3, 1) := by decide +kernel
theorem dX3_digestedSteps_18 : decode cX3_digestedSteps 18 = .ok (.aload_n 0, 1) := by decide +kernel
theorem dX3_digestedSteps_19 : decode cX3_digestedSteps 19 = .ok (.iload 5, 2) := by decide +kernel
theorem dX3_digestedSteps_21 : decode cX3_digestedSteps 21 = .ok (.invokevirtual 281, 3) := by decide +kernel
theorem dX3_digestedSteps_24 : decode cX3_digestedSteps 24 = .ok (.i2l, 1) := by decide +kernel
theorem dX3_digestedSteps_25 : decode cX3_digestedSteps 25 = .ok (.invokestatic 211, 3) := by decide +kernel
theorem dX3_digestedSteps_28 : decode cX3_digestedSteps 28 = .ok (.lstore_n 3, 1) := by decide +kernel
theorem dX3_digestedSteps_29 : decode cX3_digestedSteps 29 = .ok (.lload_n 3, 1) := by decide +kernel
theorem dX3_digestedSteps_30 : decode cX3_digestedSteps 30 = .ok (.aload_n 0, 1) := by decide +kernel
theorem dX3_digestedSteps_31 : decode cX3_digestedSteps 31 = .ok (.iload 5, 2) := by decide +kernel
theorem dX3_digestedSteps_33 : decode cX3_digestedSteps 33 = .ok (.invokevirtual 284, 3) := by decide +kernel
theorem dX3_digestedSteps_36 : decode cX3_digestedSteps 36 = .ok (.invokestatic 211, 3) := by decide +kernel
theorem dX3_digestedSteps_39 : decode cX3_digestedSteps 39 = .ok (.lstore_n 3, 1) := by decide +kernel
theorem dX3_digestedSteps_40 : decode cX3_digestedSteps 40 = .ok (.iinc 5 1, 3) := by decide +kernel
theorem dX3_digestedSteps_43 : decode cX3_digestedSteps 43 = .ok (.goto (-38), 3) := by decide +kernel
theorem dX3_digestedSteps_46 : decode cX3_digestedSteps 46 = .ok (.lload_n 3, 1) := by decide +kernel
theorem dX3_digestedSteps_47 : decode cX3_digestedSteps 47 = .ok (.lreturn, 1) := by decide +kernel
theorem dX3_digestedMarks_0 : decode cX3_digestedMarks 0 = .ok (.lload_n 1, 1) := by decide +kernel
theorem dX3_digestedMarks_1 : decode cX3_digestedMarks 1 = .ok (.lstore_n 3, 1) := by decide +kernel
theorem dX3_digestedMarks_2 : decode cX3_digestedMarks 2 = .ok (.iconst 0, 1) := by decide +kernel
theorem dX3_digestedMarks_3 : decode cX3_digestedMarks 3 = .ok (.istore 5, 2) := by decide +kernel
theorem dX3_digestedMarks_5 : decode cX3_digestedMarks 5 = .ok (.iload 5, 2) := by decide +kernel
theorem dX3_digestedMarks_7 : decode cX3_digestedMarks 7 = .ok (.aload_n 0, 1) := by decide +kernel
theorem dX3_digestedMarks_8 : decode cX3_digestedMarks 8 = .ok (.getfield 28, 3) := by decide +kernel
theorem dX3_digestedMarks_11 : decode cX3_digestedMarks 11 = .ok (.getfield 89, 3) := by decide +kernel
theorem dX3_digestedMarks_14 : decode cX3_digestedMarks 14 = .ok (.if_icmp .ge 21, 3) := by decide +kernel
theorem dX3_digestedMarks_17 : decode cX3_digestedMarks 17 = .ok (.lload_n 3, 1) := by decide +kernel
theorem dX3_digestedMarks_18 : decode cX3_digestedMarks 18 = .ok (.aload_n 0, 1) := by decide +kernel
theorem dX3_digestedMarks_19 : decode cX3_digestedMarks 19 = .ok (.iload 5, 2) := by decide +kernel
theorem dX3_digestedMarks_21 : decode cX3_digestedMarks 21 = .ok (.invokevirtual 287, 3) := by decide +kernel
theorem dX3_digestedMarks_24 : decode cX3_digestedMarks 24 = .ok (.i2l, 1) := by decide +kernel
theorem dX3_digestedMarks_25 : decode cX3_digestedMarks 25 = .ok (.invokestatic 211, 3) := by decide +kernel
theorem dX3_digestedMarks_28 : decode cX3_digestedMarks 28 = .ok (.lstore_n 3, 1) := by decide +kernel
theorem dX3_digestedMarks_29 : decode cX3_digestedMarks 29 = .ok (.iinc 5 1, 3) := by decide +kernel
theorem dX3_digestedMarks_32 : decode cX3_digestedMarks 32 = .ok (.goto (-27), 3) := by decide +kernel
theorem dX3_digestedMarks_35 : decode cX3_digestedMarks 35 = .ok (.lload_n 3, 1) := by decide +kernel
theorem dX3_digestedMarks_36 : decode cX3_digestedMarks 36 = .ok (.lreturn, 1) := by decide +kernel
theorem dX3_keepDeed_0 : decode cX3_keepDeed 0 = .ok (.aload_n 0, 1) := by decide +kernel
theorem dX3_keepDeed_1 : decode cX3_keepDeed 1 = .ok (.getfield 24, 3) := by decide +kernel
theorem dX3_keepDeed_4 : decode cX3_keepDeed 4 = .ok (.aload_n 0, 1) := by decide +kernel
theorem dX3_keepDeed_5 : decode cX3_keepDeed 5 = .ok (.getfield 12, 3) := by decide +kernel
theorem dX3_keepDeed_8 : decode cX3_keepDeed 8 = .ok (.invokevirtual 126, 3) := by decide +kernel
theorem dX3_keepDeed_11 : decode cX3_keepDeed 11 = .ok (.return_, 1) := by decide +kernel
theorem dX3_checkIndex_0 : decode cX3_checkIndex 0 = .ok (.iload_n 0, 1) := by decide +kernel
theorem dX3_checkIndex_1 : decode cX3_checkIndex 1 = .ok (.ifCond .lt 8, 3) := by decide +kernel
theorem dX3_checkIndex_4 : decode cX3_checkIndex 4 = .ok (.iload_n 0, 1) := by decide +kernel
theorem dX3_checkIndex_5 : decode cX3_checkIndex 5 = .ok (.iload_n 1, 1) := by decide +kernel
theorem dX3_checkIndex_6 : decode cX3_checkIndex 6 = .ok (.if_icmp .lt 14, 3) := by decide +kernel
theorem dX3_checkIndex_9 : decode cX3_checkIndex 9 = .ok (.new 176, 3) := by decide +kernel
theorem dX3_checkIndex_12 : decode cX3_checkIndex 12 = .ok (.dup, 1) := by decide +kernel
theorem dX3_checkIndex_13 : decode cX3_checkIndex 13 = .ok (.ldc_w 290, 3) := by decide +kernel
theorem dX3_checkIndex_16 : decode cX3_checkIndex 16 = .ok (.invokespecial 180, 3) := by decide +kernel
theorem dX3_checkIndex_19 : decode cX3_checkIndex 19 = .ok (.athrow, 1) := by decide +kernel
theorem dX3_checkIndex_20 : decode cX3_checkIndex 20 = .ok (.return_, 1) := by decide +kernel
theorem dX3_checkNumber_0 : decode cX3_checkNumber 0 = .ok (.iload_n 0, 1) := by decide +kernel
theorem dX3_checkNumber_1 : decode cX3_checkNumber 1 = .ok (.iload_n 1, 1) := by decide +kernel
theorem dX3_checkNumber_2 : decode cX3_checkNumber 2 = .ok (.if_icmp .lt 8, 3) := by decide +kernel
theorem dX3_checkNumber_5 : decode cX3_checkNumber 5 = .ok (.iload_n 0, 1) := by decide +kernel
theorem dX3_checkNumber_6 : decode cX3_checkNumber 6 = .ok (.iload_n 2, 1) := by decide +kernel
theorem dX3_checkNumber_7 : decode cX3_checkNumber 7 = .ok (.if_icmp .le 14, 3) := by decide +kernel
theorem dX3_checkNumber_10 : decode cX3_checkNumber 10 = .ok (.new 292, 3) := by decide +kernel
theorem dX3_checkNumber_13 : decode cX3_checkNumber 13 = .ok (.dup, 1) := by decide +kernel
theorem dX3_checkNumber_14 : decode cX3_checkNumber 14 = .ok (.ldc_w 294, 3) := by decide +kernel
theorem dX3_checkNumber_17 : decode cX3_checkNumber 17 = .ok (.invokespecial 296, 3) := by decide +kernel
theorem dX3_checkNumber_20 : decode cX3_checkNumber 20 = .ok (.athrow, 1) := by decide +kernel
theorem dX3_checkNumber_21 : decode cX3_checkNumber 21 = .ok (.return_, 1) := by decide +kernel
theorem dX3_checkFlight_0 : decode cX3_checkFlight 0 = .ok (.iload_n 1, 1) := by decide +kernel
theorem dX3_checkFlight_1 : decode cX3_checkFlight 1 = .ok (.aload_n 0, 1) := by decide +kernel
theorem dX3_checkFlight_2 : decode cX3_checkFlight 2 = .ok (.getfield 12, 3) := by decide +kernel
theorem dX3_checkFlight_5 : decode cX3_checkFlight 5 = .ok (.getfield 148, 3) := by decide +kernel
theorem dX3_checkFlight_8 : decode cX3_checkFlight 8 = .ok (.invokestatic 184, 3) := by decide +kernel
theorem dX3_checkFlight_11 : decode cX3_checkFlight 11 = .ok (.return_, 1) := by decide +kernel
theorem dX3_checkStep_0 : decode cX3_checkStep 0 = .ok (.iload_n 1, 1) := by decide +kernel
theorem dX3_checkStep_1 : decode cX3_checkStep 1 = .ok (.aload_n 0, 1) := by decide +kernel
theorem dX3_checkStep_2 : decode cX3_checkStep 2 = .ok (.getfield 12, 3) := by decide +kernel
theorem dX3_checkStep_5 : decode cX3_checkStep 5 = .ok (.getfield 77, 3) := by decide +kernel
theorem dX3_checkStep_8 : decode cX3_checkStep 8 = .ok (.invokestatic 184, 3) := by decide +kernel
theorem dX3_checkStep_11 : decode cX3_checkStep 11 = .ok (.return_, 1) := by decide +kernel
theorem dX3_checkMark_0 : decode cX3_checkMark 0 = .ok (.iload_n 1, 1) := by decide +kernel
theorem dX3_checkMark_1 : decode cX3_checkMark 1 = .ok (.aload_n 0, 1) := by decide +kernel
theorem dX3_checkMark_2 : decode cX3_checkMark 2 = .ok (.getfield 28, 3) := by decide +kernel
theorem dX3_checkMark_5 : decode cX3_checkMark 5 = .ok (.getfield 89, 3) := by decide +kernel
theorem dX3_checkMark_8 : decode cX3_checkMark 8 = .ok (.invokestatic 184, 3) := by decide +kernel
theorem dX3_checkMark_11 : decode cX3_checkMark 11 = .ok (.return_, 1) := by decide +kernel
theorem dX3_checkPuddle_0 : decode cX3_checkPuddle 0 = .ok (.aload_n 0, 1) := by decide +kernel
theorem dX3_checkPuddle_1 : decode cX3_checkPuddle 1 = .ok (.iload_n 1, 1) := by decide +kernel
theorem dX3_checkPuddle_2 : decode cX3_checkPuddle 2 = .ok (.invokevirtual 74, 3) := by decide +kernel
theorem dX3_checkPuddle_5 : decode cX3_checkPuddle 5 = .ok (.aload_n 0, 1) := by decide +kernel
theorem dX3_checkPuddle_6 : decode cX3_checkPuddle 6 = .ok (.iload_n 2, 1) := by decide +kernel
theorem dX3_checkPuddle_7 : decode cX3_checkPuddle 7 = .ok (.invokevirtual 141, 3) := by decide +kernel
theorem dX3_checkPuddle_10 : decode cX3_checkPuddle 10 = .ok (.return_, 1) := by decide +kernel
theorem dX3_checkPart_0 : decode cX3_checkPart 0 = .ok (.aload_n 0, 1) := by decide +kernel
theorem dX3_checkPart_1 : decode cX3_checkPart 1 = .ok (.iload_n 1, 1) := by decide +kernel
theorem dX3_checkPart_2 : decode cX3_checkPart 2 = .ok (.iload_n 2, 1) := by decide +kernel
theorem dX3_checkPart_3 : decode cX3_checkPart 3 = .ok (.invokevirtual 57, 3) := by decide +kernel
theorem dX3_checkPart_6 : decode cX3_checkPart 6 = .ok (.aload_n 0, 1) := by decide +kernel
theorem dX3_checkPart_7 : decode cX3_checkPart 7 = .ok (.iload_n 3, 1) := by decide +kernel
theorem dX3_checkPart_8 : decode cX3_checkPart 8 = .ok (.iload 4, 2) := by decide +kernel
theorem dX3_checkPart_10 : decode cX3_checkPart 10 = .ok (.invokevirtual 57, 3) := by decide +kernel
theorem dX3_checkPart_13 : decode cX3_checkPart 13 = .ok (.iload_n 1, 1) := by decide +kernel
theorem dX3_checkPart_14 : decode cX3_checkPart 14 = .ok (.iload_n 3, 1) := by decide +kernel
theorem dX3_checkPart_15 : decode cX3_checkPart 15 = .ok (.if_icmp .gt 9, 3) := by decide +kernel
theorem dX3_checkPart_18 : decode cX3_checkPart 18 = .ok (.iload_n 2, 1) := by decide +kernel
theorem dX3_checkPart_19 : decode cX3_checkPart 19 = .ok (.iload 4, 2) := by decide +kernel
theorem dX3_checkPart_21 : decode cX3_checkPart 21 = .ok (.if_icmp .le 14, 3) := by decide +kernel
theorem dX3_checkPart_24 : decode cX3_checkPart 24 = .ok (.new 292, 3) := by decide +kernel
theorem dX3_checkPart_27 : decode cX3_checkPart 27 = .ok (.dup, 1) := by decide +kernel
theorem dX3_checkPart_28 : decode cX3_checkPart 28 = .ok (.ldc_w 297, 3) := by decide +kernel
theorem dX3_checkPart_31 : decode cX3_checkPart 31 = .ok (.invokespecial 296, 3) := by decide +kernel
theorem dX3_checkPart_34 : decode cX3_checkPart 34 = .ok (.athrow, 1) := by decide +kernel
theorem dX3_checkPart_35 : decode cX3_checkPart 35 = .ok (.return_, 1) := by decide +kernel
end
section
theorem dX4_init_0 : decode cX4_init 0 = .ok (.aload_n 0, 1) := by decide +kernel
theorem dX4_init_1 : decode cX4_init 1 = .ok (.invokespecial 3, 3) := by decide +kernel
theorem dX4_init_4 : decode cX4_init 4 = .ok (.aload_n 0, 1) := by decide +kernel
theorem dX4_init_5 : decode cX4_init 5 = .ok (.iconst 4, 1) := by decide +kernel
theorem dX4_init_6 : decode cX4_init 6 = .ok (.putfield 9, 3) := by decide +kernel
theorem dX4_init_9 : decode cX4_init 9 = .ok (.aload_n 0, 1) := by decide +kernel
theorem dX4_init_10 : decode cX4_init 10 = .ok (.bipush 8, 2) := by decide +kernel
theorem dX4_init_12 : decode cX4_init 12 = .ok (.putfield 13, 3) := by decide +kernel
theorem dX4_init_15 : decode cX4_init 15 = .ok (.aload_n 0, 1) := by decide +kernel
theorem dX4_init_16 : decode cX4_init 16 = .ok (.iconst 1, 1) := by decide +kernel
theorem dX4_init_17 : decode cX4_init 17 = .ok (.putfield 16, 3) := by decide +kernel
theorem dX4_init_20 : decode cX4_init 20 = .ok (.aload_n 0, 1) := by decide +kernel
theorem dX4_init_21 : decode cX4_init 21 = .ok (.bipush 16, 2) := by decide +kernel
theorem dX4_init_23 : decode cX4_init 23 = .ok (.newarray .int, 2) := by decide +kernel
theorem dX4_init_25 : decode cX4_init 25 = .ok (.putfield 19, 3) := by decide +kernel
theorem dX4_init_28 : decode cX4_init 28 = .ok (.aload_n 0, 1) := by decide +kernel
theorem dX4_init_29 : decode cX4_init 29 = .ok (.sipush 128, 3) := by decide +kernel
theorem dX4_init_32 : decode cX4_init 32 = .ok (.newarray .int, 2) := by decide +kernel
theorem dX4_init_34 : decode cX4_init 34 = .ok (.putfield 23, 3) := by decide +kernel
theorem dX4_init_37 : decode cX4_init 37 = .ok (.aload_n 0, 1) := by decide +kernel
theorem dX4_init_38 : decode cX4_init 38 = .ok (.sipush 3840, 3) := by decide +kernel
theorem dX4_init_41 : decode cX4_init 41 = .ok (.newarray .int, 2) := by decide +kernel
theorem dX4_init_43 : decode cX4_init 43 = .ok (.putfield 26, 3) := by decide +kernel
theorem dX4_init_46 : decode cX4_init 46 = .ok (.aload_n 0, 1) := by decide +kernel
theorem dX4_init_47 : decode cX4_init 47 = .ok (.sipush 1536, 3) := by decide +kernel
theorem dX4_init_50 : decode cX4_init 50 = .ok (.newarray .int, 2) := by decide +kernel
theorem dX4_init_52 : decode cX4_init 52 = .ok (.putfield 29, 3) := by decide +kernel
theorem dX4_init_55 : decode cX4_init 55 = .ok (.aload_n 0, 1) := by decide +kernel
theorem dX4_init_56 : decode cX4_init 56 = .ok (.sipush 128, 3) := by decide +kernel
theorem dX4_init_59 : decode cX4_init 59 = .ok (.newarray .int, 2) := by decide +kernel
theorem dX4_init_61 : decode cX4_init 61 = .ok (.putfield 32, 3) := by decide +kernel
theorem dX4_init_64 : decode cX4_init 64 = .ok (.aload_n 0, 1) := by decide +kernel
theorem dX4_init_65 : decode cX4_init 65 = .ok (.invokevirtual 35, 3) := by decide +kernel
theorem dX4_init_68 : decode cX4_init 68 = .ok (.return_, 1) := by decide +kernel
theorem dX4_thrown_0 : decode cX4_thrown 0 = .ok (.aload_n 0, 1) := by decide +kernel
theorem dX4_thrown_1 : decode cX4_thrown 1 = .ok (.getfield 38, 3) := by decide +kernel
theorem dX4_thrown_4 : decode cX4_thrown 4 = .ok (.ireturn, 1) := by decide +kernel
theorem dX4_no_0 : decode cX4_no 0 = .ok (.aload_n 0, 1) := by decide +kernel
theorem dX4_no_1 : decode cX4_no 1 = .ok (.iload_n 1, 1) := by decide +kernel
theorem dX4_no_2 : decode cX4_no 2 = .ok (.putfield 38, 3) := by decide +kernel
theorem dX4_no_5 : decode cX4_no 5 = .ok (.iconst 0, 1) := by decide +kernel
theorem dX4_no_6 : decode cX4_no 6 = .ok (.ireturn, 1) := by decide +kernel
theorem dX4_ok_0 : decode cX4_ok 0 = .ok (.aload_n 0, 1) := by decide +kernel
theorem dX4_ok_1 : decode cX4_ok 1 = .ok (.iconst 0, 1) := by decide +kernel
theorem dX4_ok_2 : decode cX4_ok 2 = .ok (.putfield 38, 3) := by decide +kernel
theorem dX4_ok_5 : decode cX4_ok 5 = .ok (.iload_n 1, 1) := by decide +kernel
theorem dX4_ok_6 : decode cX4_ok 6 = .ok (.ireturn, 1) := by decide +kernel
theorem dX4_okay_0 : decode cX4_okay 0 = .ok (.aload_n 0, 1) := by decide +kernel
theorem dX4_okay_1 : decode cX4_okay 1 = .ok (.iconst 0, 1) := by decide +kernel
theorem dX4_okay_2 : decode cX4_okay 2 = .ok (.putfield 38, 3) := by decide +kernel
theorem dX4_okay_5 : decode cX4_okay 5 = .ok (.lload_n 1, 1) := by decide +kernel
theorem dX4_okay_6 : decode cX4_okay 6 = .ok (.lreturn, 1) := by decide +kernel
theorem dX4_isIn_0 : decode cX4_isIn 0 = .ok (.iload_n 0, 1) := by decide +kernel
theorem dX4_isIn_1 : decode cX4_isIn 1 = .ok (.iload_n 1, 1) := by decide +kernel
theorem dX4_isIn_2 : decode cX4_isIn 2 = .ok (.if_icmp .lt 12, 3) := by decide +kernel
theorem dX4_isIn_5 : decode cX4_isIn 5 = .ok (.iload_n 0, 1) := by decide +kernel
theorem dX4_isIn_6 : decode cX4_isIn 6 = .ok (.iload_n 2, 1) := by decide +kernel
theorem dX4_isIn_7 : decode cX4_isIn 7 = .ok (.if_icmp .gt 7, 3) := by decide +kernel
theorem dX4_isIn_10 : decode cX4_isIn 10 = .ok (.iconst 1, 1) := by decide +kernel
theorem dX4_isIn_11 : decode cX4_isIn 11 = .ok (.goto 4, 3) := by decide +kernel
theorem dX4_isIn_14 : decode cX4_isIn 14 = .ok (.iconst 0, 1) := by decide +kernel
theorem dX4_isIn_15 : decode cX4_isIn 15 = .ok (.ireturn, 1) := by decide +kernel
theorem dX4_isFlight_0 : decode cX4_isFlight 0 = .ok (.iload_n 1, 1) := by decide +kernel
theorem dX4_isFlight_1 : decode cX4_isFlight 1 = .ok (.iconst 0, 1) := by decide +kernel
theorem dX4_isFlight_2 : decode cX4_isFlight 2 = .ok (.aload_n 0, 1) := by decide +kernel
theorem dX4_isFlight_3 : decode cX4_isFlight 3 = .ok (.getfield 9, 3) := by decide +kernel
theorem dX4_isFlight_6 : decode cX4_isFlight 6 = .ok (.iconst 1, 1) := by decide +kernel
theorem dX4_isFlight_7 : decode cX4_isFlight 7 = .ok (.isub, 1) := by decide +kernel
theorem dX4_isFlight_8 : decode cX4_isFlight 8 = .ok (.invokestatic 41, 3) := by decide +kernel
theorem dX4_isFlight_11 : decode cX4_isFlight 11 = .ok (.ireturn, 1) := by decide +kernel
theorem dX4_isStep_0 : decode cX4_isStep 0 = .ok (.iload_n 1, 1) := by decide +kernel
theorem dX4_isStep_1 : decode cX4_isStep 1 = .ok (.iconst 0, 1) := by decide +kernel
theorem dX4_isStep_2 : decode cX4_isStep 2 = .ok (.aload_n 0, 1) := by decide +kernel
theorem dX4_isStep_3 : decode cX4_isStep 3 = .ok (.getfield 13, 3) := by decide +kernel
theorem dX4_isStep_6 : decode cX4_isStep 6 = .ok (.iconst 1, 1) := by decide +kernel
theorem dX4_isStep_7 : decode cX4_isStep 7 = .ok (.isub, 1) := by decide +kernel
theorem dX4_isStep_8 : decode cX4_isStep 8 = .ok (.invokestatic 41, 3) := by decide +kernel
theorem dX4_isStep_11 : decode cX4_isStep 11 = .ok (.ireturn, 1) := by decide +kernel
theorem dX4_isMark_0 : decode cX4_isMark 0 = .ok (.iload_n 1, 1) := by decide +kernel
theorem dX4_isMark_1 : decode cX4_isMark 1 = .ok (.iconst 0, 1) := by decide +kernel
theorem dX4_isMark_2 : decode cX4_isMark 2 = .ok (.aload_n 0, 1) := by decide +kernel
theorem dX4_isMark_3 : decode cX4_isMark 3 = .ok (.getfield 45, 3) := by decide +kernel
theorem dX4_isMark_6 : decode cX4_isMark 6 = .ok (.iconst 1, 1) := by decide +kernel
theorem dX4_isMark_7 : decode cX4_isMark 7 = .ok (.isub, 1) := by decide +kernel
theorem dX4_isMark_8 : decode cX4_isMark 8 = .ok (.invokestatic 41, 3) := by decide +kernel
theorem dX4_isMark_11 : decode cX4_isMark 11 = .ok (.ireturn, 1) := by decide +kernel
theorem dX4_all_0 : decode cX4_all 0 = .ok (.aload_n 0, 1) := by decide +kernel
theorem dX4_all_1 : decode cX4_all 1 = .ok (.getfield 9, 3) := by decide +kernel
theorem dX4_all_4 : decode cX4_all 4 = .ok (.aload_n 0, 1) := by decide +kernel
theorem dX4_all_5 : decode cX4_all 5 = .ok (.getfield 13, 3) := by decide +kernel
theorem dX4_all_8 : decode cX4_all 8 = .ok (.imul, 1) := by decide +kernel
theorem dX4_all_9 : decode cX4_all 9 = .ok (.ireturn, 1) := by decide +kernel
theorem dX4_part_0 : decode cX4_part 0 = .ok (.aload_n 0, 1) := by decide +kernel
theorem dX4_part_1 : decode cX4_part 1 = .ok (.iload_n 1, 1) := by decide +kernel
theorem dX4_part_2 : decode cX4_part 2 = .ok (.invokevirtual 48, 3) := by decide +kernel
theorem dX4_part_5 : decode cX4_part 5 = .ok (.ifCond .eq 28, 3) := by decide +kernel
theorem dX4_part_8 : decode cX4_part 8 = .ok (.aload_n 0, 1) := by decide +kernel
theorem dX4_part_9 : decode cX4_part 9 = .ok (.iload_n 3, 1) := by decide +kernel
theorem dX4_part_10 : decode cX4_part 10 = .ok (.invokevirtual 48, 3) := by decide +kernel
theorem dX4_part_13 : decode cX4_part 13 = .ok (.ifCond .eq 20, 3) := by decide +kernel
theorem dX4_part_16 : decode cX4_part 16 = .ok (.aload_n 0, 1) := by decide +kernel
theorem dX4_part_17 : decode cX4_part 17 = .ok (.iload_n 2, 1) := by decide +kernel
theorem dX4_part_18 : decode cX4_part 18 = .ok (.invokevirtual 52, 3) := by decide +kernel
theorem dX4_part_21 : decode cX4_part 21 = .ok (.ifCond .eq 12, 3) := by decide +kernel
theorem dX4_part_24 : decode cX4_part 24 = .ok (.aload_n 0, 1) := by decide +kernel
theorem dX4_part_25 : decode cX4_part 25 = .ok (.iload 4, 2) := by decide +kernel
theorem dX4_part_27 : decode cX4_part 27 = .ok (.invokevirtual 52, 3) := by decide +kernel
theorem dX4_part_30 : decode cX4_part 30 = .ok (.ifCond .ne 5, 3) := by decide +kernel
theorem dX4_part_33 : decode cX4_part 33 = .ok (.iconst 1, 1) := by decide +kernel
theorem dX4_part_34 : decode cX4_part 34 = .ok (.ireturn, 1) := by decide +kernel
theorem dX4_part_35 : decode cX4_part 35 = .ok (.iload_n 1, 1) := by decide +kernel
theorem dX4_part_36 : decode cX4_part 36 = .ok (.iload_n 3, 1) := by decide +kernel
theorem dX4_part_37 : decode cX4_part 37 = .ok (.if_icmp .gt 9, 3) := by decide +kernel
theorem dX4_part_40 : decode cX4_part 40 = .ok (.iload_n 2, 1) := by decide +kernel
theorem dX4_part_41 : decode cX4_part 41 = .ok (.iload 4, 2) := by decide +kernel
theorem dX4_part_43 : decode cX4_part 43 = .ok (.if_icmp .le 7, 3) := by decide +kernel
theorem dX4_part_46 : decode cX4_part 46 = .ok (.iconst 2, 1) := by decide +kernel
theorem dX4_part_47 : decode cX4_part 47 = .ok (.goto 4, 3) := by decide +kernel
theorem dX4_part_50 : decode cX4_part 50 = .ok (.iconst 0, 1) := by decide +kernel
theorem dX4_part_51 : decode cX4_part 51 = .ok (.ireturn, 1) := by decide +kernel
theorem dX4_anew_0 : decode cX4_anew 0 = .ok (.iconst 0, 1) := by decide +kernel
theorem dX4_anew_1 : decode cX4_anew 1 = .ok (.istore_n 1, 1) := by decide +kernel
theorem dX4_anew_2 : decode cX4_anew 2 = .ok (.iload_n 1, 1) := by decide +kernel
theorem dX4_anew_3 : decode cX4_anew 3 = .ok (.sipush 128, 3) := by decide +kernel
theorem dX4_anew_6 : decode cX4_anew 6 = .ok (.if_icmp .ge 16, 3) := by decide +kernel
theorem dX4_anew_9 : decode cX4_anew 9 = .ok (.aload_n 0, 1) := by decide +kernel
theorem dX4_anew_10 : decode cX4_anew 10 = .ok (.getfield 23, 3) := by decide +kernel
theorem dX4_anew_13 : decode cX4_anew 13 = .ok (.iload_n 1, 1) := by decide +kernel
theorem dX4_anew_14 : decode cX4_anew 14 = .ok (.iconst 0, 1) := by decide +kernel
theorem dX4_anew_15 : decode cX4_anew 15 = .ok (.iastore, 1) := by decide +kernel
theorem dX4_anew_16 : decode cX4_anew 16 = .ok (.iinc 1 1, 3) := by decide +kernel
theorem dX4_anew_19 : decode cX4_anew 19 = .ok (.goto (-17), 3) := by decide +kernel
theorem dX4_anew_22 : decode cX4_anew 22 = .ok (.iconst 0, 1) := by decide +kernel
theorem dX4_anew_23 : decode cX4_anew 23 = .ok (.istore_n 1, 1) := by decide +kernel
theorem dX4_anew_24 : decode cX4_anew 24 = .ok (.iload_n 1, 1) := by decide +kernel
theorem dX4_anew_25 : decode cX4_anew 25 = .ok (.bipush 16, 2) := by decide +kernel
theorem dX4_anew_27 : decode cX4_anew 27 = .ok (.if_icmp .ge 17, 3) := by decide +kernel
theorem dX4_anew_30 : decode cX4_anew 30 = .ok (.aload_n 0, 1) := by decide +kernel
theorem dX4_anew_31 : decode cX4_anew 31 = .ok (.getfield 19, 3) := by decide +kernel
theorem dX4_anew_34 : decode cX4_anew 34 = .ok (.iload_n 1, 1) := by decide +kernel
theorem dX4_anew_35 : decode cX4_anew 35 = .ok (.bipush 50, 2) := by decide +kernel
theorem dX4_anew_37 : decode cX4_anew 37 = .ok (.iastore, 1) := by decide +kernel
theorem dX4_anew_38 : decode cX4_anew 38 = .ok (.iinc 1 1, 3) := by decide +kernel
theorem dX4_anew_41 : decode cX4_anew 41 = .ok (.goto (-17), 3) := by decide +kernel
theorem dX4_anew_44 : decode cX4_anew 44 = .ok (.aload_n 0, 1) := by decide +kernel
theorem dX4_anew_45 : decode cX4_anew 45 = .ok (.iconst 0, 1) := by decide +kernel
theorem dX4_anew_46 : decode cX4_anew 46 = .ok (.putfield 45, 3) := by decide +kernel
theorem dX4_anew_49 : decode cX4_anew 49 = .ok (.aload_n 0, 1) := by decide +kernel
theorem dX4_anew_50 : decode cX4_anew 50 = .ok (.iconst 0, 1) := by decide +kernel
theorem dX4_anew_51 : decode cX4_anew 51 = .ok (.putfield 55, 3) := by decide +kernel
theorem dX4_anew_54 : decode cX4_anew 54 = .ok (.aload_n 0, 1) := by decide +kernel
theorem dX4_anew_55 : decode cX4_anew 55 = .ok (.iconst 0, 1) := by decide +kernel
theorem dX4_anew_56 : decode cX4_anew 56 = .ok (.putfield 58, 3) := by decide +kernel
theorem dX4_anew_59 : decode cX4_anew 59 = .ok (.return_, 1) := by decide +kernel
theorem dX4_keep_0 : decode cX4_keep 0 = .ok (.aload_n 0, 1) := by decide +kernel
theorem dX4_keep_1 : decode cX4_keep 1 = .ok (.getfield 55, 3) := by decide +kernel
theorem dX4_keep_4 : decode cX4_keep 4 = .ok (.bipush 30, 2) := by decide +kernel
theorem dX4_keep_6 : decode cX4_keep 6 = .ok (.if_icmp .ne 26, 3) := by decide +kernel
theorem dX4_keep_9 : decode cX4_keep 9 = .ok (.aload_n 0, 1) := by decide +kernel
theorem dX4_keep_10 : decode cX4_keep 10 = .ok (.aload_n 0, 1) := by decide +kernel
theorem dX4_keep_11 : decode cX4_keep 11 = .ok (.getfield 58, 3) := by decide +kernel
theorem dX4_keep_14 : decode cX4_keep 14 = .ok (.iconst 1, 1) := by decide +kernel
theorem dX4_keep_15 : decode cX4_keep 15 = .ok (.iadd, 1) := by decide +kernel
theorem dX4_keep_16 : decode cX4_keep 16 = .ok (.bipush 30, 2) := by decide +kernel
theorem dX4_keep_18 : decode cX4_keep 18 = .ok (.irem, 1) := by decide +kernel
theorem dX4_keep_19 : decode cX4_keep 19 = .ok (.putfield 58, 3) := by decide +kernel
theorem dX4_keep_22 : decode cX4_keep 22 = .ok (.aload_n 0, 1) := by decide +kernel
theorem dX4_keep_23 : decode cX4_keep 23 = .ok (.dup, 1) := by decide +kernel
theorem dX4_keep_24 : decode cX4_keep 24 = .ok (.getfield 55, 3) := by decide +kernel
theorem dX4_keep_27 : decode cX4_keep 27 = .ok (.iconst 1, 1) := by decide +kernel
theorem dX4_keep_28 : decode cX4_keep 28 = .ok (.isub, 1) := by decide +kernel
theorem dX4_keep_29 : decode cX4_keep 29 = .ok (.putfield 55, 3) := by decide +kernel
theorem dX4_keep_32 : decode cX4_keep 32 = .ok (.aload_n 0, 1) := by decide +kernel
theorem dX4_keep_33 : decode cX4_keep 33 = .ok (.getfield 23, 3) := by decide +kernel
theorem dX4_keep_36 : decode cX4_keep 36 = .ok (.iconst 0, 1) := by decide +kernel
theorem dX4_keep_37 : decode cX4_keep 37 = .ok (.aload_n 0, 1) := by decide +kernel
theorem dX4_keep_38 : decode cX4_keep 38 = .ok (.getfield 26, 3) := by decide +kernel
theorem dX4_keep_41 : decode cX4_keep 41 = .ok (.sipush 128, 3) := by decide +kernel
theorem dX4_keep_44 : decode cX4_keep 44 = .ok (.aload_n 0, 1) := by decide +kernel
theorem dX4_keep_45 : decode cX4_keep 45 = .ok (.getfield 58, 3) := by decide +kernel
theorem dX4_keep_48 : decode cX4_keep 48 = .ok (.aload_n 0, 1) := by decide +kernel
theorem dX4_keep_49 : decode cX4_keep 49 = .ok (.getfield 55, 3) := by decide +kernel
theorem dX4_keep_52 : decode cX4_keep 52 = .ok (.iadd, 1) := by decide +kernel
theorem dX4_keep_53 : decode cX4_keep 53 = .ok (.bipush 30, 2) := by decide +kernel
theorem dX4_keep_55 : decode cX4_keep 55 = .ok (.irem, 1) := by decide +kernel
theorem dX4_keep_56 : decode cX4_keep 56 = .ok (.imul, 1) := by decide +kernel
theorem dX4_keep_57 : decode cX4_keep 57 = .ok (.sipush 128, 3) := by decide +kernel
theorem dX4_keep_60 : decode cX4_keep 60 = .ok (.invokestatic 61, 3) := by decide +kernel
theorem dX4_keep_63 : decode cX4_keep 63 = .ok (.aload_n 0, 1) := by decide +kernel
theorem dX4_keep_64 : decode cX4_keep 64 = .ok (.dup, 1) := by decide +kernel
theorem dX4_keep_65 : decode cX4_keep 65 = .ok (.getfield 55, 3) := by decide +kernel
theorem dX4_keep_68 : decode cX4_keep 68 = .ok (.iconst 1, 1) := by decide +kernel
theorem dX4_keep_69 : decode cX4_keep 69 = .ok (.iadd, 1) := by decide +kernel
theorem dX4_keep_70 : decode cX4_keep 70 = .ok (.putfield 55, 3) := by decide +kernel
theorem dX4_keep_73 : decode cX4_keep 73 = .ok (.return_, 1) := by decide +kernel
theorem dX4_bring_0 : decode cX4_bring 0 = .ok (.iconst 0, 1) := by decide +kernel
theorem dX4_bring_1 : decode cX4_bring 1 = .ok (.istore_n 3, 1) := by decide +kernel
theorem dX4_bring_2 : decode cX4_bring 2 = .ok (.iconst 0, 1) := by decide +kernel
theorem dX4_bring_3 : decode cX4_bring 3 = .ok (.istore 4, 2) := by decide +kernel
theorem dX4_bring_5 : decode cX4_bring 5 = .ok (.iload 4, 2) := by decide +kernel
theorem dX4_bring_7 : decode cX4_bring 7 = .ok (.aload_n 0, 1) := by decide +kernel
theorem dX4_bring_8 : decode cX4_bring 8 = .ok (.invokevirtual 67, 3) := by decide +kernel
theorem dX4_bring_11 : decode cX4_bring 11 = .ok (.if_icmp .ge 33, 3) := by decide +kernel
theorem dX4_bring_14 : decode cX4_bring 14 = .ok (.iload_n 3, 1) := by decide +kernel
theorem dX4_bring_15 : decode cX4_bring 15 = .ok (.aload_n 1, 1) := by decide +kernel
theorem dX4_bring_16 : decode cX4_bring 16 = .ok (.iload_n 2, 1) := by decide +kernel
theorem dX4_bring_17 : decode cX4_bring 17 = .ok (.iload 4, 2) := by decide +kernel
theorem dX4_bring_19 : decode cX4_bring 19 = .ok (.iadd, 1) := by decide +kernel
theorem dX4_bring_20 : decode cX4_bring 20 = .ok (.iaload, 1) := by decide +kernel
theorem dX4_bring_21 : decode cX4_bring 21 = .ok (.aload_n 0, 1) := by decide +kernel
theorem dX4_bring_22 : decode cX4_bring 22 = .ok (.getfield 23, 3) := by decide +kernel
theorem dX4_bring_25 : decode cX4_bring 25 = .ok (.iload 4, 2) := by decide +kernel
theorem dX4_bring_27 : decode cX4_bring 27 = .ok (.iaload, 1) := by decide +kernel
theorem dX4_bring_28 : decode cX4_bring 28 = .ok (.if_icmp .ne 7, 3) := by decide +kernel
theorem dX4_bring_31 : decode cX4_bring 31 = .ok (.iconst 0, 1) := by decide +kernel
theorem dX4_bring_32 : decode cX4_bring 32 = .ok (.goto 4, 3) := by decide +kernel
theorem dX4_bring_35 : decode cX4_bring 35 = .ok (.iconst 1, 1) := by decide +kernel
theorem dX4_bring_36 : decode cX4_bring 36 = .ok (.iadd, 1) := by decide +kernel
theorem dX4_bring_37 : decode cX4_bring 37 = .ok (.istore_n 3, 1) := by decide +kernel
theorem dX4_bring_38 : decode cX4_bring 38 = .ok (.iinc 4 1, 3) := by decide +kernel
theorem dX4_bring_41 : decode cX4_bring 41 = .ok (.goto (-36), 3) := by decide +kernel
theorem dX4_bring_44 : decode cX4_bring 44 = .ok (.aload_n 1, 1) := by decide +kernel
theorem dX4_bring_45 : decode cX4_bring 45 = .ok (.iload_n 2, 1) := by decide +kernel
theorem dX4_bring_46 : decode cX4_bring 46 = .ok (.aload_n 0, 1) := by decide +kernel
theorem dX4_bring_47 : decode cX4_bring 47 = .ok (.getfield 23, 3) := by decide +kernel
theorem dX4_bring_50 : decode cX4_bring 50 = .ok (.iconst 0, 1) := by decide +kernel
theorem dX4_bring_51 : decode cX4_bring 51 = .ok (.sipush 128, 3) := by decide +kernel
theorem dX4_bring_54 : decode cX4_bring 54 = .ok (.invokestatic 61, 3) := by decide +kernel
theorem dX4_bring_57 : decode cX4_bring 57 = .ok (.iload_n 3, 1) := by decide +kernel
theorem dX4_bring_58 : decode cX4_bring 58 = .ok (.ireturn, 1) := by decide +kernel
theorem dX4_hourOn_0 : decode cX4_hourOn 0 = .ok (.iconst 0, 1) := by decide +kernel
theorem dX4_hourOn_1 : decode cX4_hourOn 1 = .ok (.istore_n 3, 1) := by decide +kernel
theorem dX4_hourOn_2 : decode cX4_hourOn 2 = .ok (.iconst 0, 1) := by decide +kernel
theorem dX4_hourOn_3 : decode cX4_hourOn 3 = .ok (.istore 4, 2) := by decide +kernel
theorem dX4_hourOn_5 : decode cX4_hourOn 5 = .ok (.iload 4, 2) := by decide +kernel
theorem dX4_hourOn_7 : decode cX4_hourOn 7 = .ok (.aload_n 0, 1) := by decide +kernel
theorem dX4_hourOn_8 : decode cX4_hourOn 8 = .ok (.invokevirtual 67, 3) := by decide +kernel
theorem dX4_hourOn_11 : decode cX4_hourOn 11 = .ok (.if_icmp .ge 73, 3) := by decide +kernel
theorem dX4_hourOn_14 : decode cX4_hourOn 14 = .ok (.aload_n 1, 1) := by decide +kernel
theorem dX4_hourOn_15 : decode cX4_hourOn 15 = .ok (.iload 4, 2) := by decide +kernel
theorem dX4_hourOn_17 : decode cX4_hourOn 17 = .ok (.iaload, 1) := by decide +kernel
theorem dX4_hourOn_18 : decode cX4_hourOn 18 = .ok (.ifCond .le 16, 3) := by decide +kernel
theorem dX4_hourOn_21 : decode cX4_hourOn 21 = .ok (.iconst 0, 1) := by decide +kernel
theorem dX4_hourOn_22 : decode cX4_hourOn 22 = .ok (.aload_n 1, 1) := by decide +kernel
theorem dX4_hourOn_23 : decode cX4_hourOn 23 = .ok (.iload 4, 2) := by decide +kernel
theorem dX4_hourOn_25 : decode cX4_hourOn 25 = .ok (.iaload, 1) := by decide +kernel
theorem dX4_hourOn_26 : decode cX4_hourOn 26 = .ok (.iload_n 2, 1) := by decide +kernel
theorem dX4_hourOn_27 : decode cX4_hourOn 27 = .ok (.isub, 1) := by decide +kernel
theorem dX4_hourOn_28 : decode cX4_hourOn 28 = .ok (.invokestatic 71, 3) := by decide +kernel
theorem dX4_hourOn_31 : decode cX4_hourOn 31 = .ok (.goto 7, 3) := by decide +kernel
theorem dX4_hourOn_34 : decode cX4_hourOn 34 = .ok (.aload_n 1, 1) := by decide +kernel
theorem dX4_hourOn_35 : decode cX4_hourOn 35 = .ok (.iload 4, 2) := by decide +kernel
theorem dX4_hourOn_37 : decode cX4_hourOn 37 = .ok (.iaload, 1) := by decide +kernel
theorem dX4_hourOn_38 : decode cX4_hourOn 38 = .ok (.istore 5, 2) := by decide +kernel
theorem dX4_hourOn_40 : decode cX4_hourOn 40 = .ok (.aload_n 1, 1) := by decide +kernel
theorem dX4_hourOn_41 : decode cX4_hourOn 41 = .ok (.iload 4, 2) := by decide +kernel
theorem dX4_hourOn_43 : decode cX4_hourOn 43 = .ok (.iload 5, 2) := by decide +kernel
theorem dX4_hourOn_45 : decode cX4_hourOn 45 = .ok (.iload_n 3, 1) := by decide +kernel
theorem dX4_hourOn_46 : decode cX4_hourOn 46 = .ok (.iadd, 1) := by decide +kernel
theorem dX4_hourOn_47 : decode cX4_hourOn 47 = .ok (.iastore, 1) := by decide +kernel
theorem dX4_hourOn_48 : decode cX4_hourOn 48 = .ok (.iconst 0, 1) := by decide +kernel
theorem dX4_hourOn_49 : decode cX4_hourOn 49 = .ok (.aload_n 1, 1) := by decide +kernel
theorem dX4_hourOn_50 : decode cX4_hourOn 50 = .ok (.iload 4, 2) := by decide +kernel
theorem dX4_hourOn_52 : decode cX4_hourOn 52 = .ok (.iaload, 1) := by decide +kernel
theorem dX4_hourOn_53 : decode cX4_hourOn 53 = .ok (.aload_n 0, 1) := by decide +kernel
theorem dX4_hourOn_54 : decode cX4_hourOn 54 = .ok (.getfield 19, 3) := by decide +kernel
theorem dX4_hourOn_57 : decode cX4_hourOn 57 = .ok (.iload 4, 2) := by decide +kernel
theorem dX4_hourOn_59 : decode cX4_hourOn 59 = .ok (.aload_n 0, 1) := by decide +kernel
theorem dX4_hourOn_60 : decode cX4_hourOn 60 = .ok (.getfield 13, 3) := by decide +kernel
theorem dX4_hourOn_63 : decode cX4_hourOn 63 = .ok (.irem, 1) := by decide +kernel
theorem dX4_hourOn_64 : decode cX4_hourOn 64 = .ok (.iaload, 1) := by decide +kernel
theorem dX4_hourOn_65 : decode cX4_hourOn 65 = .ok (.isub, 1) := by decide +kernel
theorem dX4_hourOn_66 : decode cX4_hourOn 66 = .ok (.invokestatic 71, 3) := by decide +kernel
theorem dX4_hourOn_69 : decode cX4_hourOn 69 = .ok (.istore_n 3, 1) := by decide +kernel
theorem dX4_hourOn_70 : decode cX4_hourOn 70 = .ok (.aload_n 1, 1) := by decide +kernel
theorem dX4_hourOn_71 : decode cX4_hourOn 71 = .ok (.iload 4, 2) := by decide +kernel
theorem dX4_hourOn_73 : decode cX4_hourOn 73 = .ok (.dup2, 1) := by decide +kernel
theorem dX4_hourOn_74 : decode cX4_hourOn 74 = .ok (.iaload, 1) := by decide +kernel
theorem dX4_hourOn_75 : decode cX4_hourOn 75 = .ok (.iload_n 3, 1) := by decide +kernel
theorem dX4_hourOn_76 : decode cX4_hourOn 76 = .ok (.isub, 1) := by decide +kernel
theorem dX4_hourOn_77 : decode cX4_hourOn 77 = .ok (.iastore, 1) := by decide +kernel
theorem dX4_hourOn_78 : decode cX4_hourOn 78 = .ok (.iinc 4 1, 3) := by decide +kernel
theorem dX4_hourOn_81 : decode cX4_hourOn 81 = .ok (.goto (-76), 3) := by decide +kernel
theorem dX4_hourOn_84 : decode cX4_hourOn 84 = .ok (.iload_n 3, 1) := by decide +kernel
theorem dX4_hourOn_85 : decode cX4_hourOn 85 = .ok (.ireturn, 1) := by decide +kernel
theorem dX4_look_0 : decode cX4_look 0 = .ok (.aload_n 0, 1) := by decide +kernel
theorem dX4_look_1 : decode cX4_look 1 = .ok (.getfield 23, 3) := by decide +kernel
theorem dX4_look_4 : decode cX4_look 4 = .ok (.iconst 0, 1) := by decide +kernel
theorem dX4_look_5 : decode cX4_look 5 = .ok (.aload_n 0, 1) := by decide +kernel
theorem dX4_look_6 : decode cX4_look 6 = .ok (.getfield 32, 3) := by decide +kernel
theorem dX4_look_9 : decode cX4_look 9 = .ok (.iconst 0, 1) := by decide +kernel
theorem dX4_look_10 : decode cX4_look 10 = .ok (.sipush 128, 3) := by decide +kernel
theorem dX4_look_13 : decode cX4_look 13 = .ok (.invokestatic 61, 3) := by decide +kernel
theorem dX4_look_16 : decode cX4_look 16 = .ok (.return_, 1) := by decide +kernel
theorem dX4_goneBehind_0 : decode cX4_goneBehind 0 = .ok (.aload_n 0, 1) := by decide +kernel
theorem dX4_goneBehind_1 : decode cX4_goneBehind 1 = .ok (.invokevirtual 77, 3) := by decide +kernel
theorem dX4_goneBehind_4 : decode cX4_goneBehind 4 = .ok (.iconst 0, 1) := by decide +kernel
theorem dX4_goneBehind_5 : decode cX4_goneBehind 5 = .ok (.istore_n 3, 1) := by decide +kernel
theorem dX4_goneBehind_6 : decode cX4_goneBehind 6 = .ok (.iconst 0, 1) := by decide +kernel
theorem dX4_goneBehind_7 : decode cX4_goneBehind 7 = .ok (.istore 4, 2) := by decide +kernel
theorem dX4_goneBehind_9 : decode cX4_goneBehind 9 = .ok (.iload 4, 2) := by decide +kernel
theorem dX4_goneBehind_11 : decode cX4_goneBehind 11 = .ok (.iload_n 1, 1) := by decide +kernel
theorem dX4_goneBehind_12 : decode cX4_goneBehind 12 = .ok (.if_icmp .ge 21, 3) := by decide +kernel
theorem dX4_goneBehind_15 : decode cX4_goneBehind 15 = .ok (.iload_n 3, 1) := by decide +kernel
theorem dX4_goneBehind_16 : decode cX4_goneBehind 16 = .ok (.aload_n 0, 1) := by decide +kernel
theorem dX4_goneBehind_17 : decode cX4_goneBehind 17 = .ok (.aload_n 0, 1) := by decide +kernel
theorem dX4_goneBehind_18 : decode cX4_goneBehind 18 = .ok (.getfield 32, 3) := by decide +kernel
theorem dX4_goneBehind_21 : decode cX4_goneBehind 21 = .ok (.iload_n 2, 1) := by decide +kernel
theorem dX4_goneBehind_22 : decode cX4_goneBehind 22 = .ok (.invokevirtual 80, 3) := by decide +kernel
theorem dX4_goneBehind_25 : decode cX4_goneBehind 25 = .ok (.iadd, 1) := by decide +kernel
theorem dX4_goneBehind_26 : decode cX4_goneBehind 26 = .ok (.istore_n 3, 1) := by decide +kernel
theorem dX4_goneBehind_27 : decode cX4_goneBehind 27 = .ok (.iinc 4 1, 3) := by decide +kernel
theorem dX4_goneBehind_30 : decode cX4_goneBehind 30 = .ok (.goto (-21), 3) := by decide +kernel
theorem dX4_goneBehind_33 : decode cX4_goneBehind 33 = .ok (.iload_n 3, 1) := by decide +kernel
theorem dX4_goneBehind_34 : decode cX4_goneBehind 34 = .ok (.ireturn, 1) := by decide +kernel
theorem dX4_isDry_0 : decode cX4_isDry 0 = .ok (.iconst 0, 1) := by decide +kernel
theorem dX4_isDry_1 : decode cX4_isDry 1 = .ok (.istore_n 2, 1) := by decide +kernel
theorem dX4_isDry_2 : decode cX4_isDry 2 = .ok (.iload_n 2, 1) := by decide +kernel
theorem dX4_isDry_3 : decode cX4_isDry 3 = .ok (.aload_n 0, 1) := by decide +kernel
theorem dX4_isDry_4 : decode cX4_isDry 4 = .ok (.invokevirtual 67, 3) := by decide +kernel
theorem dX4_isDry_7 : decode cX4_isDry 7 = .ok (.if_icmp .ge 17, 3) := by decide +kernel
theorem dX4_isDry_10 : decode cX4_isDry 10 = .ok (.aload_n 1, 1) := by decide +kernel
theorem dX4_isDry_11 : decode cX4_isDry 11 = .ok (.iload_n 2, 1) := by decide +kernel
theorem dX4_isDry_12 : decode cX4_isDry 12 = .ok (.iaload, 1) := by decide +kernel
theorem dX4_isDry_13 : decode cX4_isDry 13 = .ok (.ifCond .le 5, 3) := by decide +kernel
theorem dX4_isDry_16 : decode cX4_isDry 16 = .ok (.iconst 0, 1) := by decide +kernel
theorem dX4_isDry_17 : decode cX4_isDry 17 = .ok (.ireturn, 1) := by decide +kernel
theorem dX4_isDry_18 : decode cX4_isDry 18 = .ok (.iinc 2 1, 3) := by decide +kernel
theorem dX4_isDry_21 : decode cX4_isDry 21 = .ok (.goto (-19), 3) := by decide +kernel
theorem dX4_isDry_24 : decode cX4_isDry 24 = .ok (.iconst 1, 1) := by decide +kernel
theorem dX4_isDry_25 : decode cX4_isDry 25 = .ok (.ireturn, 1) := by decide +kernel
theorem dX4_lay_0 : decode cX4_lay 0 = .ok (.aload_n 0, 1) := by decide +kernel
theorem dX4_lay_1 : decode cX4_lay 1 = .ok (.iconst 0, 1) := by decide +kernel
theorem dX4_lay_2 : decode cX4_lay 2 = .ok (.putfield 38, 3) := by decide +kernel
theorem dX4_lay_5 : decode cX4_lay 5 = .ok (.iload_n 1, 1) := by decide +kernel
theorem dX4_lay_6 : decode cX4_lay 6 = .ok (.iconst 1, 1) := by decide +kernel
theorem dX4_lay_7 : decode cX4_lay 7 = .ok (.bipush 8, 2) := by decide +kernel
theorem dX4_lay_9 : decode cX4_lay 9 = .ok (.invokestatic 41, 3) := by decide +kernel
theorem dX4_lay_12 : decode cX4_lay 12 = .ok (.ifCond .eq 13, 3) := by decide +kernel
theorem dX4_lay_15 : decode cX4_lay 15 = .ok (.iload_n 2, 1) := by decide +kernel
theorem dX4_lay_16 : decode cX4_lay 16 = .ok (.iconst 1, 1) := by decide +kernel
theorem dX4_lay_17 : decode cX4_lay 17 = .ok (.bipush 16, 2) := by decide +kernel
theorem dX4_lay_19 : decode cX4_lay 19 = .ok (.invokestatic 41, 3) := by decide +kernel
theorem dX4_lay_22 : decode cX4_lay 22 = .ok (.ifCond .ne 9, 3) := by decide +kernel
theorem dX4_lay_25 : decode cX4_lay 25 = .ok (.aload_n 0, 1) := by decide +kernel
theorem dX4_lay_26 : decode cX4_lay 26 = .ok (.iconst 1, 1) := by decide +kernel
theorem dX4_lay_27 : decode cX4_lay 27 = .ok (.invokevirtual 84, 3) := by decide +kernel
theorem dX4_lay_30 : decode cX4_lay 30 = .ok (.ireturn, 1) := by decide +kernel
theorem dX4_lay_31 : decode cX4_lay 31 = .ok (.aload_n 0, 1) := by decide +kernel
theorem dX4_lay_32 : decode cX4_lay 32 = .ok (.iload_n 1, 1) := by decide +kernel
theorem dX4_lay_33 : decode cX4_lay 33 = .ok (.putfield 9, 3) := by decide +kernel
theorem dX4_lay_36 : decode cX4_lay 36 = .ok (.aload_n 0, 1) := by decide +kernel
theorem dX4_lay_37 : decode cX4_lay 37 = .ok (.iload_n 2, 1) := by decide +kernel
theorem dX4_lay_38 : decode cX4_lay 38 = .ok (.putfield 13, 3) := by decide +kernel
theorem dX4_lay_41 : decode cX4_lay 41 = .ok (.aload_n 0, 1) := by decide +kernel
theorem dX4_lay_42 : decode cX4_lay 42 = .ok (.invokevirtual 35, 3) := by decide +kernel
theorem dX4_lay_45 : decode cX4_lay 45 = .ok (.aload_n 0, 1) := by decide +kernel
theorem dX4_lay_46 : decode cX4_lay 46 = .ok (.invokevirtual 67, 3) := by decide +kernel
theorem dX4_lay_49 : decode cX4_lay 49 = .ok (.ireturn, 1) := by decide +kernel
theorem dX4_rain_0 : decode cX4_rain 0 = .ok (.aload_n 0, 1) := by decide +kernel
theorem dX4_rain_1 : decode cX4_rain 1 = .ok (.iconst 0, 1) := by decide +kernel
theorem dX4_rain_2 : decode cX4_rain 2 = .ok (.putfield 38, 3) := by decide +kernel
theorem dX4_rain_5 : decode cX4_rain 5 = .ok (.aload_n 0, 1) := by decide +kernel
theorem dX4_rain_6 : decode cX4_rain 6 = .ok (.iload_n 1, 1) := by decide +kernel
theorem dX4_rain_7 : decode cX4_rain 7 = .ok (.invokevirtual 48, 3) := by decide +kernel
theorem dX4_rain_10 : decode cX4_rain 10 = .ok (.ifCond .eq 11, 3) := by decide +kernel
theorem dX4_rain_13 : decode cX4_rain 13 = .ok (.aload_n 0, 1) := by decide +kernel
theorem dX4_rain_14 : decode cX4_rain 14 = .ok (.iload_n 2, 1) := by decide +kernel
theorem dX4_rain_15 : decode cX4_rain 15 = .ok (.invokevirtual 52, 3) := by decide +kernel
theorem dX4_rain_18 : decode cX4_rain 18 = .ok (.ifCond .ne 9, 3) := by decide +kernel
theorem dX4_rain_21 : decode cX4_rain 21 = .ok (.aload_n 0, 1) := by decide +kernel
theorem dX4_rain_22 : decode cX4_rain 22 = .ok (.iconst 1, 1) := by decide +kernel
theorem dX4_rain_23 : decode cX4_rain 23 = .ok (.invokevirtual 84, 3) := by decide +kernel
theorem dX4_rain_26 : decode cX4_rain 26 = .ok (.ireturn, 1) := by decide +kernel
theorem dX4_rain_27 : decode cX4_rain 27 = .ok (.iload_n 3, 1) := by decide +kernel
theorem dX4_rain_28 : decode cX4_rain 28 = .ok (.bipush (-99), 2) := by decide +kernel
theorem dX4_rain_30 : decode cX4_rain 30 = .ok (.bipush 99, 2) := by decide +kernel
theorem dX4_rain_32 : decode cX4_rain 32 = .ok (.invokestatic 41, 3) := by decide +kernel
theorem dX4_rain_35 : decode cX4_rain 35 = .ok (.ifCond .ne 9, 3) := by decide +kernel
theorem dX4_rain_38 : decode cX4_rain 38 = .ok (.aload_n 0, 1) := by decide +kernel
theorem dX4_rain_39 : decode cX4_rain 39 = .ok (.iconst 2, 1) := by decide +kernel
theorem dX4_rain_40 : decode cX4_rain 40 = .ok (.invokevirtual 84, 3) := by decide +kernel
theorem dX4_rain_43 : decode cX4_rain 43 = .ok (.ireturn, 1) := by decide +kernel
theorem dX4_rain_44 : decode cX4_rain 44 = .ok (.aload_n 0, 1) := by decide +kernel
theorem dX4_rain_45 : decode cX4_rain 45 = .ok (.invokevirtual 88, 3) := by decide +kernel
theorem dX4_rain_48 : decode cX4_rain 48 = .ok (.aload_n 0, 1) := by decide +kernel
theorem dX4_rain_49 : decode cX4_rain 49 = .ok (.getfield 23, 3) := by decide +kernel
theorem dX4_rain_52 : decode cX4_rain 52 = .ok (.iload_n 1, 1) := by decide +kernel
theorem dX4_rain_53 : decode cX4_rain 53 = .ok (.aload_n 0, 1) := by decide +kernel
theorem dX4_rain_54 : decode cX4_rain 54 = .ok (.getfield 13, 3) := by decide +kernel
theorem dX4_rain_57 : decode cX4_rain 57 = .ok (.imul, 1) := by decide +kernel
theorem dX4_rain_58 : decode cX4_rain 58 = .ok (.iload_n 2, 1) := by decide +kernel
theorem dX4_rain_59 : decode cX4_rain 59 = .ok (.iadd, 1) := by decide +kernel
theorem dX4_rain_60 : decode cX4_rain 60 = .ok (.dup2, 1) := by decide +kernel
theorem dX4_rain_61 : decode cX4_rain 61 = .ok (.iaload, 1) := by decide +kernel
theorem dX4_rain_62 : decode cX4_rain 62 = .ok (.iload_n 3, 1) := by decide +kernel
theorem dX4_rain_63 : decode cX4_rain 63 = .ok (.iadd, 1) := by decide +kernel
theorem dX4_rain_64 : decode cX4_rain 64 = .ok (.iastore, 1) := by decide +kernel
theorem dX4_rain_65 : decode cX4_rain 65 = .ok (.aload_n 0, 1) := by decide +kernel
theorem dX4_rain_66 : decode cX4_rain 66 = .ok (.getfield 23, 3) := by decide +kernel
theorem dX4_rain_69 : decode cX4_rain 69 = .ok (.iload_n 1, 1) := by decide +kernel
theorem dX4_rain_70 : decode cX4_rain 70 = .ok (.aload_n 0, 1) := by decide +kernel
theorem dX4_rain_71 : decode cX4_rain 71 = .ok (.getfield 13, 3) := by decide +kernel
theorem dX4_rain_74 : decode cX4_rain 74 = .ok (.imul, 1) := by decide +kernel
theorem dX4_rain_75 : decode cX4_rain 75 = .ok (.iload_n 2, 1) := by decide +kernel
theorem dX4_rain_76 : decode cX4_rain 76 = .ok (.iadd, 1) := by decide +kernel
theorem dX4_rain_77 : decode cX4_rain 77 = .ok (.iaload, 1) := by decide +kernel
theorem dX4_rain_78 : decode cX4_rain 78 = .ok (.ireturn, 1) := by decide +kernel
theorem dX4_splash_0 : decode cX4_splash 0 = .ok (.aload_n 0, 1) := by decide +kernel
theorem dX4_splash_1 : decode cX4_splash 1 = .ok (.aload_n 0, 1) := by decide +kernel
theorem dX4_splash_2 : decode cX4_splash 2 = .ok (.iload_n 1, 1) := by decide +kernel
theorem dX4_splash_3 : decode cX4_splash 3 = .ok (.iload_n 2, 1) := by decide +kernel
theorem dX4_splash_4 : decode cX4_splash 4 = .ok (.iload_n 3, 1) := by decide +kernel
theorem dX4_splash_5 : decode cX4_splash 5 = .ok (.iload 4, 2) := by decide +kernel
theorem dX4_splash_7 : decode cX4_splash 7 = .ok (.invokevirtual 91, 3) := by decide +kernel
theorem dX4_splash_10 : decode cX4_splash 10 = .ok (.putfield 38, 3) := by decide +kernel
theorem dX4_splash_13 : decode cX4_splash 13 = .ok (.aload_n 0, 1) := by decide +kernel
theorem dX4_splash_14 : decode cX4_splash 14 = .ok (.getfield 38, 3) := by decide +kernel
theorem dX4_splash_17 : decode cX4_splash 17 = .ok (.ifCond .le 5, 3) := by decide +kernel
theorem dX4_splash_20 : decode cX4_splash 20 = .ok (.iconst 0, 1) := by decide +kernel
theorem dX4_splash_21 : decode cX4_splash 21 = .ok (.ireturn, 1) := by decide +kernel
theorem dX4_splash_22 : decode cX4_splash 22 = .ok (.iload 5, 2) := by decide +kernel
theorem dX4_splash_24 : decode cX4_splash 24 = .ok (.bipush (-99), 2) := by decide +kernel
theorem dX4_splash_26 : decode cX4_splash 26 = .ok (.bipush 99, 2) := by decide +kernel
theorem dX4_splash_28 : decode cX4_splash 28 = .ok (.invokestatic 41, 3) := by decide +kernel
theorem dX4_splash_31 : decode cX4_splash 31 = .ok (.ifCond .ne 9, 3) := by decide +kernel
theorem dX4_splash_34 : decode cX4_splash 34 = .ok (.aload_n 0, 1) := by decide +kernel
theorem dX4_splash_35 : decode cX4_splash 35 = .ok (.iconst 2, 1) := by decide +kernel
theorem dX4_splash_36 : decode cX4_splash 36 = .ok (.invokevirtual 84, 3) := by decide +kernel
theorem dX4_splash_39 : decode cX4_splash 39 = .ok (.ireturn, 1) := by decide +kernel
theorem dX4_splash_40 : decode cX4_splash 40 = .ok (.aload_n 0, 1) := by decide +kernel
theorem dX4_splash_41 : decode cX4_splash 41 = .ok (.invokevirtual 88, 3) := by decide +kernel
theorem dX4_splash_44 : decode cX4_splash 44 = .ok (.iload_n 1, 1) := by decide +kernel
theorem dX4_splash_45 : decode cX4_splash 45 = .ok (.istore 6, 2) := by decide +kernel
theorem dX4_splash_47 : decode cX4_splash 47 = .ok (.iload 6, 2) := by decide +kernel
theorem dX4_splash_49 : decode cX4_splash 49 = .ok (.iload_n 3, 1) := by decide +kernel
theorem dX4_splash_50 : decode cX4_splash 50 = .ok (.if_icmp .gt 45, 3) := by decide +kernel
theorem dX4_splash_53 : decode cX4_splash 53 = .ok (.iload_n 2, 1) := by decide +kernel
theorem dX4_splash_54 : decode cX4_splash 54 = .ok (.istore 7, 2) := by decide +kernel
theorem dX4_splash_56 : decode cX4_splash 56 = .ok (.iload 7, 2) := by decide +kernel
theorem dX4_splash_58 : decode cX4_splash 58 = .ok (.iload 4, 2) := by decide +kernel
theorem dX4_splash_60 : decode cX4_splash 60 = .ok (.if_icmp .gt 29, 3) := by decide +kernel
theorem dX4_splash_63 : decode cX4_splash 63 = .ok (.aload_n 0, 1) := by decide +kernel
theorem dX4_splash_64 : decode cX4_splash 64 = .ok (.getfield 23, 3) := by decide +kernel
theorem dX4_splash_67 : decode cX4_splash 67 = .ok (.iload 6, 2) := by decide +kernel
theorem dX4_splash_69 : decode cX4_splash 69 = .ok (.aload_n 0, 1) := by decide +kernel
theorem dX4_splash_70 : decode cX4_splash 70 = .ok (.getfield 13, 3) := by decide +kernel
theorem dX4_splash_73 : decode cX4_splash 73 = .ok (.imul, 1) := by decide +kernel
theorem dX4_splash_74 : decode cX4_splash 74 = .ok (.iload 7, 2) := by decide +kernel
theorem dX4_splash_76 : decode cX4_splash 76 = .ok (.iadd, 1) := by decide +kernel
theorem dX4_splash_77 : decode cX4_splash 77 = .ok (.dup2, 1) := by decide +kernel
theorem dX4_splash_78 : decode cX4_splash 78 = .ok (.iaload, 1) := by decide +kernel
theorem dX4_splash_79 : decode cX4_splash 79 = .ok (.iload 5, 2) := by decide +kernel
theorem dX4_splash_81 : decode cX4_splash 81 = .ok (.iadd, 1) := by decide +kernel
theorem dX4_splash_82 : decode cX4_splash 82 = .ok (.iastore, 1) := by decide +kernel
theorem dX4_splash_83 : decode cX4_splash 83 = .ok (.iinc 7 1, 3) := by decide +kernel
theorem dX4_splash_86 : decode cX4_splash 86 = .ok (.goto (-30), 3) := by decide +kernel
theorem dX4_splash_89 : decode cX4_splash 89 = .ok (.iinc 6 1, 3) := by decide +kernel
theorem dX4_splash_92 : decode cX4_splash 92 = .ok (.goto (-45), 3) := by decide +kernel
theorem dX4_splash_95 : decode cX4_splash 95 = .ok (.iload_n 3, 1) := by decide +kernel
theorem dX4_splash_96 : decode cX4_splash 96 = .ok (.iload_n 1, 1) := by decide +kernel
theorem dX4_splash_97 : decode cX4_splash 97 = .ok (.isub, 1) := by decide +kernel
theorem dX4_splash_98 : decode cX4_splash 98 = .ok (.iconst 1, 1) := by decide +kernel
theorem dX4_splash_99 : decode cX4_splash 99 = .ok (.iadd, 1) := by decide +kernel
theorem dX4_splash_100 : decode cX4_splash 100 = .ok (.iload 4, 2) := by decide +kernel
theorem dX4_splash_102 : decode cX4_splash 102 = .ok (.iload_n 2, 1) := by decide +kernel
theorem dX4_splash_103 : decode cX4_splash 103 = .ok (.isub, 1) := by decide +kernel
theorem dX4_splash_104 : decode cX4_splash 104 = .ok (.iconst 1, 1) := by decide +kernel
theorem dX4_splash_105 : decode cX4_splash 105 = .ok (.iadd, 1) := by decide +kernel
theorem dX4_splash_106 : decode cX4_splash 106 = .ok (.imul, 1) := by decide +kernel
theorem dX4_splash_107 : decode cX4_splash 107 = .ok (.ireturn, 1) := by decide +kernel
theorem dX4_change_0 : decode cX4_change 0 = .ok (.iconst 0, 1) := by decide +kernel
theorem dX4_change_1 : decode cX4_change 1 = .ok (.istore_n 3, 1) := by decide +kernel
theorem dX4_change_2 : decode cX4_change 2 = .ok (.iconst 0, 1) := by decide +kernel
theorem dX4_change_3 : decode cX4_change 3 = .ok (.istore 4, 2) := by decide +kernel
theorem dX4_change_5 : decode cX4_change 5 = .ok (.iload 4, 2) := by decide +kernel
theorem dX4_change_7 : decode cX4_change 7 = .ok (.aload_n 0, 1) := by decide +kernel
theorem dX4_change_8 : decode cX4_change 8 = .ok (.getfield 13, 3) := by decide +kernel
theorem dX4_change_11 : decode cX4_change 11 = .ok (.if_icmp .ge 88, 3) := by decide +kernel
theorem dX4_change_14 : decode cX4_change 14 = .ok (.aload_n 0, 1) := by decide +kernel
theorem dX4_change_15 : decode cX4_change 15 = .ok (.getfield 23, 3) := by decide +kernel
theorem dX4_change_18 : decode cX4_change 18 = .ok (.iload_n 1, 1) := by decide +kernel
theorem dX4_change_19 : decode cX4_change 19 = .ok (.aload_n 0, 1) := by decide +kernel
theorem dX4_change_20 : decode cX4_change 20 = .ok (.getfield 13, 3) := by decide +kernel
theorem dX4_change_23 : decode cX4_change 23 = .ok (.imul, 1) := by decide +kernel
theorem dX4_change_24 : decode cX4_change 24 = .ok (.iload 4, 2) := by decide +kernel
theorem dX4_change_26 : decode cX4_change 26 = .ok (.iadd, 1) := by decide +kernel
theorem dX4_change_27 : decode cX4_change 27 = .ok (.iaload, 1) := by decide +kernel
theorem dX4_change_28 : decode cX4_change 28 = .ok (.istore 5, 2) := by decide +kernel
theorem dX4_change_30 : decode cX4_change 30 = .ok (.aload_n 0, 1) := by decide +kernel
theorem dX4_change_31 : decode cX4_change 31 = .ok (.getfield 23, 3) := by decide +kernel
theorem dX4_change_34 : decode cX4_change 34 = .ok (.iload_n 2, 1) := by decide +kernel
theorem dX4_change_35 : decode cX4_change 35 = .ok (.aload_n 0, 1) := by decide +kernel
theorem dX4_change_36 : decode cX4_change 36 = .ok (.getfield 13, 3) := by decide +kernel
theorem dX4_change_39 : decode cX4_change 39 = .ok (.imul, 1) := by decide +kernel
theorem dX4_change_40 : decode cX4_change 40 = .ok (.iload 4, 2) := by decide +kernel
theorem dX4_change_42 : decode cX4_change 42 = .ok (.iadd, 1) := by decide +kernel
theorem dX4_change_43 : decode cX4_change 43 = .ok (.iaload, 1) := by decide +kernel
theorem dX4_change_44 : decode cX4_change 44 = .ok (.istore 6, 2) := by decide +kernel
theorem dX4_change_46 : decode cX4_change 46 = .ok (.aload_n 0, 1) := by decide +kernel
theorem dX4_change_47 : decode cX4_change 47 = .ok (.getfield 23, 3) := by decide +kernel
theorem dX4_change_50 : decode cX4_change 50 = .ok (.iload_n 1, 1) := by decide +kernel
theorem dX4_change_51 : decode cX4_change 51 = .ok (.aload_n 0, 1) := by decide +kernel
theorem dX4_change_52 : decode cX4_change 52 = .ok (.getfield 13, 3) := by decide +kernel
theorem dX4_change_55 : decode cX4_change 55 = .ok (.imul, 1) := by decide +kernel
theorem dX4_change_56 : decode cX4_change 56 = .ok (.iload 4, 2) := by decide +kernel
theorem dX4_change_58 : decode cX4_change 58 = .ok (.iadd, 1) := by decide +kernel
theorem dX4_change_59 : decode cX4_change 59 = .ok (.iload 6, 2) := by decide +kernel
theorem dX4_change_61 : decode cX4_change 61 = .ok (.iastore, 1) := by decide +kernel
theorem dX4_change_62 : decode cX4_change 62 = .ok (.aload_n 0, 1) := by decide +kernel
theorem dX4_change_63 : decode cX4_change 63 = .ok (.getfield 23, 3) := by decide +kernel
theorem dX4_change_66 : decode cX4_change 66 = .ok (.iload_n 2, 1) := by decide +kernel
theorem dX4_change_67 : decode cX4_change 67 = .ok (.aload_n 0, 1) := by decide +kernel
theorem dX4_change_68 : decode cX4_change 68 = .ok (.getfield 13, 3) := by decide +kernel
theorem dX4_change_71 : decode cX4_change 71 = .ok (.imul, 1) := by decide +kernel
theorem dX4_change_72 : decode cX4_change 72 = .ok (.iload 4, 2) := by decide +kernel
theorem dX4_change_74 : decode cX4_change 74 = .ok (.iadd, 1) := by decide +kernel
theorem dX4_change_75 : decode cX4_change 75 = .ok (.iload 5, 2) := by decide +kernel
theorem dX4_change_77 : decode cX4_change 77 = .ok (.iastore, 1) := by decide +kernel
theorem dX4_change_78 : decode cX4_change 78 = .ok (.iload_n 3, 1) := by decide +kernel
theorem dX4_change_79 : decode cX4_change 79 = .ok (.iload 5, 2) := by decide +kernel
theorem dX4_change_81 : decode cX4_change 81 = .ok (.iload 6, 2) := by decide +kernel
theorem dX4_change_83 : decode cX4_change 83 = .ok (.if_icmp .ne 7, 3) := by decide +kernel
theorem dX4_change_86 : decode cX4_change 86 = .ok (.iconst 0, 1) := by decide +kernel
theorem dX4_change_87 : decode cX4_change 87 = .ok (.goto 4, 3) := by decide +kernel
theorem dX4_change_90 : decode cX4_change 90 = .ok (.iconst 1, 1) := by decide +kernel
theorem dX4_change_91 : decode cX4_change 91 = .ok (.iadd, 1) := by decide +kernel
theorem dX4_change_92 : decode cX4_change 92 = .ok (.istore_n 3, 1) := by decide +kernel
theorem dX4_change_93 : decode cX4_change 93 = .ok (.iinc 4 1, 3) := by decide +kernel
theorem dX4_change_96 : decode cX4_change 96 = .ok (.goto (-91), 3) := by decide +kernel
theorem dX4_change_99 : decode cX4_change 99 = .ok (.iload_n 3, 1) := by decide +kernel
theorem dX4_change_100 : decode cX4_change 100 = .ok (.ireturn, 1) := by decide +kernel
theorem dX4_swap_0 : decode cX4_swap 0 = .ok (.aload_n 0, 1) := by decide +kernel
theorem dX4_swap_1 : decode cX4_swap 1 = .ok (.iconst 0, 1) := by decide +kernel
theorem dX4_swap_2 : decode cX4_swap 2 = .ok (.putfield 38, 3) := by decide +kernel
theorem dX4_swap_5 : decode cX4_swap 5 = .ok (.aload_n 0, 1) := by decide +kernel
theorem dX4_swap_6 : decode cX4_swap 6 = .ok (.iload_n 1, 1) := by decide +kernel
theorem dX4_swap_7 : decode cX4_swap 7 = .ok (.invokevirtual 48, 3) := by decide +kernel
theorem dX4_swap_10 : decode cX4_swap 10 = .ok (.ifCond .eq 11, 3) := by decide +kernel
theorem dX4_swap_13 : decode cX4_swap 13 = .ok (.aload_n 0, 1) := by decide +kernel
theorem dX4_swap_14 : decode cX4_swap 14 = .ok (.iload_n 2, 1) := by decide +kernel
theorem dX4_swap_15 : decode cX4_swap 15 = .ok (.invokevirtual 48, 3) := by decide +kernel
theorem dX4_swap_18 : decode cX4_swap 18 = .ok (.ifCond .ne 9, 3) := by decide +kernel
theorem dX4_swap_21 : decode cX4_swap 21 = .ok (.aload_n 0, 1) := by decide +kernel
theorem dX4_swap_22 : decode cX4_swap 22 = .ok (.iconst 1, 1) := by decide +kernel
theorem dX4_swap_23 : decode cX4_swap 23 = .ok (.invokevirtual 84, 3) := by decide +kernel
theorem dX4_swap_26 : decode cX4_swap 26 = .ok (.ireturn, 1) := by decide +kernel
theorem dX4_swap_27 : decode cX4_swap 27 = .ok (.aload_n 0, 1) := by decide +kernel
theorem dX4_swap_28 : decode cX4_swap 28 = .ok (.invokevirtual 88, 3) := by decide +kernel
theorem dX4_swap_31 : decode cX4_swap 31 = .ok (.aload_n 0, 1) := by decide +kernel
theorem dX4_swap_32 : decode cX4_swap 32 = .ok (.iload_n 1, 1) := by decide +kernel
theorem dX4_swap_33 : decode cX4_swap 33 = .ok (.iload_n 2, 1) := by decide +kernel
theorem dX4_swap_34 : decode cX4_swap 34 = .ok (.invokevirtual 95, 3) := by decide +kernel
theorem dX4_swap_37 : decode cX4_swap 37 = .ok (.ireturn, 1) := by decide +kernel
theorem dX4_turn_0 : decode cX4_turn 0 = .ok (.aload_n 0, 1) := by decide +kernel
theorem dX4_turn_1 : decode cX4_turn 1 = .ok (.iconst 0, 1) := by decide +kernel
theorem dX4_turn_2 : decode cX4_turn 2 = .ok (.putfield 38, 3) := by decide +kernel
theorem dX4_turn_5 : decode cX4_turn 5 = .ok (.aload_n 0, 1) := by decide +kernel
theorem dX4_turn_6 : decode cX4_turn 6 = .ok (.iload_n 1, 1) := by decide +kernel
theorem dX4_turn_7 : decode cX4_turn 7 = .ok (.invokevirtual 48, 3) := by decide +kernel
theorem dX4_turn_10 : decode cX4_turn 10 = .ok (.ifCond .ne 9, 3) := by decide +kernel
theorem dX4_turn_13 : decode cX4_turn 13 = .ok (.aload_n 0, 1) := by decide +kernel
theorem dX4_turn_14 : decode cX4_turn 14 = .ok (.iconst 1, 1) := by decide +kernel
theorem dX4_turn_15 : decode cX4_turn 15 = .ok (.invokevirtual 84, 3) := by decide +kernel
theorem dX4_turn_18 : decode cX4_turn 18 = .ok (.ireturn, 1) := by decide +kernel
theorem dX4_turn_19 : decode cX4_turn 19 = .ok (.aload_n 0, 1) := by decide +kernel
theorem dX4_turn_20 : decode cX4_turn 20 = .ok (.invokevirtual 88, 3) := by decide +kernel
theorem dX4_turn_23 : decode cX4_turn 23 = .ok (.iload_n 1, 1) := by decide +kernel
theorem dX4_turn_24 : decode cX4_turn 24 = .ok (.aload_n 0, 1) := by decide +kernel
theorem dX4_turn_25 : decode cX4_turn 25 = .ok (.getfield 13, 3) := by decide +kernel
theorem dX4_turn_28 : decode cX4_turn 28 = .ok (.imul, 1) := by decide +kernel
theorem dX4_turn_29 : decode cX4_turn 29 = .ok (.istore_n 2, 1) := by decide +kernel
theorem dX4_turn_30 : decode cX4_turn 30 = .ok (.aload_n 0, 1) := by decide +kernel
theorem dX4_turn_31 : decode cX4_turn 31 = .ok (.getfield 23, 3) := by decide +kernel
theorem dX4_turn_34 : decode cX4_turn 34 = .ok (.iload_n 2, 1) := by decide +kernel
theorem dX4_turn_35 : decode cX4_turn 35 = .ok (.aload_n 0, 1) := by decide +kernel
theorem dX4_turn_36 : decode cX4_turn 36 = .ok (.getfield 32, 3) := by decide +kernel
theorem dX4_turn_39 : decode cX4_turn 39 = .ok (.iconst 0, 1) := by decide +kernel
theorem dX4_turn_40 : decode cX4_turn 40 = .ok (.aload_n 0, 1) := by decide +kernel
theorem dX4_turn_41 : decode cX4_turn 41 = .ok (.getfield 13, 3) := by decide +kernel
theorem dX4_turn_44 : decode cX4_turn 44 = .ok (.invokestatic 61, 3) := by decide +kernel
theorem dX4_turn_47 : decode cX4_turn 47 = .ok (.iconst 0, 1) := by decide +kernel
theorem dX4_turn_48 : decode cX4_turn 48 = .ok (.istore_n 3, 1) := by decide +kernel
theorem dX4_turn_49 : decode cX4_turn 49 = .ok (.iconst 0, 1) := by decide +kernel
theorem dX4_turn_50 : decode cX4_turn 50 = .ok (.istore 4, 2) := by decide +kernel
theorem dX4_turn_52 : decode cX4_turn 52 = .ok (.iload 4, 2) := by decide +kernel
theorem dX4_turn_54 : decode cX4_turn 54 = .ok (.aload_n 0, 1) := by decide +kernel
theorem dX4_turn_55 : decode cX4_turn 55 = .ok (.getfield 13, 3) := by decide +kernel
theorem dX4_turn_58 : decode cX4_turn 58 = .ok (.if_icmp .ge 64, 3) := by decide +kernel
theorem dX4_turn_61 : decode cX4_turn 61 = .ok (.iload_n 3, 1) := by decide +kernel
theorem dX4_turn_62 : decode cX4_turn 62 = .ok (.aload_n 0, 1) := by decide +kernel
theorem dX4_turn_63 : decode cX4_turn 63 = .ok (.getfield 32, 3) := by decide +kernel
theorem dX4_turn_66 : decode cX4_turn 66 = .ok (.aload_n 0, 1) := by decide +kernel
theorem dX4_turn_67 : decode cX4_turn 67 = .ok (.getfield 13, 3) := by decide +kernel
theorem dX4_turn_70 : decode cX4_turn 70 = .ok (.iconst 1, 1) := by decide +kernel
theorem dX4_turn_71 : decode cX4_turn 71 = .ok (.isub, 1) := by decide +kernel
theorem dX4_turn_72 : decode cX4_turn 72 = .ok (.iload 4, 2) := by decide +kernel
theorem dX4_turn_74 : decode cX4_turn 74 = .ok (.isub, 1) := by decide +kernel
theorem dX4_turn_75 : decode cX4_turn 75 = .ok (.iaload, 1) := by decide +kernel
theorem dX4_turn_76 : decode cX4_turn 76 = .ok (.aload_n 0, 1) := by decide +kernel
theorem dX4_turn_77 : decode cX4_turn 77 = .ok (.getfield 32, 3) := by decide +kernel
theorem dX4_turn_80 : decode cX4_turn 80 = .ok (.iload 4, 2) := by decide +kernel
theorem dX4_turn_82 : decode cX4_turn 82 = .ok (.iaload, 1) := by decide +kernel
theorem dX4_turn_83 : decode cX4_turn 83 = .ok (.if_icmp .ne 7, 3) := by decide +kernel
theorem dX4_turn_86 : decode cX4_turn 86 = .ok (.iconst 0, 1) := by decide +kernel
theorem dX4_turn_87 : decode cX4_turn 87 = .ok (.goto 4, 3) := by decide +kernel
theorem dX4_turn_90 : decode cX4_turn 90 = .ok (.iconst 1, 1) := by decide +kernel
theorem dX4_turn_91 : decode cX4_turn 91 = .ok (.iadd, 1) := by decide +kernel
theorem dX4_turn_92 : decode cX4_turn 92 = .ok (.istore_n 3, 1) := by decide +kernel
theorem dX4_turn_93 : decode cX4_turn 93 = .ok (.aload_n 0, 1) := by decide +kernel
theorem dX4_turn_94 : decode cX4_turn 94 = .ok (.getfield 23, 3) := by decide +kernel
theorem dX4_turn_97 : decode cX4_turn 97 = .ok (.iload_n 2, 1) := by decide +kernel
theorem dX4_turn_98 : decode cX4_turn 98 = .ok (.iload 4, 2) := by decide +kernel
theorem dX4_turn_100 : decode cX4_turn 100 = .ok (.iadd, 1) := by decide +kernel
theorem dX4_turn_101 : decode cX4_turn 101 = .ok (.aload_n 0, 1) := by decide +kernel
theorem dX4_turn_102 : decode cX4_turn 102 = .ok (.getfield 32, 3) := by decide +kernel
theorem dX4_turn_105 : decode cX4_turn 105 = .ok (.aload_n 0, 1) := by decide +kernel
theorem dX4_turn_106 : decode cX4_turn 106 = .ok (.getfield 13, 3) := by decide +kernel
theorem dX4_turn_109 : decode cX4_turn 109 = .ok (.iconst 1, 1) := by decide +kernel
theorem dX4_turn_110 : decode cX4_turn 110 = .ok (.isub, 1) := by decide +kernel
theorem dX4_turn_111 : decode cX4_turn 111 = .ok (.iload 4, 2) := by decide +kernel
theorem dX4_turn_113 : decode cX4_turn 113 = .ok (.isub, 1) := by decide +kernel
theorem dX4_turn_114 : decode cX4_turn 114 = .ok (.iaload, 1) := by decide +kernel
theorem dX4_turn_115 : decode cX4_turn 115 = .ok (.iastore, 1) := by decide +kernel
theorem dX4_turn_116 : decode cX4_turn 116 = .ok (.iinc 4 1, 3) := by decide +kernel
theorem dX4_turn_119 : decode cX4_turn 119 = .ok (.goto (-67), 3) := by decide +kernel
theorem dX4_turn_122 : decode cX4_turn 122 = .ok (.iload_n 3, 1) := by decide +kernel
theorem dX4_turn_123 : decode cX4_turn 123 = .ok (.ireturn, 1) := by decide +kernel
theorem dX4_bail_0 : decode cX4_bail 0 = .ok (.aload_n 0, 1) := by decide +kernel
theorem dX4_bail_1 : decode cX4_bail 1 = .ok (.iconst 0, 1) := by decide +kernel
theorem dX4_bail_2 : decode cX4_bail 2 = .ok (.putfield 38, 3) := by decide +kernel
theorem dX4_bail_5 : decode cX4_bail 5 = .ok (.aload_n 0, 1) := by decide +kernel
theorem dX4_bail_6 : decode cX4_bail 6 = .ok (.iload_n 1, 1) := by decide +kernel
theorem dX4_bail_7 : decode cX4_bail 7 = .ok (.invokevirtual 48, 3) := by decide +kernel
theorem dX4_bail_10 : decode cX4_bail 10 = .ok (.ifCond .ne 9, 3) := by decide +kernel
theorem dX4_bail_13 : decode cX4_bail 13 = .ok (.aload_n 0, 1) := by decide +kernel
theorem dX4_bail_14 : decode cX4_bail 14 = .ok (.iconst 1, 1) := by decide +kernel
theorem dX4_bail_15 : decode cX4_bail 15 = .ok (.invokevirtual 84, 3) := by decide +kernel
theorem dX4_bail_18 : decode cX4_bail 18 = .ok (.ireturn, 1) := by decide +kernel
theorem dX4_bail_19 : decode cX4_bail 19 = .ok (.iload_n 2, 1) := by decide +kernel
theorem dX4_bail_20 : decode cX4_bail 20 = .ok (.iconst 1, 1) := by decide +kernel
theorem dX4_bail_21 : decode cX4_bail 21 = .ok (.sipush 999, 3) := by decide +kernel
theorem dX4_bail_24 : decode cX4_bail 24 = .ok (.invokestatic 41, 3) := by decide +kernel
theorem dX4_bail_27 : decode cX4_bail 27 = .ok (.ifCond .ne 9, 3) := by decide +kernel
theorem dX4_bail_30 : decode cX4_bail 30 = .ok (.aload_n 0, 1) := by decide +kernel
theorem dX4_bail_31 : decode cX4_bail 31 = .ok (.iconst 2, 1) := by decide +kernel
theorem dX4_bail_32 : decode cX4_bail 32 = .ok (.invokevirtual 84, 3) := by decide +kernel
theorem dX4_bail_35 : decode cX4_bail 35 = .ok (.ireturn, 1) := by decide +kernel
theorem dX4_bail_36 : decode cX4_bail 36 = .ok (.aload_n 0, 1) := by decide +kernel
theorem dX4_bail_37 : decode cX4_bail 37 = .ok (.invokevirtual 88, 3) := by decide +kernel
theorem dX4_bail_40 : decode cX4_bail 40 = .ok (.iload_n 2, 1) := by decide +kernel
theorem dX4_bail_41 : decode cX4_bail 41 = .ok (.istore_n 3, 1) := by decide +kernel
theorem dX4_bail_42 : decode cX4_bail 42 = .ok (.iload_n 1, 1) := by decide +kernel
theorem dX4_bail_43 : decode cX4_bail 43 = .ok (.aload_n 0, 1) := by decide +kernel
theorem dX4_bail_44 : decode cX4_bail 44 = .ok (.getfield 13, 3) := by decide +kernel
theorem dX4_bail_47 : decode cX4_bail 47 = .ok (.imul, 1) := by decide +kernel
theorem dX4_bail_48 : decode cX4_bail 48 = .ok (.istore 4, 2) := by decide +kernel
theorem dX4_bail_50 : decode cX4_bail 50 = .ok (.iload 4, 2) := by decide +kernel
theorem dX4_bail_52 : decode cX4_bail 52 = .ok (.iload_n 1, 1) := by decide +kernel
theorem dX4_bail_53 : decode cX4_bail 53 = .ok (.iconst 1, 1) := by decide +kernel
theorem dX4_bail_54 : decode cX4_bail 54 = .ok (.iadd, 1) := by decide +kernel
theorem dX4_bail_55 : decode cX4_bail 55 = .ok (.aload_n 0, 1) := by decide +kernel
theorem dX4_bail_56 : decode cX4_bail 56 = .ok (.getfield 13, 3) := by decide +kernel
theorem dX4_bail_59 : decode cX4_bail 59 = .ok (.imul, 1) := by decide +kernel
theorem dX4_bail_60 : decode cX4_bail 60 = .ok (.if_icmp .ge 43, 3) := by decide +kernel
theorem dX4_bail_63 : decode cX4_bail 63 = .ok (.iload_n 3, 1) := by decide +kernel
theorem dX4_bail_64 : decode cX4_bail 64 = .ok (.iconst 0, 1) := by decide +kernel
theorem dX4_bail_65 : decode cX4_bail 65 = .ok (.aload_n 0, 1) := by decide +kernel
theorem dX4_bail_66 : decode cX4_bail 66 = .ok (.getfield 23, 3) := by decide +kernel
theorem dX4_bail_69 : decode cX4_bail 69 = .ok (.iload 4, 2) := by decide +kernel
theorem dX4_bail_71 : decode cX4_bail 71 = .ok (.iaload, 1) := by decide +kernel
theorem dX4_bail_72 : decode cX4_bail 72 = .ok (.invokestatic 71, 3) := by decide +kernel
theorem dX4_bail_75 : decode cX4_bail 75 = .ok (.invokestatic 98, 3) := by decide +kernel
theorem dX4_bail_78 : decode cX4_bail 78 = .ok (.istore 5, 2) := by decide +kernel
theorem dX4_bail_80 : decode cX4_bail 80 = .ok (.aload_n 0, 1) := by decide +kernel
theorem dX4_bail_81 : decode cX4_bail 81 = .ok (.getfield 23, 3) := by decide +kernel
theorem dX4_bail_84 : decode cX4_bail 84 = .ok (.iload 4, 2) := by decide +kernel
theorem dX4_bail_86 : decode cX4_bail 86 = .ok (.dup2, 1) := by decide +kernel
theorem dX4_bail_87 : decode cX4_bail 87 = .ok (.iaload, 1) := by decide +kernel
theorem dX4_bail_88 : decode cX4_bail 88 = .ok (.iload 5, 2) := by decide +kernel
theorem dX4_bail_90 : decode cX4_bail 90 = .ok (.isub, 1) := by decide +kernel
theorem dX4_bail_91 : decode cX4_bail 91 = .ok (.iastore, 1) := by decide +kernel
theorem dX4_bail_92 : decode cX4_bail 92 = .ok (.iload_n 3, 1) := by decide +kernel
theorem dX4_bail_93 : decode cX4_bail 93 = .ok (.iload 5, 2) := by decide +kernel
theorem dX4_bail_95 : decode cX4_bail 95 = .ok (.isub, 1) := by decide +kernel
theorem dX4_bail_96 : decode cX4_bail 96 = .ok (.istore_n 3, 1) := by decide +kernel
theorem dX4_bail_97 : decode cX4_bail 97 = .ok (.iinc 4 1, 3) := by decide +kernel
theorem dX4_bail_100 : decode cX4_bail 100 = .ok (.goto (-50), 3) := by decide +kernel
theorem dX4_bail_103 : decode cX4_bail 103 = .ok (.iload_n 2, 1) := by decide +kernel
theorem dX4_bail_104 : decode cX4_bail 104 = .ok (.iload_n 3, 1) := by decide +kernel
theorem dX4_bail_105 : decode cX4_bail 105 = .ok (.isub, 1) := by decide +kernel
theorem dX4_bail_106 : decode cX4_bail 106 = .ok (.ireturn, 1) := by decide +kernel
theorem dX4_passHours_0 : decode cX4_passHours 0 = .ok (.aload_n 0, 1) := by decide +kernel
theorem dX4_passHours_1 : decode cX4_passHours 1 = .ok (.iconst 0, 1) := by decide +kernel
theorem dX4_passHours_2 : decode cX4_passHours 2 = .ok (.putfield 38, 3) := by decide +kernel
theorem dX4_passHours_5 : decode cX4_passHours 5 = .ok (.iload_n 1, 1) := by decide +kernel
theorem dX4_passHours_6 : decode cX4_passHours 6 = .ok (.iconst 1, 1) := by decide +kernel
theorem dX4_passHours_7 : decode cX4_passHours 7 = .ok (.bipush 40, 2) := by decide +kernel
theorem dX4_passHours_9 : decode cX4_passHours 9 = .ok (.invokestatic 41, 3) := by decide +kernel
theorem dX4_passHours_12 : decode cX4_passHours 12 = .ok (.ifCond .ne 9, 3) := by decide +kernel
theorem dX4_passHours_15 : decode cX4_passHours 15 = .ok (.aload_n 0, 1) := by decide +kernel
theorem dX4_passHours_16 : decode cX4_passHours 16 = .ok (.iconst 1, 1) := by decide +kernel
theorem dX4_passHours_17 : decode cX4_passHours 17 = .ok (.invokevirtual 84, 3) := by decide +kernel
theorem dX4_passHours_20 : decode cX4_passHours 20 = .ok (.ireturn, 1) := by decide +kernel
theorem dX4_passHours_21 : decode cX4_passHours 21 = .ok (.aload_n 0, 1) := by decide +kernel
theorem dX4_passHours_22 : decode cX4_passHours 22 = .ok (.invokevirtual 88, 3) := by decide +kernel
theorem dX4_passHours_25 : decode cX4_passHours 25 = .ok (.iconst 0, 1) := by decide +kernel
theorem dX4_passHours_26 : decode cX4_passHours 26 = .ok (.istore_n 2, 1) := by decide +kernel
theorem dX4_passHours_27 : decode cX4_passHours 27 = .ok (.iconst 0, 1) := by decide +kernel
theorem dX4_passHours_28 : decode cX4_passHours 28 = .ok (.istore_n 3, 1) := by decide +kernel
theorem dX4_passHours_29 : decode cX4_passHours 29 = .ok (.iload_n 3, 1) := by decide +kernel
theorem dX4_passHours_30 : decode cX4_passHours 30 = .ok (.iload_n 1, 1) := by decide +kernel
theorem dX4_passHours_31 : decode cX4_passHours 31 = .ok (.if_icmp .ge 24, 3) := by decide +kernel
theorem dX4_passHours_34 : decode cX4_passHours 34 = .ok (.iload_n 2, 1) := by decide +kernel
theorem dX4_passHours_35 : decode cX4_passHours 35 = .ok (.aload_n 0, 1) := by decide +kernel
theorem dX4_passHours_36 : decode cX4_passHours 36 = .ok (.aload_n 0, 1) := by decide +kernel
theorem dX4_passHours_37 : decode cX4_passHours 37 = .ok (.getfield 23, 3) := by decide +kernel
theorem dX4_passHours_40 : decode cX4_passHours 40 = .ok (.aload_n 0, 1) := by decide +kernel
theorem dX4_passHours_41 : decode cX4_passHours 41 = .ok (.getfield 16, 3) := by decide +kernel
theorem dX4_passHours_44 : decode cX4_passHours 44 = .ok (.invokevirtual 80, 3) := by decide +kernel
theorem dX4_passHours_47 : decode cX4_passHours 47 = .ok (.iadd, 1) := by decide +kernel
theorem dX4_passHours_48 : decode cX4_passHours 48 = .ok (.istore_n 2, 1) := by decide +kernel
theorem dX4_passHours_49 : decode cX4_passHours 49 = .ok (.iinc 3 1, 3) := by decide +kernel
theorem dX4_passHours_52 : decode cX4_passHours 52 = .ok (.goto (-23), 3) := by decide +kernel
theorem dX4_passHours_55 : decode cX4_passHours 55 = .ok (.aload_n 0, 1) := by decide +kernel
theorem dX4_passHours_56 : decode cX4_passHours 56 = .ok (.dup, 1) := by decide +kernel
theorem dX4_passHours_57 : decode cX4_passHours 57 = .ok (.getfield 101, 3) := by decide +kernel
theorem dX4_passHours_60 : decode cX4_passHours 60 = .ok (.iload_n 1, 1) := by decide +kernel
theorem dX4_passHours_61 : decode cX4_passHours 61 = .ok (.iadd, 1) := by decide +kernel
theorem dX4_passHours_62 : decode cX4_passHours 62 = .ok (.putfield 101, 3) := by decide +kernel
theorem dX4_passHours_65 : decode cX4_passHours 65 = .ok (.aload_n 0, 1) := by decide +kernel
theorem dX4_passHours_66 : decode cX4_passHours 66 = .ok (.dup, 1) := by decide +kernel
theorem dX4_passHours_67 : decode cX4_passHours 67 = .ok (.getfield 104, 3) := by decide +kernel
theorem dX4_passHours_70 : decode cX4_passHours 70 = .ok (.iload_n 2, 1) := by decide +kernel
theorem dX4_passHours_71 : decode cX4_passHours 71 = .ok (.i2l, 1) := by decide +kernel
theorem dX4_passHours_72 : decode cX4_passHours 72 = .ok (.ladd, 1) := by decide +kernel
theorem dX4_passHours_73 : decode cX4_passHours 73 = .ok (.putfield 104, 3) := by decide +kernel
theorem dX4_passHours_76 : decode cX4_passHours 76 = .ok (.iload_n 2, 1) := by decide +kernel
theorem dX4_passHours_77 : decode cX4_passHours 77 = .ok (.ireturn, 1) := by decide +kernel
theorem dX4_mark_0 : decode cX4_mark 0 = .ok (.aload_n 0, 1) := by decide +kernel
theorem dX4_mark_1 : decode cX4_mark 1 = .ok (.iconst 0, 1) := by decide +kernel
theorem dX4_mark_2 : decode cX4_mark 2 = .ok (.putfield 38, 3) := by decide +kernel
theorem dX4_mark_5 : decode cX4_mark 5 = .ok (.aload_n 0, 1) := by decide +kernel
theorem dX4_mark_6 : decode cX4_mark 6 = .ok (.getfield 45, 3) := by decide +kernel
theorem dX4_mark_9 : decode cX4_mark 9 = .ok (.bipush 12, 2) := by decide +kernel
theorem dX4_mark_11 : decode cX4_mark 11 = .ok (.if_icmp .ne 9, 3) := by decide +kernel
theorem dX4_mark_14 : decode cX4_mark 14 = .ok (.aload_n 0, 1) := by decide +kernel
theorem dX4_mark_15 : decode cX4_mark 15 = .ok (.iconst 1, 1) := by decide +kernel
theorem dX4_mark_16 : decode cX4_mark 16 = .ok (.invokevirtual 84, 3) := by decide +kernel
theorem dX4_mark_19 : decode cX4_mark 19 = .ok (.ireturn, 1) := by decide +kernel
theorem dX4_mark_20 : decode cX4_mark 20 = .ok (.aload_n 0, 1) := by decide +kernel
theorem dX4_mark_21 : decode cX4_mark 21 = .ok (.getfield 23, 3) := by decide +kernel
theorem dX4_mark_24 : decode cX4_mark 24 = .ok (.iconst 0, 1) := by decide +kernel
theorem dX4_mark_25 : decode cX4_mark 25 = .ok (.aload_n 0, 1) := by decide +kernel
theorem dX4_mark_26 : decode cX4_mark 26 = .ok (.getfield 29, 3) := by decide +kernel
theorem dX4_mark_29 : decode cX4_mark 29 = .ok (.sipush 128, 3) := by decide +kernel
theorem dX4_mark_32 : decode cX4_mark 32 = .ok (.aload_n 0, 1) := by decide +kernel
theorem dX4_mark_33 : decode cX4_mark 33 = .ok (.getfield 45, 3) := by decide +kernel
theorem dX4_mark_36 : decode cX4_mark 36 = .ok (.imul, 1) := by decide +kernel
theorem dX4_mark_37 : decode cX4_mark 37 = .ok (.sipush 128, 3) := by decide +kernel
theorem dX4_mark_40 : decode cX4_mark 40 = .ok (.invokestatic 61, 3) := by decide +kernel
theorem dX4_mark_43 : decode cX4_mark 43 = .ok (.aload_n 0, 1) := by decide +kernel
theorem dX4_mark_44 : decode cX4_mark 44 = .ok (.dup, 1) := by decide +kernel
theorem dX4_mark_45 : decode cX4_mark 45 = .ok (.getfield 45, 3) := by decide +kernel
theorem dX4_mark_48 : decode cX4_mark 48 = .ok (.iconst 1, 1) := by decide +kernel
theorem dX4_mark_49 : decode cX4_mark 49 = .ok (.iadd, 1) := by decide +kernel
theorem dX4_mark_50 : decode cX4_mark 50 = .ok (.putfield 45, 3) := by decide +kernel
theorem dX4_mark_53 : decode cX4_mark 53 = .ok (.aload_n 0, 1) := by decide +kernel
theorem dX4_mark_54 : decode cX4_mark 54 = .ok (.getfield 45, 3) := by decide +kernel
theorem dX4_mark_57 : decode cX4_mark 57 = .ok (.iconst 1, 1) := by decide +kernel
theorem dX4_mark_58 : decode cX4_mark 58 = .ok (.isub, 1) := by decide +kernel
theorem dX4_mark_59 : decode cX4_mark 59 = .ok (.ireturn, 1) := by decide +kernel
theorem dX4_back_0 : decode cX4_back 0 = .ok (.aload_n 0, 1) := by decide +kernel
theorem dX4_back_1 : decode cX4_back 1 = .ok (.iconst 0, 1) := by decide +kernel
theorem dX4_back_2 : decode cX4_back 2 = .ok (.putfield 38, 3) := by decide +kernel
theorem dX4_back_5 : decode cX4_back 5 = .ok (.aload_n 0, 1) := by decide +kernel
theorem dX4_back_6 : decode cX4_back 6 = .ok (.iload_n 1, 1) := by decide +kernel
theorem dX4_back_7 : decode cX4_back 7 = .ok (.invokevirtual 108, 3) := by decide +kernel
theorem dX4_back_10 : decode cX4_back 10 = .ok (.ifCond .ne 9, 3) := by decide +kernel
theorem dX4_back_13 : decode cX4_back 13 = .ok (.aload_n 0, 1) := by decide +kernel
theorem dX4_back_14 : decode cX4_back 14 = .ok (.iconst 1, 1) := by decide +kernel
theorem dX4_back_15 : decode cX4_back 15 = .ok (.invokevirtual 84, 3) := by decide +kernel
theorem dX4_back_18 : decode cX4_back 18 = .ok (.ireturn, 1) := by decide +kernel
theorem dX4_back_19 : decode cX4_back 19 = .ok (.aload_n 0, 1) := by decide +kernel
theorem dX4_back_20 : decode cX4_back 20 = .ok (.invokevirtual 88, 3) := by decide +kernel
theorem dX4_back_23 : decode cX4_back 23 = .ok (.aload_n 0, 1) := by decide +kernel
theorem dX4_back_24 : decode cX4_back 24 = .ok (.aload_n 0, 1) := by decide +kernel
theorem dX4_back_25 : decode cX4_back 25 = .ok (.getfield 29, 3) := by decide +kernel
theorem dX4_back_28 : decode cX4_back 28 = .ok (.sipush 128, 3) := by decide +kernel
theorem dX4_back_31 : decode cX4_back 31 = .ok (.iload_n 1, 1) := by decide +kernel
theorem dX4_back_32 : decode cX4_back 32 = .ok (.imul, 1) := by decide +kernel
theorem dX4_back_33 : decode cX4_back 33 = .ok (.invokevirtual 111, 3) := by decide +kernel
theorem dX4_back_36 : decode cX4_back 36 = .ok (.ireturn, 1) := by decide +kernel
theorem dX4_undo_0 : decode cX4_undo 0 = .ok (.aload_n 0, 1) := by decide +kernel
theorem dX4_undo_1 : decode cX4_undo 1 = .ok (.iconst 0, 1) := by decide +kernel
theorem dX4_undo_2 : decode cX4_undo 2 = .ok (.putfield 38, 3) := by decide +kernel
theorem dX4_undo_5 : decode cX4_undo 5 = .ok (.aload_n 0, 1) := by decide +kernel
theorem dX4_undo_6 : decode cX4_undo 6 = .ok (.getfield 55, 3) := by decide +kernel
theorem dX4_undo_9 : decode cX4_undo 9 = .ok (.ifCond .ne 9, 3) := by decide +kernel
theorem dX4_undo_12 : decode cX4_undo 12 = .ok (.aload_n 0, 1) := by decide +kernel
theorem dX4_undo_13 : decode cX4_undo 13 = .ok (.iconst 1, 1) := by decide +kernel
theorem dX4_undo_14 : decode cX4_undo 14 = .ok (.invokevirtual 84, 3) := by decide +kernel
theorem dX4_undo_17 : decode cX4_undo 17 = .ok (.ireturn, 1) := by decide +kernel
theorem dX4_undo_18 : decode cX4_undo 18 = .ok (.aload_n 0, 1) := by decide +kernel
theorem dX4_undo_19 : decode cX4_undo 19 = .ok (.dup, 1) := by decide +kernel
theorem dX4_undo_20 : decode cX4_undo 20 = .ok (.getfield 55, 3) := by decide +kernel
theorem dX4_undo_23 : decode cX4_undo 23 = .ok (.iconst 1, 1) := by decide +kernel
theorem dX4_undo_24 : decode cX4_undo 24 = .ok (.isub, 1) := by decide +kernel
theorem dX4_undo_25 : decode cX4_undo 25 = .ok (.putfield 55, 3) := by decide +kernel
theorem dX4_undo_28 : decode cX4_undo 28 = .ok (.aload_n 0, 1) := by decide +kernel
theorem dX4_undo_29 : decode cX4_undo 29 = .ok (.aload_n 0, 1) := by decide +kernel
theorem dX4_undo_30 : decode cX4_undo 30 = .ok (.getfield 26, 3) := by decide +kernel
theorem dX4_undo_33 : decode cX4_undo 33 = .ok (.sipush 128, 3) := by decide +kernel
theorem dX4_undo_36 : decode cX4_undo 36 = .ok (.aload_n 0, 1) := by decide +kernel
theorem dX4_undo_37 : decode cX4_undo 37 = .ok (.getfield 58, 3) := by decide +kernel
theorem dX4_undo_40 : decode cX4_undo 40 = .ok (.aload_n 0, 1) := by decide +kernel
theorem dX4_undo_41 : decode cX4_undo 41 = .ok (.getfield 55, 3) := by decide +kernel
theorem dX4_undo_44 : decode cX4_undo 44 = .ok (.iadd, 1) := by decide +kernel
theorem dX4_undo_45 : decode cX4_undo 45 = .ok (.bipush 30, 2) := by decide +kernel
theorem dX4_undo_47 : decode cX4_undo 47 = .ok (.irem, 1) := by decide +kernel
theorem dX4_undo_48 : decode cX4_undo 48 = .ok (.imul, 1) := by decide +kernel
theorem dX4_undo_49 : decode cX4_undo 49 = .ok (.invokevirtual 111, 3) := by decide +kernel
theorem dX4_undo_52 : decode cX4_undo 52 = .ok (.ireturn, 1) := by decide +kernel
theorem dX4_setSun_0 : decode cX4_setSun 0 = .ok (.aload_n 0, 1) := by decide +kernel
theorem dX4_setSun_1 : decode cX4_setSun 1 = .ok (.iconst 0, 1) := by decide +kernel
theorem dX4_setSun_2 : decode cX4_setSun 2 = .ok (.putfield 38, 3) := by decide +kernel
theorem dX4_setSun_5 : decode cX4_setSun 5 = .ok (.iload_n 1, 1) := by decide +kernel
theorem dX4_setSun_6 : decode cX4_setSun 6 = .ok (.iconst 0, 1) := by decide +kernel
theorem dX4_setSun_7 : decode cX4_setSun 7 = .ok (.bipush 9, 2) := by decide +kernel
theorem dX4_setSun_9 : decode cX4_setSun 9 = .ok (.invokestatic 41, 3) := by decide +kernel
theorem dX4_setSun_12 : decode cX4_setSun 12 = .ok (.ifCond .ne 9, 3) := by decide +kernel
theorem dX4_setSun_15 : decode cX4_setSun 15 = .ok (.aload_n 0, 1) := by decide +kernel
theorem dX4_setSun_16 : decode cX4_setSun 16 = .ok (.iconst 1, 1) := by decide +kernel
theorem dX4_setSun_17 : decode cX4_setSun 17 = .ok (.invokevirtual 84, 3) := by decide +kernel
theorem dX4_setSun_20 : decode cX4_setSun 20 = .ok (.ireturn, 1) := by decide +kernel
theorem dX4_setSun_21 : decode cX4_setSun 21 = .ok (.aload_n 0, 1) := by decide +kernel
theorem dX4_setSun_22 : decode cX4_setSun 22 = .ok (.getfield 16, 3) := by decide +kernel
theorem dX4_setSun_25 : decode cX4_setSun 25 = .ok (.istore_n 2, 1) := by decide +kernel
theorem dX4_setSun_26 : decode cX4_setSun 26 = .ok (.aload_n 0, 1) := by decide +kernel
theorem dX4_setSun_27 : decode cX4_setSun 27 = .ok (.iload_n 1, 1) := by decide +kernel
theorem dX4_setSun_28 : decode cX4_setSun 28 = .ok (.putfield 16, 3) := by decide +kernel
theorem dX4_setSun_31 : decode cX4_setSun 31 = .ok (.iload_n 2, 1) := by decide +kernel
theorem dX4_setSun_32 : decode cX4_setSun 32 = .ok (.ireturn, 1) := by decide +kernel
theorem dX4_setEdge_0 : decode cX4_setEdge 0 = .ok (.aload_n 0, 1) := by decide +kernel
theorem dX4_setEdge_1 : decode cX4_setEdge 1 = .ok (.iconst 0, 1) := by decide +kernel
theorem dX4_setEdge_2 : decode cX4_setEdge 2 = .ok (.putfield 38, 3) := by decide +kernel
theorem dX4_setEdge_5 : decode cX4_setEdge 5 = .ok (.aload_n 0, 1) := by decide +kernel
theorem dX4_setEdge_6 : decode cX4_setEdge 6 = .ok (.iload_n 1, 1) := by decide +kernel
theorem dX4_setEdge_7 : decode cX4_setEdge 7 = .ok (.invokevirtual 52, 3) := by decide +kernel
theorem dX4_setEdge_10 : decode cX4_setEdge 10 = .ok (.ifCond .ne 9, 3) := by decide +kernel
theorem dX4_setEdge_13 : decode cX4_setEdge 13 = .ok (.aload_n 0, 1) := by decide +kernel
theorem dX4_setEdge_14 : decode cX4_setEdge 14 = .ok (.iconst 1, 1) := by decide +kernel
theorem dX4_setEdge_15 : decode cX4_setEdge 15 = .ok (.invokevirtual 84, 3) := by decide +kernel
theorem dX4_setEdge_18 : decode cX4_setEdge 18 = .ok (.ireturn, 1) := by decide +kernel
theorem dX4_setEdge_19 : decode cX4_setEdge 19 = .ok (.iload_n 2, 1) := by decide +kernel
theorem dX4_setEdge_20 : decode cX4_setEdge 20 = .ok (.iconst 0, 1) := by decide +kernel
theorem dX4_setEdge_21 : decode cX4_setEdge 21 = .ok (.sipush 999, 3) := by decide +kernel
theorem dX4_setEdge_24 : decode cX4_setEdge 24 = .ok (.invokestatic 41, 3) := by decide +kernel
theorem dX4_setEdge_27 : decode cX4_setEdge 27 = .ok (.ifCond .ne 9, 3) := by decide +kernel
theorem dX4_setEdge_30 : decode cX4_setEdge 30 = .ok (.aload_n 0, 1) := by decide +kernel
theorem dX4_setEdge_31 : decode cX4_setEdge 31 = .ok (.iconst 2, 1) := by decide +kernel
theorem dX4_setEdge_32 : decode cX4_setEdge 32 = .ok (.invokevirtual 84, 3) := by decide +kernel
theorem dX4_setEdge_35 : decode cX4_setEdge 35 = .ok (.ireturn, 1) := by decide +kernel
theorem dX4_setEdge_36 : decode cX4_setEdge 36 = .ok (.aload_n 0, 1) := by decide +kernel
theorem dX4_setEdge_37 : decode cX4_setEdge 37 = .ok (.getfield 19, 3) := by decide +kernel
theorem dX4_setEdge_40 : decode cX4_setEdge 40 = .ok (.iload_n 1, 1) := by decide +kernel
theorem dX4_setEdge_41 : decode cX4_setEdge 41 = .ok (.iaload, 1) := by decide +kernel
theorem dX4_setEdge_42 : decode cX4_setEdge 42 = .ok (.istore_n 3, 1) := by decide +kernel
theorem dX4_setEdge_43 : decode cX4_setEdge 43 = .ok (.aload_n 0, 1) := by decide +kernel
theorem dX4_setEdge_44 : decode cX4_setEdge 44 = .ok (.getfield 19, 3) := by decide +kernel
theorem dX4_setEdge_47 : decode cX4_setEdge 47 = .ok (.iload_n 1, 1) := by decide +kernel
theorem dX4_setEdge_48 : decode cX4_setEdge 48 = .ok (.iload_n 2, 1) := by decide +kernel
theorem dX4_setEdge_49 : decode cX4_setEdge 49 = .ok (.iastore, 1) := by decide +kernel
theorem dX4_setEdge_50 : decode cX4_setEdge 50 = .ok (.iload_n 3, 1) := by decide +kernel
theorem dX4_setEdge_51 : decode cX4_setEdge 51 = .ok (.ireturn, 1) := by decide +kernel
theorem dX4_flights_0 : decode cX4_flights 0 = .ok (.aload_n 0, 1) := by decide +kernel
theorem dX4_flights_1 : decode cX4_flights 1 = .ok (.aload_n 0, 1) := by decide +kernel
theorem dX4_flights_2 : decode cX4_flights 2 = .ok (.getfield 9, 3) := by decide +kernel
theorem dX4_flights_5 : decode cX4_flights 5 = .ok (.invokevirtual 114, 3) := by decide +kernel
theorem dX4_flights_8 : decode cX4_flights 8 = .ok (.ireturn, 1) := by decide +kernel
theorem dX4_steps_0 : decode cX4_steps 0 = .ok (.aload_n 0, 1) := by decide +kernel
theorem dX4_steps_1 : decode cX4_steps 1 = .ok (.aload_n 0, 1) := by decide +kernel
theorem dX4_steps_2 : decode cX4_steps 2 = .ok (.getfield 13, 3) := by decide +kernel
theorem dX4_steps_5 : decode cX4_steps 5 = .ok (.invokevirtual 114, 3) := by decide +kernel
theorem dX4_steps_8 : decode cX4_steps 8 = .ok (.ireturn, 1) := by decide +kernel
theorem dX4_hours_0 : decode cX4_hours 0 = .ok (.aload_n 0, 1) := by decide +kernel
theorem dX4_hours_1 : decode cX4_hours 1 = .ok (.aload_n 0, 1) := by decide +kernel
theorem dX4_hours_2 : decode cX4_hours 2 = .ok (.getfield 101, 3) := by decide +kernel
theorem dX4_hours_5 : decode cX4_hours 5 = .ok (.invokevirtual 114, 3) := by decide +kernel
theorem dX4_hours_8 : decode cX4_hours 8 = .ok (.ireturn, 1) := by decide +kernel
theorem dX4_sun_0 : decode cX4_sun 0 = .ok (.aload_n 0, 1) := by decide +kernel
theorem dX4_sun_1 : decode cX4_sun 1 = .ok (.aload_n 0, 1) := by decide +kernel
theorem dX4_sun_2 : decode cX4_sun 2 = .ok (.getfield 16, 3) := by decide +kernel
theorem dX4_sun_5 : decode cX4_sun 5 = .ok (.invokevirtual 114, 3) := by decide +kernel
theorem dX4_sun_8 : decode cX4_sun 8 = .ok (.ireturn, 1) := by decide +kernel
theorem dX4_edgeOf_0 : decode cX4_edgeOf 0 = .ok (.aload_n 0, 1) := by decide +kernel
theorem dX4_edgeOf_1 : decode cX4_edgeOf 1 = .ok (.iconst 0, 1) := by decide +kernel
theorem dX4_edgeOf_2 : decode cX4_edgeOf 2 = .ok (.putfield 38, 3) := by decide +kernel
theorem dX4_edgeOf_5 : decode cX4_edgeOf 5 = .ok (.aload_n 0, 1) := by decide +kernel
theorem dX4_edgeOf_6 : decode cX4_edgeOf 6 = .ok (.iload_n 1, 1) := by decide +kernel
theorem dX4_edgeOf_7 : decode cX4_edgeOf 7 = .ok (.invokevirtual 52, 3) := by decide +kernel
theorem dX4_edgeOf_10 : decode cX4_edgeOf 10 = .ok (.ifCond .eq 12, 3) := by decide +kernel
theorem dX4_edgeOf_13 : decode cX4_edgeOf 13 = .ok (.aload_n 0, 1) := by decide +kernel
theorem dX4_edgeOf_14 : decode cX4_edgeOf 14 = .ok (.getfield 19, 3) := by decide +kernel
theorem dX4_edgeOf_17 : decode cX4_edgeOf 17 = .ok (.iload_n 1, 1) := by decide +kernel
theorem dX4_edgeOf_18 : decode cX4_edgeOf 18 = .ok (.iaload, 1) := by decide +kernel
theorem dX4_edgeOf_19 : decode cX4_edgeOf 19 = .ok (.goto 8, 3) := by decide +kernel
theorem dX4_edgeOf_22 : decode cX4_edgeOf 22 = .ok (.aload_n 0, 1) := by decide +kernel
theorem dX4_edgeOf_23 : decode cX4_edgeOf 23 = .ok (.iconst 1, 1) := by decide +kernel
theorem dX4_edgeOf_24 : decode cX4_edgeOf 24 = .ok (.invokevirtual 84, 3) := by decide +kernel
theorem dX4_edgeOf_27 : decode cX4_edgeOf 27 = .ok (.ireturn, 1) := by decide +kernel
theorem dX4_marks_0 : decode cX4_marks 0 = .ok (.aload_n 0, 1) := by decide +kernel
theorem dX4_marks_1 : decode cX4_marks 1 = .ok (.aload_n 0, 1) := by decide +kernel
theorem dX4_marks_2 : decode cX4_marks 2 = .ok (.getfield 45, 3) := by decide +kernel
theorem dX4_marks_5 : decode cX4_marks 5 = .ok (.invokevirtual 114, 3) := by decide +kernel
theorem dX4_marks_8 : decode cX4_marks 8 = .ok (.ireturn, 1) := by decide +kernel
theorem dX4_deeds_0 : decode cX4_deeds 0 = .ok (.aload_n 0, 1) := by decide +kernel
theorem dX4_deeds_1 : decode cX4_deeds 1 = .ok (.aload_n 0, 1) := by decide +kernel
theorem dX4_deeds_2 : decode cX4_deeds 2 = .ok (.getfield 55, 3) := by decide +kernel
theorem dX4_deeds_5 : decode cX4_deeds 5 = .ok (.invokevirtual 114, 3) := by decide +kernel
theorem dX4_deeds_8 : decode cX4_deeds 8 = .ok (.ireturn, 1) := by decide +kernel
theorem dX4_gone_0 : decode cX4_gone 0 = .ok (.aload_n 0, 1) := by decide +kernel
theorem dX4_gone_1 : decode cX4_gone 1 = .ok (.aload_n 0, 1) := by decide +kernel
theorem dX4_gone_2 : decode cX4_gone 2 = .ok (.getfield 104, 3) := by decide +kernel
theorem dX4_gone_5 : decode cX4_gone 5 = .ok (.invokevirtual 117, 3) := by decide +kernel
theorem dX4_gone_8 : decode cX4_gone 8 = .ok (.lreturn, 1) := by decide +kernel
theorem dX4_at_0 : decode cX4_at 0 = .ok (.aload_n 0, 1) := by decide +kernel
theorem dX4_at_1 : decode cX4_at 1 = .ok (.getfield 23, 3) := by decide +kernel
theorem dX4_at_4 : decode cX4_at 4 = .ok (.iload_n 1, 1) := by decide +kernel
theorem dX4_at_5 : decode cX4_at 5 = .ok (.aload_n 0, 1) := by decide +kernel
theorem dX4_at_6 : decode cX4_at 6 = .ok (.getfield 13, 3) := by decide +kernel
theorem dX4_at_9 : decode cX4_at 9 = .ok (.imul, 1) := by decide +kernel
theorem dX4_at_10 : decode cX4_at 10 = .ok (.iload_n 2, 1) := by decide +kernel
theorem dX4_at_11 : decode cX4_at 11 = .ok (.iadd, 1) := by decide +kernel
theorem dX4_at_12 : decode cX4_at 12 = .ok (.iaload, 1) := by decide +kernel
theorem dX4_at_13 : decode cX4_at 13 = .ok (.ireturn, 1) := by decide +kernel
theorem dX4_levelAt_0 : decode cX4_levelAt 0 = .ok (.aload_n 0, 1) := by decide +kernel
theorem dX4_levelAt_1 : decode cX4_levelAt 1 = .ok (.iconst 0, 1) := by decide +kernel
theorem dX4_levelAt_2 : decode cX4_levelAt 2 = .ok (.putfield 38, 3) := by decide +kernel
theorem dX4_levelAt_5 : decode cX4_levelAt 5 = .ok (.aload_n 0, 1) := by decide +kernel
theorem dX4_levelAt_6 : decode cX4_levelAt 6 = .ok (.iload_n 1, 1) := by decide +kernel
theorem dX4_levelAt_7 : decode cX4_levelAt 7 = .ok (.invokevirtual 48, 3) := by decide +kernel
theorem dX4_levelAt_10 : decode cX4_levelAt 10 = .ok (.ifCond .eq 20, 3) := by decide +kernel
theorem dX4_levelAt_13 : decode cX4_levelAt 13 = .ok (.aload_n 0, 1) := by decide +kernel
theorem dX4_levelAt_14 : decode cX4_levelAt 14 = .ok (.iload_n 2, 1) := by decide +kernel
theorem dX4_levelAt_15 : decode cX4_levelAt 15 = .ok (.invokevirtual 52, 3) := by decide +kernel
theorem dX4_levelAt_18 : decode cX4_levelAt 18 = .ok (.ifCond .eq 12, 3) := by decide +kernel
theorem dX4_levelAt_21 : decode cX4_levelAt 21 = .ok (.aload_n 0, 1) := by decide +kernel
theorem dX4_levelAt_22 : decode cX4_levelAt 22 = .ok (.iload_n 1, 1) := by decide +kernel
theorem dX4_levelAt_23 : decode cX4_levelAt 23 = .ok (.iload_n 2, 1) := by decide +kernel
theorem dX4_levelAt_24 : decode cX4_levelAt 24 = .ok (.invokevirtual 121, 3) := by decide +kernel
theorem dX4_levelAt_27 : decode cX4_levelAt 27 = .ok (.goto 8, 3) := by decide +kernel
theorem dX4_levelAt_30 : decode cX4_levelAt 30 = .ok (.aload_n 0, 1) := by decide +kernel
theorem dX4_levelAt_31 : decode cX4_levelAt 31 = .ok (.iconst 1, 1) := by decide +kernel
theorem dX4_levelAt_32 : decode cX4_levelAt 32 = .ok (.invokevirtual 84, 3) := by decide +kernel
theorem dX4_levelAt_35 : decode cX4_levelAt 35 = .ok (.ireturn, 1) := by decide +kernel
theorem dX4_added_0 : decode cX4_added 0 = .ok (.lconst 0, 1) := by decide +kernel
theorem dX4_added_1 : decode cX4_added 1 = .ok (.lstore 5, 2) := by decide +kernel
theorem dX4_added_3 : decode cX4_added 3 = .ok (.iload_n 1, 1) := by decide +kernel
theorem dX4_added_4 : decode cX4_added 4 = .ok (.istore 7, 2) := by decide +kernel
theorem dX4_added_6 : decode cX4_added 6 = .ok (.iload 7, 2) := by decide +kernel
theorem dX4_added_8 : decode cX4_added 8 = .ok (.iload_n 3, 1) := by decide +kernel
theorem dX4_added_9 : decode cX4_added 9 = .ok (.if_icmp .gt 39, 3) := by decide +kernel
theorem dX4_added_12 : decode cX4_added 12 = .ok (.iload_n 2, 1) := by decide +kernel
theorem dX4_added_13 : decode cX4_added 13 = .ok (.istore 8, 2) := by decide +kernel
theorem dX4_added_15 : decode cX4_added 15 = .ok (.iload 8, 2) := by decide +kernel
theorem dX4_added_17 : decode cX4_added 17 = .ok (.iload 4, 2) := by decide +kernel
theorem dX4_added_19 : decode cX4_added 19 = .ok (.if_icmp .gt 23, 3) := by decide +kernel
theorem dX4_added_22 : decode cX4_added 22 = .ok (.lload 5, 2) := by decide +kernel
theorem dX4_added_24 : decode cX4_added 24 = .ok (.aload_n 0, 1) := by decide +kernel
theorem dX4_added_25 : decode cX4_added 25 = .ok (.iload 7, 2) := by decide +kernel
theorem dX4_added_27 : decode cX4_added 27 = .ok (.iload 8, 2) := by decide +kernel
theorem dX4_added_29 : decode cX4_added 29 = .ok (.invokevirtual 121, 3) := by decide +kernel
theorem dX4_added_32 : decode cX4_added 32 = .ok (.i2l, 1) := by decide +kernel
theorem dX4_added_33 : decode cX4_added 33 = .ok (.ladd, 1) := by decide +kernel
theorem dX4_added_34 : decode cX4_added 34 = .ok (.lstore 5, 2) := by decide +kernel
theorem dX4_added_36 : decode cX4_added 36 = .ok (.iinc 8 1, 3) := by decide +kernel
theorem dX4_added_39 : decode cX4_added 39 = .ok (.goto (-24), 3) := by decide +kernel
theorem dX4_added_42 : decode cX4_added 42 = .ok (.iinc 7 1, 3) := by decide +kernel
theorem dX4_added_45 : decode cX4_added 45 = .ok (.goto (-39), 3) := by decide +kernel
theorem dX4_added_48 : decode cX4_added 48 = .ok (.lload 5, 2) := by decide +kernel
theorem dX4_added_50 : decode cX4_added 50 = .ok (.lreturn, 1) := by decide +kernel
theorem dX4_sumOf_0 : decode cX4_sumOf 0 = .ok (.aload_n 0, 1) := by decide +kernel
theorem dX4_sumOf_1 : decode cX4_sumOf 1 = .ok (.aload_n 0, 1) := by decide +kernel
theorem dX4_sumOf_2 : decode cX4_sumOf 2 = .ok (.iload_n 1, 1) := by decide +kernel
theorem dX4_sumOf_3 : decode cX4_sumOf 3 = .ok (.iload_n 2, 1) := by decide +kernel
theorem dX4_sumOf_4 : decode cX4_sumOf 4 = .ok (.iload_n 3, 1) := by decide +kernel
theorem dX4_sumOf_5 : decode cX4_sumOf 5 = .ok (.iload 4, 2) := by decide +kernel
theorem dX4_sumOf_7 : decode cX4_sumOf 7 = .ok (.invokevirtual 91, 3) := by decide +kernel
theorem dX4_sumOf_10 : decode cX4_sumOf 10 = .ok (.putfield 38, 3) := by decide +kernel
theorem dX4_sumOf_13 : decode cX4_sumOf 13 = .ok (.aload_n 0, 1) := by decide +kernel
theorem dX4_sumOf_14 : decode cX4_sumOf 14 = .ok (.getfield 38, 3) := by decide +kernel
theorem dX4_sumOf_17 : decode cX4_sumOf 17 = .ok (.ifCond .le 7, 3) := by decide +kernel
theorem dX4_sumOf_20 : decode cX4_sumOf 20 = .ok (.lconst 0, 1) := by decide +kernel
theorem dX4_sumOf_21 : decode cX4_sumOf 21 = .ok (.goto 12, 3) := by decide +kernel
theorem dX4_sumOf_24 : decode cX4_sumOf 24 = .ok (.aload_n 0, 1) := by decide +kernel
theorem dX4_sumOf_25 : decode cX4_sumOf 25 = .ok (.iload_n 1, 1) := by decide +kernel
theorem dX4_sumOf_26 : decode cX4_sumOf 26 = .ok (.iload_n 2, 1) := by decide +kernel
theorem dX4_sumOf_27 : decode cX4_sumOf 27 = .ok (.iload_n 3, 1) := by decide +kernel
theorem dX4_sumOf_28 : decode cX4_sumOf 28 = .ok (.iload 4, 2) := by decide +kernel
theorem dX4_sumOf_30 : decode cX4_sumOf 30 = .ok (.invokevirtual 124, 3) := by decide +kernel
theorem dX4_sumOf_33 : decode cX4_sumOf 33 = .ok (.lreturn, 1) := by decide +kernel
theorem dX4_sumTo_0 : decode cX4_sumTo 0 = .ok (.aload_n 0, 1) := by decide +kernel
theorem dX4_sumTo_1 : decode cX4_sumTo 1 = .ok (.aload_n 0, 1) := by decide +kernel
theorem dX4_sumTo_2 : decode cX4_sumTo 2 = .ok (.iload_n 1, 1) := by decide +kernel
theorem dX4_sumTo_3 : decode cX4_sumTo 3 = .ok (.invokevirtual 48, 3) := by decide +kernel
theorem dX4_sumTo_6 : decode cX4_sumTo 6 = .ok (.ifCond .eq 15, 3) := by decide +kernel
theorem dX4_sumTo_9 : decode cX4_sumTo 9 = .ok (.aload_n 0, 1) := by decide +kernel
theorem dX4_sumTo_10 : decode cX4_sumTo 10 = .ok (.iload_n 2, 1) := by decide +kernel
theorem dX4_sumTo_11 : decode cX4_sumTo 11 = .ok (.invokevirtual 52, 3) := by decide +kernel
theorem dX4_sumTo_14 : decode cX4_sumTo 14 = .ok (.ifCond .eq 7, 3) := by decide +kernel
theorem dX4_sumTo_17 : decode cX4_sumTo 17 = .ok (.iconst 0, 1) := by decide +kernel
theorem dX4_sumTo_18 : decode cX4_sumTo 18 = .ok (.goto 4, 3) := by decide +kernel
theorem dX4_sumTo_21 : decode cX4_sumTo 21 = .ok (.iconst 1, 1) := by decide +kernel
theorem dX4_sumTo_22 : decode cX4_sumTo 22 = .ok (.putfield 38, 3) := by decide +kernel
theorem dX4_sumTo_25 : decode cX4_sumTo 25 = .ok (.aload_n 0, 1) := by decide +kernel
theorem dX4_sumTo_26 : decode cX4_sumTo 26 = .ok (.getfield 38, 3) := by decide +kernel
theorem dX4_sumTo_29 : decode cX4_sumTo 29 = .ok (.ifCond .le 7, 3) := by decide +kernel
theorem dX4_sumTo_32 : decode cX4_sumTo 32 = .ok (.lconst 0, 1) := by decide +kernel
theorem dX4_sumTo_33 : decode cX4_sumTo 33 = .ok (.goto 11, 3) := by decide +kernel
theorem dX4_sumTo_36 : decode cX4_sumTo 36 = .ok (.aload_n 0, 1) := by decide +kernel
theorem dX4_sumTo_37 : decode cX4_sumTo 37 = .ok (.iconst 0, 1) := by decide +kernel
theorem dX4_sumTo_38 : decode cX4_sumTo 38 = .ok (.iconst 0, 1) := by decide +kernel
theorem dX4_sumTo_39 : decode cX4_sumTo 39 = .ok (.iload_n 1, 1) := by decide +kernel
theorem dX4_sumTo_40 : decode cX4_sumTo 40 = .ok (.iload_n 2, 1) := by decide +kernel
theorem dX4_sumTo_41 : decode cX4_sumTo 41 = .ok (.invokevirtual 124, 3) := by decide +kernel
theorem dX4_sumTo_44 : decode cX4_sumTo 44 = .ok (.lreturn, 1) := by decide +kernel
theorem dX4_ofFlight_0 : decode cX4_ofFlight 0 = .ok (.aload_n 0, 1) := by decide +kernel
theorem dX4_ofFlight_1 : decode cX4_ofFlight 1 = .ok (.iload_n 1, 1) := by decide +kernel
theorem dX4_ofFlight_2 : decode cX4_ofFlight 2 = .ok (.iconst 0, 1) := by decide +kernel
theorem dX4_ofFlight_3 : decode cX4_ofFlight 3 = .ok (.iload_n 1, 1) := by decide +kernel
theorem dX4_ofFlight_4 : decode cX4_ofFlight 4 = .ok (.aload_n 0, 1) := by decide +kernel
theorem dX4_ofFlight_5 : decode cX4_ofFlight 5 = .ok (.getfield 13, 3) := by decide +kernel
theorem dX4_ofFlight_8 : decode cX4_ofFlight 8 = .ok (.iconst 1, 1) := by decide +kernel
theorem dX4_ofFlight_9 : decode cX4_ofFlight 9 = .ok (.isub, 1) := by decide +kernel
theorem dX4_ofFlight_10 : decode cX4_ofFlight 10 = .ok (.invokevirtual 124, 3) := by decide +kernel
theorem dX4_ofFlight_13 : decode cX4_ofFlight 13 = .ok (.lreturn, 1) := by decide +kernel
theorem dX4_flightSum_0 : decode cX4_flightSum 0 = .ok (.aload_n 0, 1) := by decide +kernel
theorem dX4_flightSum_1 : decode cX4_flightSum 1 = .ok (.aload_n 0, 1) := by decide +kernel
theorem dX4_flightSum_2 : decode cX4_flightSum 2 = .ok (.iload_n 1, 1) := by decide +kernel
theorem dX4_flightSum_3 : decode cX4_flightSum 3 = .ok (.invokevirtual 48, 3) := by decide +kernel
theorem dX4_flightSum_6 : decode cX4_flightSum 6 = .ok (.ifCond .eq 7, 3) := by decide +kernel
theorem dX4_flightSum_9 : decode cX4_flightSum 9 = .ok (.iconst 0, 1) := by decide +kernel
theorem dX4_flightSum_10 : decode cX4_flightSum 10 = .ok (.goto 4, 3) := by decide +kernel
theorem dX4_flightSum_13 : decode cX4_flightSum 13 = .ok (.iconst 1, 1) := by decide +kernel
theorem dX4_flightSum_14 : decode cX4_flightSum 14 = .ok (.putfield 38, 3) := by decide +kernel
theorem dX4_flightSum_17 : decode cX4_flightSum 17 = .ok (.aload_n 0, 1) := by decide +kernel
theorem dX4_flightSum_18 : decode cX4_flightSum 18 = .ok (.getfield 38, 3) := by decide +kernel
theorem dX4_flightSum_21 : decode cX4_flightSum 21 = .ok (.ifCond .le 7, 3) := by decide +kernel
theorem dX4_flightSum_24 : decode cX4_flightSum 24 = .ok (.lconst 0, 1) := by decide +kernel
theorem dX4_flightSum_25 : decode cX4_flightSum 25 = .ok (.goto 8, 3) := by decide +kernel
theorem dX4_flightSum_28 : decode cX4_flightSum 28 = .ok (.aload_n 0, 1) := by decide +kernel
theorem dX4_flightSum_29 : decode cX4_flightSum 29 = .ok (.iload_n 1, 1) := by decide +kernel
theorem dX4_flightSum_30 : decode cX4_flightSum 30 = .ok (.invokevirtual 128, 3) := by decide +kernel
theorem dX4_flightSum_33 : decode cX4_flightSum 33 = .ok (.lreturn, 1) := by decide +kernel
theorem dX4_ofStep_0 : decode cX4_ofStep 0 = .ok (.aload_n 0, 1) := by decide +kernel
theorem dX4_ofStep_1 : decode cX4_ofStep 1 = .ok (.iconst 0, 1) := by decide +kernel
theorem dX4_ofStep_2 : decode cX4_ofStep 2 = .ok (.iload_n 1, 1) := by decide +kernel
theorem dX4_ofStep_3 : decode cX4_ofStep 3 = .ok (.aload_n 0, 1) := by decide +kernel
theorem dX4_ofStep_4 : decode cX4_ofStep 4 = .ok (.getfield 9, 3) := by decide +kernel
theorem dX4_ofStep_7 : decode cX4_ofStep 7 = .ok (.iconst 1, 1) := by decide +kernel
theorem dX4_ofStep_8 : decode cX4_ofStep 8 = .ok (.isub, 1) := by decide +kernel
theorem dX4_ofStep_9 : decode cX4_ofStep 9 = .ok (.iload_n 1, 1) := by decide +kernel
theorem dX4_ofStep_10 : decode cX4_ofStep 10 = .ok (.invokevirtual 124, 3) := by decide +kernel
theorem dX4_ofStep_13 : decode cX4_ofStep 13 = .ok (.lreturn, 1) := by decide +kernel
theorem dX4_stepSum_0 : decode cX4_stepSum 0 = .ok (.aload_n 0, 1) := by decide +kernel
theorem dX4_stepSum_1 : decode cX4_stepSum 1 = .ok (.aload_n 0, 1) := by decide +kernel
theorem dX4_stepSum_2 : decode cX4_stepSum 2 = .ok (.iload_n 1, 1) := by decide +kernel
theorem dX4_stepSum_3 : decode cX4_stepSum 3 = .ok (.invokevirtual 52, 3) := by decide +kernel
theorem dX4_stepSum_6 : decode cX4_stepSum 6 = .ok (.ifCond .eq 7, 3) := by decide +kernel
theorem dX4_stepSum_9 : decode cX4_stepSum 9 = .ok (.iconst 0, 1) := by decide +kernel
theorem dX4_stepSum_10 : decode cX4_stepSum 10 = .ok (.goto 4, 3) := by decide +kernel
theorem dX4_stepSum_13 : decode cX4_stepSum 13 = .ok (.iconst 1, 1) := by decide +kernel
theorem dX4_stepSum_14 : decode cX4_stepSum 14 = .ok (.putfield 38, 3) := by decide +kernel
theorem dX4_stepSum_17 : decode cX4_stepSum 17 = .ok (.aload_n 0, 1) := by decide +kernel
theorem dX4_stepSum_18 : decode cX4_stepSum 18 = .ok (.getfield 38, 3) := by decide +kernel
theorem dX4_stepSum_21 : decode cX4_stepSum 21 = .ok (.ifCond .le 7, 3) := by decide +kernel
theorem dX4_stepSum_24 : decode cX4_stepSum 24 = .ok (.lconst 0, 1) := by decide +kernel
theorem dX4_stepSum_25 : decode cX4_stepSum 25 = .ok (.goto 8, 3) := by decide +kernel
theorem dX4_stepSum_28 : decode cX4_stepSum 28 = .ok (.aload_n 0, 1) := by decide +kernel
theorem dX4_stepSum_29 : decode cX4_stepSum 29 = .ok (.iload_n 1, 1) := by decide +kernel
theorem dX4_stepSum_30 : decode cX4_stepSum 30 = .ok (.invokevirtual 132, 3) := by decide +kernel
theorem dX4_stepSum_33 : decode cX4_stepSum 33 = .ok (.lreturn, 1) := by decide +kernel
theorem dX4_sumOfAll_0 : decode cX4_sumOfAll 0 = .ok (.aload_n 0, 1) := by decide +kernel
theorem dX4_sumOfAll_1 : decode cX4_sumOfAll 1 = .ok (.iconst 0, 1) := by decide +kernel
theorem dX4_sumOfAll_2 : decode cX4_sumOfAll 2 = .ok (.iconst 0, 1) := by decide +kernel
theorem dX4_sumOfAll_3 : decode cX4_sumOfAll 3 = .ok (.aload_n 0, 1) := by decide +kernel
theorem dX4_sumOfAll_4 : decode cX4_sumOfAll 4 = .ok (.getfield 9, 3) := by decide +kernel
theorem dX4_sumOfAll_7 : decode cX4_sumOfAll 7 = .ok (.iconst 1, 1) := by decide +kernel
theorem dX4_sumOfAll_8 : decode cX4_sumOfAll 8 = .ok (.isub, 1) := by decide +kernel
theorem dX4_sumOfAll_9 : decode cX4_sumOfAll 9 = .ok (.aload_n 0, 1) := by decide +kernel
theorem dX4_sumOfAll_10 : decode cX4_sumOfAll 10 = .ok (.getfield 13, 3) := by decide +kernel
theorem dX4_sumOfAll_13 : decode cX4_sumOfAll 13 = .ok (.iconst 1, 1) := by decide +kernel
theorem dX4_sumOfAll_14 : decode cX4_sumOfAll 14 = .ok (.isub, 1) := by decide +kernel
theorem dX4_sumOfAll_15 : decode cX4_sumOfAll 15 = .ok (.invokevirtual 124, 3) := by decide +kernel
theorem dX4_sumOfAll_18 : decode cX4_sumOfAll 18 = .ok (.lreturn, 1) := by decide +kernel
theorem dX4_total_0 : decode cX4_total 0 = .ok (.aload_n 0, 1) := by decide +kernel
theorem dX4_total_1 : decode cX4_total 1 = .ok (.aload_n 0, 1) := by decide +kernel
theorem dX4_total_2 : decode cX4_total 2 = .ok (.invokevirtual 135, 3) := by decide +kernel
theorem dX4_total_5 : decode cX4_total 5 = .ok (.invokevirtual 117, 3) := by decide +kernel
theorem dX4_total_8 : decode cX4_total 8 = .ok (.lreturn, 1) := by decide +kernel
theorem dX4_reaching_0 : decode cX4_reaching 0 = .ok (.lconst 0, 1) := by decide +kernel
theorem dX4_reaching_1 : decode cX4_reaching 1 = .ok (.lstore_n 3, 1) := by decide +kernel
theorem dX4_reaching_2 : decode cX4_reaching 2 = .ok (.iconst 0, 1) := by decide +kernel
theorem dX4_reaching_3 : decode cX4_reaching 3 = .ok (.istore 5, 2) := by decide +kernel
theorem dX4_reaching_5 : decode cX4_reaching 5 = .ok (.iload 5, 2) := by decide +kernel
theorem dX4_reaching_7 : decode cX4_reaching 7 = .ok (.aload_n 0, 1) := by decide +kernel
theorem dX4_reaching_8 : decode cX4_reaching 8 = .ok (.getfield 13, 3) := by decide +kernel
theorem dX4_reaching_11 : decode cX4_reaching 11 = .ok (.if_icmp .ge 30, 3) := by decide +kernel
theorem dX4_reaching_14 : decode cX4_reaching 14 = .ok (.lload_n 3, 1) := by decide +kernel
theorem dX4_reaching_15 : decode cX4_reaching 15 = .ok (.aload_n 0, 1) := by decide +kernel
theorem dX4_reaching_16 : decode cX4_reaching 16 = .ok (.iload_n 1, 1) := by decide +kernel
theorem dX4_reaching_17 : decode cX4_reaching 17 = .ok (.iload 5, 2) := by decide +kernel
theorem dX4_reaching_19 : decode cX4_reaching 19 = .ok (.invokevirtual 121, 3) := by decide +kernel
theorem dX4_reaching_22 : decode cX4_reaching 22 = .ok (.i2l, 1) := by decide +kernel
theorem dX4_reaching_23 : decode cX4_reaching 23 = .ok (.ladd, 1) := by decide +kernel
theorem dX4_reaching_24 : decode cX4_reaching 24 = .ok (.lstore_n 3, 1) := by decide +kernel
theorem dX4_reaching_25 : decode cX4_reaching 25 = .ok (.lload_n 3, 1) := by decide +kernel
theorem dX4_reaching_26 : decode cX4_reaching 26 = .ok (.iload_n 2, 1) := by decide +kernel
theorem dX4_reaching_27 : decode cX4_reaching 27 = .ok (.i2l, 1) := by decide +kernel
theorem dX4_reaching_28 : decode cX4_reaching 28 = .ok (.lcmp, 1) := by decide +kernel
theorem dX4_reaching_29 : decode cX4_reaching 29 = .ok (.ifCond .lt 6, 3) := by decide +kernel
theorem dX4_reaching_32 : decode cX4_reaching 32 = .ok (.iload 5, 2) := by decide +kernel
theorem dX4_reaching_34 : decode cX4_reaching 34 = .ok (.ireturn, 1) := by decide +kernel
theorem dX4_reaching_35 : decode cX4_reaching 35 = .ok (.iinc 5 1, 3) := by decide +kernel
theorem dX4_reaching_38 : decode cX4_reaching 38 = .ok (.goto (-33), 3) := by decide +kernel
theorem dX4_reaching_41 : decode cX4_reaching 41 = .ok (.iconst (-1), 1) := by decide +kernel
theorem dX4_reaching_42 : decode cX4_reaching 42 = .ok (.ireturn, 1) := by decide +kernel
theorem dX4_firstReaching_0 : decode cX4_firstReaching 0 = .ok (.aload_n 0, 1) := by decide +kernel
theorem dX4_firstReaching_1 : decode cX4_firstReaching 1 = .ok (.iconst 0, 1) := by decide +kernel
theorem dX4_firstReaching_2 : decode cX4_firstReaching 2 = .ok (.putfield 38, 3) := by decide +kernel
theorem dX4_firstReaching_5 : decode cX4_firstReaching 5 = .ok (.aload_n 0, 1) := by decide +kernel
theorem dX4_firstReaching_6 : decode cX4_firstReaching 6 = .ok (.iload_n 1, 1) := by decide +kernel
theorem dX4_firstReaching_7 : decode cX4_firstReaching 7 = .ok (.invokevirtual 48, 3) := by decide +kernel
theorem dX4_firstReaching_10 : decode cX4_firstReaching 10 = .ok (.ifCond .eq 12, 3) := by decide +kernel
theorem dX4_firstReaching_13 : decode cX4_firstReaching 13 = .ok (.aload_n 0, 1) := by decide +kernel
theorem dX4_firstReaching_14 : decode cX4_firstReaching 14 = .ok (.iload_n 1, 1) := by decide +kernel
theorem dX4_firstReaching_15 : decode cX4_firstReaching 15 = .ok (.iload_n 2, 1) := by decide +kernel
theorem dX4_firstReaching_16 : decode cX4_firstReaching 16 = .ok (.invokevirtual 139, 3) := by decide +kernel
theorem dX4_firstReaching_19 : decode cX4_firstReaching 19 = .ok (.goto 8, 3) := by decide +kernel
theorem dX4_firstReaching_22 : decode cX4_firstReaching 22 = .ok (.aload_n 0, 1) := by decide +kernel
theorem dX4_firstReaching_23 : decode cX4_firstReaching 23 = .ok (.iconst 1, 1) := by decide +kernel
theorem dX4_firstReaching_24 : decode cX4_firstReaching 24 = .ok (.invokevirtual 84, 3) := by decide +kernel
theorem dX4_firstReaching_27 : decode cX4_firstReaching 27 = .ok (.ireturn, 1) := by decide +kernel
theorem dX4_run_0 : decode cX4_run 0 = .ok (.aload_n 0, 1) := by decide +kernel
theorem dX4_run_1 : decode cX4_run 1 = .ok (.iload_n 1, 1) := by decide +kernel
theorem dX4_run_2 : decode cX4_run 2 = .ok (.iconst 0, 1) := by decide +kernel
theorem dX4_run_3 : decode cX4_run 3 = .ok (.invokevirtual 121, 3) := by decide +kernel
theorem dX4_run_6 : decode cX4_run 6 = .ok (.i2l, 1) := by decide +kernel
theorem dX4_run_7 : decode cX4_run 7 = .ok (.lstore_n 2, 1) := by decide +kernel
theorem dX4_run_8 : decode cX4_run 8 = .ok (.lload_n 2, 1) := by decide +kernel
theorem dX4_run_9 : decode cX4_run 9 = .ok (.lstore 4, 2) := by decide +kernel
theorem dX4_run_11 : decode cX4_run 11 = .ok (.iconst 1, 1) := by decide +kernel
theorem dX4_run_12 : decode cX4_run 12 = .ok (.istore 6, 2) := by decide +kernel
theorem dX4_run_14 : decode cX4_run 14 = .ok (.iload 6, 2) := by decide +kernel
theorem dX4_run_16 : decode cX4_run 16 = .ok (.aload_n 0, 1) := by decide +kernel
theorem dX4_run_17 : decode cX4_run 17 = .ok (.getfield 13, 3) := by decide +kernel
theorem dX4_run_20 : decode cX4_run 20 = .ok (.if_icmp .ge 32, 3) := by decide +kernel
theorem dX4_run_23 : decode cX4_run 23 = .ok (.lconst 0, 1) := by decide +kernel
theorem dX4_run_24 : decode cX4_run 24 = .ok (.lload_n 2, 1) := by decide +kernel
theorem dX4_run_25 : decode cX4_run 25 = .ok (.invokestatic 142, 3) := by decide +kernel
theorem dX4_run_28 : decode cX4_run 28 = .ok (.aload_n 0, 1) := by decide +kernel
theorem dX4_run_29 : decode cX4_run 29 = .ok (.iload_n 1, 1) := by decide +kernel
theorem dX4_run_30 : decode cX4_run 30 = .ok (.iload 6, 2) := by decide +kernel
theorem dX4_run_32 : decode cX4_run 32 = .ok (.invokevirtual 121, 3) := by decide +kernel
theorem dX4_run_35 : decode cX4_run 35 = .ok (.i2l, 1) := by decide +kernel
theorem dX4_run_36 : decode cX4_run 36 = .ok (.ladd, 1) := by decide +kernel
theorem dX4_run_37 : decode cX4_run 37 = .ok (.lstore_n 2, 1) := by decide +kernel
theorem dX4_run_38 : decode cX4_run 38 = .ok (.lload 4, 2) := by decide +kernel
theorem dX4_run_40 : decode cX4_run 40 = .ok (.lload_n 2, 1) := by decide +kernel
theorem dX4_run_41 : decode cX4_run 41 = .ok (.invokestatic 142, 3) := by decide +kernel
theorem dX4_run_44 : decode cX4_run 44 = .ok (.lstore 4, 2) := by decide +kernel
theorem dX4_run_46 : decode cX4_run 46 = .ok (.iinc 6 1, 3) := by decide +kernel
theorem dX4_run_49 : decode cX4_run 49 = .ok (.goto (-35), 3) := by decide +kernel
theorem dX4_run_52 : decode cX4_run 52 = .ok (.lload 4, 2) := by decide +kernel
theorem dX4_run_54 : decode cX4_run 54 = .ok (.lreturn, 1) := by decide +kernel
theorem dX4_bestRun_0 : decode cX4_bestRun 0 = .ok (.aload_n 0, 1) := by decide +kernel
theorem dX4_bestRun_1 : decode cX4_bestRun 1 = .ok (.aload_n 0, 1) := by decide +kernel
theorem dX4_bestRun_2 : decode cX4_bestRun 2 = .ok (.iload_n 1, 1) := by decide +kernel
theorem dX4_bestRun_3 : decode cX4_bestRun 3 = .ok (.invokevirtual 48, 3) := by decide +kernel
theorem dX4_bestRun_6 : decode cX4_bestRun 6 = .ok (.ifCond .eq 7, 3) := by decide +kernel
theorem dX4_bestRun_9 : decode cX4_bestRun 9 = .ok (.iconst 0, 1) := by decide +kernel
theorem dX4_bestRun_10 : decode cX4_bestRun 10 = .ok (.goto 4, 3) := by decide +kernel
theorem dX4_bestRun_13 : decode cX4_bestRun 13 = .ok (.iconst 1, 1) := by decide +kernel
theorem dX4_bestRun_14 : decode cX4_bestRun 14 = .ok (.putfield 38, 3) := by decide +kernel
theorem dX4_bestRun_17 : decode cX4_bestRun 17 = .ok (.aload_n 0, 1) := by decide +kernel
theorem dX4_bestRun_18 : decode cX4_bestRun 18 = .ok (.getfield 38, 3) := by decide +kernel
theorem dX4_bestRun_21 : decode cX4_bestRun 21 = .ok (.ifCond .le 7, 3) := by decide +kernel
theorem dX4_bestRun_24 : decode cX4_bestRun 24 = .ok (.lconst 0, 1) := by decide +kernel
theorem dX4_bestRun_25 : decode cX4_bestRun 25 = .ok (.goto 8, 3) := by decide +kernel
theorem dX4_bestRun_28 : decode cX4_bestRun 28 = .ok (.aload_n 0, 1) := by decide +kernel
theorem dX4_bestRun_29 : decode cX4_bestRun 29 = .ok (.iload_n 1, 1) := by decide +kernel
theorem dX4_bestRun_30 : decode cX4_bestRun 30 = .ok (.invokevirtual 145, 3) := by decide +kernel
theorem dX4_bestRun_33 : decode cX4_bestRun 33 = .ok (.lreturn, 1) := by decide +kernel
theorem dX4_dryPart_0 : decode cX4_dryPart 0 = .ok (.iconst 0, 1) := by decide +kernel
theorem dX4_dryPart_1 : decode cX4_dryPart 1 = .ok (.istore 5, 2) := by decide +kernel
theorem dX4_dryPart_3 : decode cX4_dryPart 3 = .ok (.iload_n 1, 1) := by decide +kernel
theorem dX4_dryPart_4 : decode cX4_dryPart 4 = .ok (.istore 6, 2) := by decide +kernel
theorem dX4_dryPart_6 : decode cX4_dryPart 6 = .ok (.iload 6, 2) := by decide +kernel
theorem dX4_dryPart_8 : decode cX4_dryPart 8 = .ok (.iload_n 3, 1) := by decide +kernel
theorem dX4_dryPart_9 : decode cX4_dryPart 9 = .ok (.if_icmp .gt 46, 3) := by decide +kernel
theorem dX4_dryPart_12 : decode cX4_dryPart 12 = .ok (.iload_n 2, 1) := by decide +kernel
theorem dX4_dryPart_13 : decode cX4_dryPart 13 = .ok (.istore 7, 2) := by decide +kernel
theorem dX4_dryPart_15 : decode cX4_dryPart 15 = .ok (.iload 7, 2) := by decide +kernel
theorem dX4_dryPart_17 : decode cX4_dryPart 17 = .ok (.iload 4, 2) := by decide +kernel
theorem dX4_dryPart_19 : decode cX4_dryPart 19 = .ok (.if_icmp .gt 30, 3) := by decide +kernel
theorem dX4_dryPart_22 : decode cX4_dryPart 22 = .ok (.iload 5, 2) := by decide +kernel
theorem dX4_dryPart_24 : decode cX4_dryPart 24 = .ok (.aload_n 0, 1) := by decide +kernel
theorem dX4_dryPart_25 : decode cX4_dryPart 25 = .ok (.iload 6, 2) := by decide +kernel
theorem dX4_dryPart_27 : decode cX4_dryPart 27 = .ok (.iload 7, 2) := by decide +kernel
theorem dX4_dryPart_29 : decode cX4_dryPart 29 = .ok (.invokevirtual 121, 3) := by decide +kernel
theorem dX4_dryPart_32 : decode cX4_dryPart 32 = .ok (.ifCond .gt 7, 3) := by decide +kernel
theorem dX4_dryPart_35 : decode cX4_dryPart 35 = .ok (.iconst 1, 1) := by decide +kernel
theorem dX4_dryPart_36 : decode cX4_dryPart 36 = .ok (.goto 4, 3) := by decide +kernel
theorem dX4_dryPart_39 : decode cX4_dryPart 39 = .ok (.iconst 0, 1) := by decide +kernel
theorem dX4_dryPart_40 : decode cX4_dryPart 40 = .ok (.iadd, 1) := by decide +kernel
theorem dX4_dryPart_41 : decode cX4_dryPart 41 = .ok (.istore 5, 2) := by decide +kernel
theorem dX4_dryPart_43 : decode cX4_dryPart 43 = .ok (.iinc 7 1, 3) := by decide +kernel
theorem dX4_dryPart_46 : decode cX4_dryPart 46 = .ok (.goto (-31), 3) := by decide +kernel
theorem dX4_dryPart_49 : decode cX4_dryPart 49 = .ok (.iinc 6 1, 3) := by decide +kernel
theorem dX4_dryPart_52 : decode cX4_dryPart 52 = .ok (.goto (-46), 3) := by decide +kernel
theorem dX4_dryPart_55 : decode cX4_dryPart 55 = .ok (.iload 5, 2) := by decide +kernel
theorem dX4_dryPart_57 : decode cX4_dryPart 57 = .ok (.ireturn, 1) := by decide +kernel
theorem dX4_dryIn_0 : decode cX4_dryIn 0 = .ok (.aload_n 0, 1) := by decide +kernel
theorem dX4_dryIn_1 : decode cX4_dryIn 1 = .ok (.aload_n 0, 1) := by decide +kernel
theorem dX4_dryIn_2 : decode cX4_dryIn 2 = .ok (.iload_n 1, 1) := by decide +kernel
theorem dX4_dryIn_3 : decode cX4_dryIn 3 = .ok (.iload_n 2, 1) := by decide +kernel
theorem dX4_dryIn_4 : decode cX4_dryIn 4 = .ok (.iload_n 3, 1) := by decide +kernel
theorem dX4_dryIn_5 : decode cX4_dryIn 5 = .ok (.iload 4, 2) := by decide +kernel
theorem dX4_dryIn_7 : decode cX4_dryIn 7 = .ok (.invokevirtual 91, 3) := by decide +kernel
theorem dX4_dryIn_10 : decode cX4_dryIn 10 = .ok (.putfield 38, 3) := by decide +kernel
theorem dX4_dryIn_13 : decode cX4_dryIn 13 = .ok (.aload_n 0, 1) := by decide +kernel
theorem dX4_dryIn_14 : decode cX4_dryIn 14 = .ok (.getfield 38, 3) := by decide +kernel
theorem dX4_dryIn_17 : decode cX4_dryIn 17 = .ok (.ifCond .le 7, 3) := by decide +kernel
theorem dX4_dryIn_20 : decode cX4_dryIn 20 = .ok (.iconst 0, 1) := by decide +kernel
theorem dX4_dryIn_21 : decode cX4_dryIn 21 = .ok (.goto 12, 3) := by decide +kernel
theorem dX4_dryIn_24 : decode cX4_dryIn 24 = .ok (.aload_n 0, 1) := by decide +kernel
theorem dX4_dryIn_25 : decode cX4_dryIn 25 = .ok (.iload_n 1, 1) := by decide +kernel
theorem dX4_dryIn_26 : decode cX4_dryIn 26 = .ok (.iload_n 2, 1) := by decide +kernel
theorem dX4_dryIn_27 : decode cX4_dryIn 27 = .ok (.iload_n 3, 1) := by decide +kernel
theorem dX4_dryIn_28 : decode cX4_dryIn 28 = .ok (.iload 4, 2) := by decide +kernel
theorem dX4_dryIn_30 : decode cX4_dryIn 30 = .ok (.invokevirtual 148, 3) := by decide +kernel
theorem dX4_dryIn_33 : decode cX4_dryIn 33 = .ok (.ireturn, 1) := by decide +kernel
theorem dX4_dryNow_0 : decode cX4_dryNow 0 = .ok (.aload_n 0, 1) := by decide +kernel
theorem dX4_dryNow_1 : decode cX4_dryNow 1 = .ok (.iconst 0, 1) := by decide +kernel
theorem dX4_dryNow_2 : decode cX4_dryNow 2 = .ok (.iconst 0, 1) := by decide +kernel
theorem dX4_dryNow_3 : decode cX4_dryNow 3 = .ok (.aload_n 0, 1) := by decide +kernel
theorem dX4_dryNow_4 : decode cX4_dryNow 4 = .ok (.getfield 9, 3) := by decide +kernel
theorem dX4_dryNow_7 : decode cX4_dryNow 7 = .ok (.iconst 1, 1) := by decide +kernel
theorem dX4_dryNow_8 : decode cX4_dryNow 8 = .ok (.isub, 1) := by decide +kernel
theorem dX4_dryNow_9 : decode cX4_dryNow 9 = .ok (.aload_n 0, 1) := by decide +kernel
theorem dX4_dryNow_10 : decode cX4_dryNow 10 = .ok (.getfield 13, 3) := by decide +kernel
theorem dX4_dryNow_13 : decode cX4_dryNow 13 = .ok (.iconst 1, 1) := by decide +kernel
theorem dX4_dryNow_14 : decode cX4_dryNow 14 = .ok (.isub, 1) := by decide +kernel
theorem dX4_dryNow_15 : decode cX4_dryNow 15 = .ok (.invokevirtual 148, 3) := by decide +kernel
theorem dX4_dryNow_18 : decode cX4_dryNow 18 = .ok (.ireturn, 1) := by decide +kernel
theorem dX4_dry_0 : decode cX4_dry 0 = .ok (.aload_n 0, 1) := by decide +kernel
theorem dX4_dry_1 : decode cX4_dry 1 = .ok (.aload_n 0, 1) := by decide +kernel
theorem dX4_dry_2 : decode cX4_dry 2 = .ok (.invokevirtual 151, 3) := by decide +kernel
theorem dX4_dry_5 : decode cX4_dry 5 = .ok (.invokevirtual 114, 3) := by decide +kernel
theorem dX4_dry_8 : decode cX4_dry 8 = .ok (.ireturn, 1) := by decide +kernel
theorem dX4_dryAt_0 : decode cX4_dryAt 0 = .ok (.aload_n 0, 1) := by decide +kernel
theorem dX4_dryAt_1 : decode cX4_dryAt 1 = .ok (.iconst 0, 1) := by decide +kernel
theorem dX4_dryAt_2 : decode cX4_dryAt 2 = .ok (.putfield 38, 3) := by decide +kernel
theorem dX4_dryAt_5 : decode cX4_dryAt 5 = .ok (.iload_n 1, 1) := by decide +kernel
theorem dX4_dryAt_6 : decode cX4_dryAt 6 = .ok (.iconst 0, 1) := by decide +kernel
theorem dX4_dryAt_7 : decode cX4_dryAt 7 = .ok (.aload_n 0, 1) := by decide +kernel
theorem dX4_dryAt_8 : decode cX4_dryAt 8 = .ok (.invokevirtual 151, 3) := by decide +kernel
theorem dX4_dryAt_11 : decode cX4_dryAt 11 = .ok (.iconst 1, 1) := by decide +kernel
theorem dX4_dryAt_12 : decode cX4_dryAt 12 = .ok (.isub, 1) := by decide +kernel
theorem dX4_dryAt_13 : decode cX4_dryAt 13 = .ok (.invokestatic 41, 3) := by decide +kernel
theorem dX4_dryAt_16 : decode cX4_dryAt 16 = .ok (.ifCond .ne 9, 3) := by decide +kernel
theorem dX4_dryAt_19 : decode cX4_dryAt 19 = .ok (.aload_n 0, 1) := by decide +kernel
theorem dX4_dryAt_20 : decode cX4_dryAt 20 = .ok (.iconst 1, 1) := by decide +kernel
theorem dX4_dryAt_21 : decode cX4_dryAt 21 = .ok (.invokevirtual 84, 3) := by decide +kernel
theorem dX4_dryAt_24 : decode cX4_dryAt 24 = .ok (.ireturn, 1) := by decide +kernel
theorem dX4_dryAt_25 : decode cX4_dryAt 25 = .ok (.iload_n 1, 1) := by decide +kernel
theorem dX4_dryAt_26 : decode cX4_dryAt 26 = .ok (.istore_n 2, 1) := by decide +kernel
theorem dX4_dryAt_27 : decode cX4_dryAt 27 = .ok (.iconst 0, 1) := by decide +kernel
theorem dX4_dryAt_28 : decode cX4_dryAt 28 = .ok (.istore_n 3, 1) := by decide +kernel
theorem dX4_dryAt_29 : decode cX4_dryAt 29 = .ok (.aload_n 0, 1) := by decide +kernel
theorem dX4_dryAt_30 : decode cX4_dryAt 30 = .ok (.getfield 23, 3) := by decide +kernel
theorem dX4_dryAt_33 : decode cX4_dryAt 33 = .ok (.iload_n 3, 1) := by decide +kernel
theorem dX4_dryAt_34 : decode cX4_dryAt 34 = .ok (.iaload, 1) := by decide +kernel
theorem dX4_dryAt_35 : decode cX4_dryAt 35 = .ok (.ifCond .gt 7, 3) := by decide +kernel
theorem dX4_dryAt_38 : decode cX4_dryAt 38 = .ok (.iload_n 2, 1) := by decide +kernel
theorem dX4_dryAt_39 : decode cX4_dryAt 39 = .ok (.ifCond .le 26, 3) := by decide +kernel
theorem dX4_dryAt_42 : decode cX4_dryAt 42 = .ok (.iload_n 2, 1) := by decide +kernel
theorem dX4_dryAt_43 : decode cX4_dryAt 43 = .ok (.aload_n 0, 1) := by decide +kernel
theorem dX4_dryAt_44 : decode cX4_dryAt 44 = .ok (.getfield 23, 3) := by decide +kernel
theorem dX4_dryAt_47 : decode cX4_dryAt 47 = .ok (.iload_n 3, 1) := by decide +kernel
theorem dX4_dryAt_48 : decode cX4_dryAt 48 = .ok (.iaload, 1) := by decide +kernel
theorem dX4_dryAt_49 : decode cX4_dryAt 49 = .ok (.ifCond .le 7, 3) := by decide +kernel
theorem dX4_dryAt_52 : decode cX4_dryAt 52 = .ok (.iconst 0, 1) := by decide +kernel
theorem dX4_dryAt_53 : decode cX4_dryAt 53 = .ok (.goto 4, 3) := by decide +kernel
theorem dX4_dryAt_56 : decode cX4_dryAt 56 = .ok (.iconst 1, 1) := by decide +kernel
theorem dX4_dryAt_57 : decode cX4_dryAt 57 = .ok (.isub, 1) := by decide +kernel
theorem dX4_dryAt_58 : decode cX4_dryAt 58 = .ok (.istore_n 2, 1) := by decide +kernel
theorem dX4_dryAt_59 : decode cX4_dryAt 59 = .ok (.iinc 3 1, 3) := by decide +kernel
theorem dX4_dryAt_62 : decode cX4_dryAt 62 = .ok (.goto (-33), 3) := by decide +kernel
theorem dX4_dryAt_65 : decode cX4_dryAt 65 = .ok (.iload_n 3, 1) := by decide +kernel
theorem dX4_dryAt_66 : decode cX4_dryAt 66 = .ok (.ireturn, 1) := by decide +kernel
theorem dX4_longest_0 : decode cX4_longest 0 = .ok (.iconst 0, 1) := by decide +kernel
theorem dX4_longest_1 : decode cX4_longest 1 = .ok (.istore_n 2, 1) := by decide +kernel
theorem dX4_longest_2 : decode cX4_longest 2 = .ok (.iconst 0, 1) := by decide +kernel
theorem dX4_longest_3 : decode cX4_longest 3 = .ok (.istore_n 3, 1) := by decide +kernel
theorem dX4_longest_4 : decode cX4_longest 4 = .ok (.iconst 0, 1) := by decide +kernel
theorem dX4_longest_5 : decode cX4_longest 5 = .ok (.istore 4, 2) := by decide +kernel
theorem dX4_longest_7 : decode cX4_longest 7 = .ok (.iload 4, 2) := by decide +kernel
theorem dX4_longest_9 : decode cX4_longest 9 = .ok (.aload_n 0, 1) := by decide +kernel
theorem dX4_longest_10 : decode cX4_longest 10 = .ok (.getfield 13, 3) := by decide +kernel
theorem dX4_longest_13 : decode cX4_longest 13 = .ok (.if_icmp .ge 33, 3) := by decide +kernel
theorem dX4_longest_16 : decode cX4_longest 16 = .ok (.aload_n 0, 1) := by decide +kernel
theorem dX4_longest_17 : decode cX4_longest 17 = .ok (.iload_n 1, 1) := by decide +kernel
theorem dX4_longest_18 : decode cX4_longest 18 = .ok (.iload 4, 2) := by decide +kernel
theorem dX4_longest_20 : decode cX4_longest 20 = .ok (.invokevirtual 121, 3) := by decide +kernel
theorem dX4_longest_23 : decode cX4_longest 23 = .ok (.ifCond .le 7, 3) := by decide +kernel
theorem dX4_longest_26 : decode cX4_longest 26 = .ok (.iconst 0, 1) := by decide +kernel
theorem dX4_longest_27 : decode cX4_longest 27 = .ok (.goto 6, 3) := by decide +kernel
theorem dX4_longest_30 : decode cX4_longest 30 = .ok (.iload_n 3, 1) := by decide +kernel
theorem dX4_longest_31 : decode cX4_longest 31 = .ok (.iconst 1, 1) := by decide +kernel
theorem dX4_longest_32 : decode cX4_longest 32 = .ok (.iadd, 1) := by decide +kernel
theorem dX4_longest_33 : decode cX4_longest 33 = .ok (.istore_n 3, 1) := by decide +kernel
theorem dX4_longest_34 : decode cX4_longest 34 = .ok (.iload_n 2, 1) := by decide +kernel
theorem dX4_longest_35 : decode cX4_longest 35 = .ok (.iload_n 3, 1) := by decide +kernel
theorem dX4_longest_36 : decode cX4_longest 36 = .ok (.invokestatic 71, 3) := by decide +kernel
theorem dX4_longest_39 : decode cX4_longest 39 = .ok (.istore_n 2, 1) := by decide +kernel
theorem dX4_longest_40 : decode cX4_longest 40 = .ok (.iinc 4 1, 3) := by decide +kernel
theorem dX4_longest_43 : decode cX4_longest 43 = .ok (.goto (-36), 3) := by decide +kernel
theorem dX4_longest_46 : decode cX4_longest 46 = .ok (.iload_n 2, 1) := by decide +kernel
theorem dX4_longest_47 : decode cX4_longest 47 = .ok (.ireturn, 1) := by decide +kernel
theorem dX4_longestDry_0 : decode cX4_longestDry 0 = .ok (.aload_n 0, 1) := by decide +kernel
theorem dX4_longestDry_1 : decode cX4_longestDry 1 = .ok (.iconst 0, 1) := by decide +kernel
theorem dX4_longestDry_2 : decode cX4_longestDry 2 = .ok (.putfield 38, 3) := by decide +kernel
theorem dX4_longestDry_5 : decode cX4_longestDry 5 = .ok (.aload_n 0, 1) := by decide +kernel
theorem dX4_longestDry_6 : decode cX4_longestDry 6 = .ok (.iload_n 1, 1) := by decide +kernel
theorem dX4_longestDry_7 : decode cX4_longestDry 7 = .ok (.invokevirtual 48, 3) := by decide +kernel
theorem dX4_longestDry_10 : decode cX4_longestDry 10 = .ok (.ifCond .eq 11, 3) := by decide +kernel
theorem dX4_longestDry_13 : decode cX4_longestDry 13 = .ok (.aload_n 0, 1) := by decide +kernel
theorem dX4_longestDry_14 : decode cX4_longestDry 14 = .ok (.iload_n 1, 1) := by decide +kernel
theorem dX4_longestDry_15 : decode cX4_longestDry 15 = .ok (.invokevirtual 154, 3) := by decide +kernel
theorem dX4_longestDry_18 : decode cX4_longestDry 18 = .ok (.goto 8, 3) := by decide +kernel
theorem dX4_longestDry_21 : decode cX4_longestDry 21 = .ok (.aload_n 0, 1) := by decide +kernel
theorem dX4_longestDry_22 : decode cX4_longestDry 22 = .ok (.iconst 1, 1) := by decide +kernel
theorem dX4_longestDry_23 : decode cX4_longestDry 23 = .ok (.invokevirtual 84, 3) := by decide +kernel
theorem dX4_longestDry_26 : decode cX4_longestDry 26 = .ok (.ireturn, 1) := by decide +kernel
theorem dX4_driest_0 : decode cX4_driest 0 = .ok (.iconst 0, 1) := by decide +kernel
theorem dX4_driest_1 : decode cX4_driest 1 = .ok (.istore_n 1, 1) := by decide +kernel
theorem dX4_driest_2 : decode cX4_driest 2 = .ok (.iconst 1, 1) := by decide +kernel
theorem dX4_driest_3 : decode cX4_driest 3 = .ok (.istore_n 2, 1) := by decide +kernel
theorem dX4_driest_4 : decode cX4_driest 4 = .ok (.iload_n 2, 1) := by decide +kernel
theorem dX4_driest_5 : decode cX4_driest 5 = .ok (.aload_n 0, 1) := by decide +kernel
theorem dX4_driest_6 : decode cX4_driest 6 = .ok (.getfield 9, 3) := by decide +kernel
theorem dX4_driest_9 : decode cX4_driest 9 = .ok (.if_icmp .ge 40, 3) := by decide +kernel
theorem dX4_driest_12 : decode cX4_driest 12 = .ok (.aload_n 0, 1) := by decide +kernel
theorem dX4_driest_13 : decode cX4_driest 13 = .ok (.iload_n 2, 1) := by decide +kernel
theorem dX4_driest_14 : decode cX4_driest 14 = .ok (.iconst 0, 1) := by decide +kernel
theorem dX4_driest_15 : decode cX4_driest 15 = .ok (.iload_n 2, 1) := by decide +kernel
theorem dX4_driest_16 : decode cX4_driest 16 = .ok (.aload_n 0, 1) := by decide +kernel
theorem dX4_driest_17 : decode cX4_driest 17 = .ok (.getfield 13, 3) := by decide +kernel
theorem dX4_driest_20 : decode cX4_driest 20 = .ok (.iconst 1, 1) := by decide +kernel
theorem dX4_driest_21 : decode cX4_driest 21 = .ok (.isub, 1) := by decide +kernel
theorem dX4_driest_22 : decode cX4_driest 22 = .ok (.invokevirtual 148, 3) := by decide +kernel
theorem dX4_driest_25 : decode cX4_driest 25 = .ok (.aload_n 0, 1) := by decide +kernel
theorem dX4_driest_26 : decode cX4_driest 26 = .ok (.iload_n 1, 1) := by decide +kernel
theorem dX4_driest_27 : decode cX4_driest 27 = .ok (.iconst 0, 1) := by decide +kernel
theorem dX4_driest_28 : decode cX4_driest 28 = .ok (.iload_n 1, 1) := by decide +kernel
theorem dX4_driest_29 : decode cX4_driest 29 = .ok (.aload_n 0, 1) := by decide +kernel
theorem dX4_driest_30 : decode cX4_driest 30 = .ok (.getfield 13, 3) := by decide +kernel
theorem dX4_driest_33 : decode cX4_driest 33 = .ok (.iconst 1, 1) := by decide +kernel
theorem dX4_driest_34 : decode cX4_driest 34 = .ok (.isub, 1) := by decide +kernel
theorem dX4_driest_35 : decode cX4_driest 35 = .ok (.invokevirtual 148, 3) := by decide +kernel
theorem dX4_driest_38 : decode cX4_driest 38 = .ok (.if_icmp .le 5, 3) := by decide +kernel
theorem dX4_driest_41 : decode cX4_driest 41 = .ok (.iload_n 2, 1) := by decide +kernel
theorem dX4_driest_42 : decode cX4_driest 42 = .ok (.istore_n 1, 1) := by decide +kernel
theorem dX4_driest_43 : decode cX4_driest 43 = .ok (.iinc 2 1, 3) := by decide +kernel
theorem dX4_driest_46 : decode cX4_driest 46 = .ok (.goto (-42), 3) := by decide +kernel
theorem dX4_driest_49 : decode cX4_driest 49 = .ok (.iload_n 1, 1) := by decide +kernel
theorem dX4_driest_50 : decode cX4_driest 50 = .ok (.ireturn, 1) := by decide +kernel
theorem dX4_driestFlight_0 : decode cX4_driestFlight 0 = .ok (.aload_n 0, 1) := by decide +kernel
theorem dX4_driestFlight_1 : decode cX4_driestFlight 1 = .ok (.aload_n 0, 1) := by decide +kernel
theorem dX4_driestFlight_2 : decode cX4_driestFlight 2 = .ok (.invokevirtual 157, 3) := by decide +kernel
theorem dX4_driestFlight_5 : decode cX4_driestFlight 5 = .ok (.invokevirtual 114, 3) := by decide +kernel
theorem dX4_driestFlight_8 : decode cX4_driestFlight 8 = .ok (.ireturn, 1) := by decide +kernel
theorem dX4_lowestIn_0 : decode cX4_lowestIn 0 = .ok (.aload_n 0, 1) := by decide +kernel
theorem dX4_lowestIn_1 : decode cX4_lowestIn 1 = .ok (.aload_n 0, 1) := by decide +kernel
theorem dX4_lowestIn_2 : decode cX4_lowestIn 2 = .ok (.iload_n 1, 1) := by decide +kernel
theorem dX4_lowestIn_3 : decode cX4_lowestIn 3 = .ok (.iload_n 2, 1) := by decide +kernel
theorem dX4_lowestIn_4 : decode cX4_lowestIn 4 = .ok (.iload_n 3, 1) := by decide +kernel
theorem dX4_lowestIn_5 : decode cX4_lowestIn 5 = .ok (.iload 4, 2) := by decide +kernel
theorem dX4_lowestIn_7 : decode cX4_lowestIn 7 = .ok (.invokevirtual 91, 3) := by decide +kernel
theorem dX4_lowestIn_10 : decode cX4_lowestIn 10 = .ok (.putfield 38, 3) := by decide +kernel
theorem dX4_lowestIn_13 : decode cX4_lowestIn 13 = .ok (.aload_n 0, 1) := by decide +kernel
theorem dX4_lowestIn_14 : decode cX4_lowestIn 14 = .ok (.getfield 38, 3) := by decide +kernel
theorem dX4_lowestIn_17 : decode cX4_lowestIn 17 = .ok (.ifCond .le 5, 3) := by decide +kernel
theorem dX4_lowestIn_20 : decode cX4_lowestIn 20 = .ok (.iconst 0, 1) := by decide +kernel
theorem dX4_lowestIn_21 : decode cX4_lowestIn 21 = .ok (.ireturn, 1) := by decide +kernel
theorem dX4_lowestIn_22 : decode cX4_lowestIn 22 = .ok (.aload_n 0, 1) := by decide +kernel
theorem dX4_lowestIn_23 : decode cX4_lowestIn 23 = .ok (.iload_n 1, 1) := by decide +kernel
theorem dX4_lowestIn_24 : decode cX4_lowestIn 24 = .ok (.iload_n 2, 1) := by decide +kernel
theorem dX4_lowestIn_25 : decode cX4_lowestIn 25 = .ok (.invokevirtual 121, 3) := by decide +kernel
theorem dX4_lowestIn_28 : decode cX4_lowestIn 28 = .ok (.istore 5, 2) := by decide +kernel
theorem dX4_lowestIn_30 : decode cX4_lowestIn 30 = .ok (.iload_n 1, 1) := by decide +kernel
theorem dX4_lowestIn_31 : decode cX4_lowestIn 31 = .ok (.istore 6, 2) := by decide +kernel
theorem dX4_lowestIn_33 : decode cX4_lowestIn 33 = .ok (.iload 6, 2) := by decide +kernel
theorem dX4_lowestIn_35 : decode cX4_lowestIn 35 = .ok (.iload_n 3, 1) := by decide +kernel
theorem dX4_lowestIn_36 : decode cX4_lowestIn 36 = .ok (.if_icmp .gt 40, 3) := by decide +kernel
theorem dX4_lowestIn_39 : decode cX4_lowestIn 39 = .ok (.iload_n 2, 1) := by decide +kernel
theorem dX4_lowestIn_40 : decode cX4_lowestIn 40 = .ok (.istore 7, 2) := by decide +kernel
theorem dX4_lowestIn_42 : decode cX4_lowestIn 42 = .ok (.iload 7, 2) := by decide +kernel
theorem dX4_lowestIn_44 : decode cX4_lowestIn 44 = .ok (.iload 4, 2) := by decide +kernel
theorem dX4_lowestIn_46 : decode cX4_lowestIn 46 = .ok (.if_icmp .gt 24, 3) := by decide +kernel
theorem dX4_lowestIn_49 : decode cX4_lowestIn 49 = .ok (.iload 5, 2) := by decide +kernel
theorem dX4_lowestIn_51 : decode cX4_lowestIn 51 = .ok (.aload_n 0, 1) := by decide +kernel
theorem dX4_lowestIn_52 : decode cX4_lowestIn 52 = .ok (.iload 6, 2) := by decide +kernel
theorem dX4_lowestIn_54 : decode cX4_lowestIn 54 = .ok (.iload 7, 2) := by decide +kernel
theorem dX4_lowestIn_56 : decode cX4_lowestIn 56 = .ok (.invokevirtual 121, 3) := by decide +kernel
theorem dX4_lowestIn_59 : decode cX4_lowestIn 59 = .ok (.invokestatic 98, 3) := by decide +kernel
theorem dX4_lowestIn_62 : decode cX4_lowestIn 62 = .ok (.istore 5, 2) := by decide +kernel
theorem dX4_lowestIn_64 : decode cX4_lowestIn 64 = .ok (.iinc 7 1, 3) := by decide +kernel
theorem dX4_lowestIn_67 : decode cX4_lowestIn 67 = .ok (.goto (-25), 3) := by decide +kernel
theorem dX4_lowestIn_70 : decode cX4_lowestIn 70 = .ok (.iinc 6 1, 3) := by decide +kernel
theorem dX4_lowestIn_73 : decode cX4_lowestIn 73 = .ok (.goto (-40), 3) := by decide +kernel
theorem dX4_lowestIn_76 : decode cX4_lowestIn 76 = .ok (.iload 5, 2) := by decide +kernel
theorem dX4_lowestIn_78 : decode cX4_lowestIn 78 = .ok (.ireturn, 1) := by decide +kernel
theorem dX4_highest_0 : decode cX4_highest 0 = .ok (.iconst 0, 1) := by decide +kernel
theorem dX4_highest_1 : decode cX4_highest 1 = .ok (.istore_n 2, 1) := by decide +kernel
theorem dX4_highest_2 : decode cX4_highest 2 = .ok (.iconst 1, 1) := by decide +kernel
theorem dX4_highest_3 : decode cX4_highest 3 = .ok (.istore_n 3, 1) := by decide +kernel
theorem dX4_highest_4 : decode cX4_highest 4 = .ok (.iload_n 3, 1) := by decide +kernel
theorem dX4_highest_5 : decode cX4_highest 5 = .ok (.aload_n 0, 1) := by decide +kernel
theorem dX4_highest_6 : decode cX4_highest 6 = .ok (.getfield 13, 3) := by decide +kernel
theorem dX4_highest_9 : decode cX4_highest 9 = .ok (.if_icmp .ge 26, 3) := by decide +kernel
theorem dX4_highest_12 : decode cX4_highest 12 = .ok (.aload_n 0, 1) := by decide +kernel
theorem dX4_highest_13 : decode cX4_highest 13 = .ok (.iload_n 1, 1) := by decide +kernel
theorem dX4_highest_14 : decode cX4_highest 14 = .ok (.iload_n 3, 1) := by decide +kernel
theorem dX4_highest_15 : decode cX4_highest 15 = .ok (.invokevirtual 121, 3) := by decide +kernel
theorem dX4_highest_18 : decode cX4_highest 18 = .ok (.aload_n 0, 1) := by decide +kernel
theorem dX4_highest_19 : decode cX4_highest 19 = .ok (.iload_n 1, 1) := by decide +kernel
theorem dX4_highest_20 : decode cX4_highest 20 = .ok (.iload_n 2, 1) := by decide +kernel
theorem dX4_highest_21 : decode cX4_highest 21 = .ok (.invokevirtual 121, 3) := by decide +kernel
theorem dX4_highest_24 : decode cX4_highest 24 = .ok (.if_icmp .le 5, 3) := by decide +kernel
theorem dX4_highest_27 : decode cX4_highest 27 = .ok (.iload_n 3, 1) := by decide +kernel
theorem dX4_highest_28 : decode cX4_highest 28 = .ok (.istore_n 2, 1) := by decide +kernel
theorem dX4_highest_29 : decode cX4_highest 29 = .ok (.iinc 3 1, 3) := by decide +kernel
theorem dX4_highest_32 : decode cX4_highest 32 = .ok (.goto (-28), 3) := by decide +kernel
theorem dX4_highest_35 : decode cX4_highest 35 = .ok (.iload_n 2, 1) := by decide +kernel
theorem dX4_highest_36 : decode cX4_highest 36 = .ok (.ireturn, 1) := by decide +kernel
theorem dX4_highestAt_0 : decode cX4_highestAt 0 = .ok (.aload_n 0, 1) := by decide +kernel
theorem dX4_highestAt_1 : decode cX4_highestAt 1 = .ok (.iconst 0, 1) := by decide +kernel
theorem dX4_highestAt_2 : decode cX4_highestAt 2 = .ok (.putfield 38, 3) := by decide +kernel
theorem dX4_highestAt_5 : decode cX4_highestAt 5 = .ok (.aload_n 0, 1) := by decide +kernel
theorem dX4_highestAt_6 : decode cX4_highestAt 6 = .ok (.iload_n 1, 1) := by decide +kernel
theorem dX4_highestAt_7 : decode cX4_highestAt 7 = .ok (.invokevirtual 48, 3) := by decide +kernel
theorem dX4_highestAt_10 : decode cX4_highestAt 10 = .ok (.ifCond .eq 11, 3) := by decide +kernel
theorem dX4_highestAt_13 : decode cX4_highestAt 13 = .ok (.aload_n 0, 1) := by decide +kernel
theorem dX4_highestAt_14 : decode cX4_highestAt 14 = .ok (.iload_n 1, 1) := by decide +kernel
theorem dX4_highestAt_15 : decode cX4_highestAt 15 = .ok (.invokevirtual 160, 3) := by decide +kernel
theorem dX4_highestAt_18 : decode cX4_highestAt 18 = .ok (.goto 8, 3) := by decide +kernel
theorem dX4_highestAt_21 : decode cX4_highestAt 21 = .ok (.aload_n 0, 1) := by decide +kernel
theorem dX4_highestAt_22 : decode cX4_highestAt 22 = .ok (.iconst 1, 1) := by decide +kernel
theorem dX4_highestAt_23 : decode cX4_highestAt 23 = .ok (.invokevirtual 84, 3) := by decide +kernel
theorem dX4_highestAt_26 : decode cX4_highestAt 26 = .ok (.ireturn, 1) := by decide +kernel
theorem dX4_below_0 : decode cX4_below 0 = .ok (.iconst 0, 1) := by decide +kernel
theorem dX4_below_1 : decode cX4_below 1 = .ok (.istore_n 2, 1) := by decide +kernel
theorem dX4_below_2 : decode cX4_below 2 = .ok (.iconst 0, 1) := by decide +kernel
theorem dX4_below_3 : decode cX4_below 3 = .ok (.istore_n 3, 1) := by decide +kernel
theorem dX4_below_4 : decode cX4_below 4 = .ok (.iload_n 3, 1) := by decide +kernel
theorem dX4_below_5 : decode cX4_below 5 = .ok (.aload_n 0, 1) := by decide +kernel
theorem dX4_below_6 : decode cX4_below 6 = .ok (.invokevirtual 67, 3) := by decide +kernel
theorem dX4_below_9 : decode cX4_below 9 = .ok (.if_icmp .ge 27, 3) := by decide +kernel
theorem dX4_below_12 : decode cX4_below 12 = .ok (.iload_n 2, 1) := by decide +kernel
theorem dX4_below_13 : decode cX4_below 13 = .ok (.aload_n 0, 1) := by decide +kernel
theorem dX4_below_14 : decode cX4_below 14 = .ok (.getfield 23, 3) := by decide +kernel
theorem dX4_below_17 : decode cX4_below 17 = .ok (.iload_n 3, 1) := by decide +kernel
theorem dX4_below_18 : decode cX4_below 18 = .ok (.iaload, 1) := by decide +kernel
theorem dX4_below_19 : decode cX4_below 19 = .ok (.iload_n 1, 1) := by decide +kernel
theorem dX4_below_20 : decode cX4_below 20 = .ok (.if_icmp .gt 7, 3) := by decide +kernel
theorem dX4_below_23 : decode cX4_below 23 = .ok (.iconst 1, 1) := by decide +kernel
theorem dX4_below_24 : decode cX4_below 24 = .ok (.goto 4, 3) := by decide +kernel
theorem dX4_below_27 : decode cX4_below 27 = .ok (.iconst 0, 1) := by decide +kernel
theorem dX4_below_28 : decode cX4_below 28 = .ok (.iadd, 1) := by decide +kernel
theorem dX4_below_29 : decode cX4_below 29 = .ok (.istore_n 2, 1) := by decide +kernel
theorem dX4_below_30 : decode cX4_below 30 = .ok (.iinc 3 1, 3) := by decide +kernel
theorem dX4_below_33 : decode cX4_below 33 = .ok (.goto (-29), 3) := by decide +kernel
theorem dX4_below_36 : decode cX4_below 36 = .ok (.iload_n 2, 1) := by decide +kernel
theorem dX4_below_37 : decode cX4_below 37 = .ok (.ireturn, 1) := by decide +kernel
theorem dX4_upTo_0 : decode cX4_upTo 0 = .ok (.aload_n 0, 1) := by decide +kernel
theorem dX4_upTo_1 : decode cX4_upTo 1 = .ok (.aload_n 0, 1) := by decide +kernel
theorem dX4_upTo_2 : decode cX4_upTo 2 = .ok (.iload_n 1, 1) := by decide +kernel
theorem dX4_upTo_3 : decode cX4_upTo 3 = .ok (.invokevirtual 163, 3) := by decide +kernel
theorem dX4_upTo_6 : decode cX4_upTo 6 = .ok (.invokevirtual 114, 3) := by decide +kernel
theorem dX4_upTo_9 : decode cX4_upTo 9 = .ok (.ireturn, 1) := by decide +kernel
theorem dX4_levelInOrder_0 : decode cX4_levelInOrder 0 = .ok (.aload_n 0, 1) := by decide +kernel
theorem dX4_levelInOrder_1 : decode cX4_levelInOrder 1 = .ok (.iconst 0, 1) := by decide +kernel
theorem dX4_levelInOrder_2 : decode cX4_levelInOrder 2 = .ok (.putfield 38, 3) := by decide +kernel
theorem dX4_levelInOrder_5 : decode cX4_levelInOrder 5 = .ok (.iload_n 1, 1) := by decide +kernel
theorem dX4_levelInOrder_6 : decode cX4_levelInOrder 6 = .ok (.iconst 0, 1) := by decide +kernel
theorem dX4_levelInOrder_7 : decode cX4_levelInOrder 7 = .ok (.aload_n 0, 1) := by decide +kernel
theorem dX4_levelInOrder_8 : decode cX4_levelInOrder 8 = .ok (.invokevirtual 67, 3) := by decide +kernel
theorem dX4_levelInOrder_11 : decode cX4_levelInOrder 11 = .ok (.iconst 1, 1) := by decide +kernel
theorem dX4_levelInOrder_12 : decode cX4_levelInOrder 12 = .ok (.isub, 1) := by decide +kernel
theorem dX4_levelInOrder_13 : decode cX4_levelInOrder 13 = .ok (.invokestatic 41, 3) := by decide +kernel
theorem dX4_levelInOrder_16 : decode cX4_levelInOrder 16 = .ok (.ifCond .ne 9, 3) := by decide +kernel
theorem dX4_levelInOrder_19 : decode cX4_levelInOrder 19 = .ok (.aload_n 0, 1) := by decide +kernel
theorem dX4_levelInOrder_20 : decode cX4_levelInOrder 20 = .ok (.iconst 1, 1) := by decide +kernel
theorem dX4_levelInOrder_21 : decode cX4_levelInOrder 21 = .ok (.invokevirtual 84, 3) := by decide +kernel
theorem dX4_levelInOrder_24 : decode cX4_levelInOrder 24 = .ok (.ireturn, 1) := by decide +kernel
theorem dX4_levelInOrder_25 : decode cX4_levelInOrder 25 = .ok (.iconst 0, 1) := by decide +kernel
theorem dX4_levelInOrder_26 : decode cX4_levelInOrder 26 = .ok (.istore_n 2, 1) := by decide +kernel
theorem dX4_levelInOrder_27 : decode cX4_levelInOrder 27 = .ok (.iconst 0, 1) := by decide +kernel
theorem dX4_levelInOrder_28 : decode cX4_levelInOrder 28 = .ok (.istore_n 3, 1) := by decide +kernel
theorem dX4_levelInOrder_29 : decode cX4_levelInOrder 29 = .ok (.iconst 0, 1) := by decide +kernel
theorem dX4_levelInOrder_30 : decode cX4_levelInOrder 30 = .ok (.istore 4, 2) := by decide +kernel
theorem dX4_levelInOrder_32 : decode cX4_levelInOrder 32 = .ok (.iload 4, 2) := by decide +kernel
theorem dX4_levelInOrder_34 : decode cX4_levelInOrder 34 = .ok (.aload_n 0, 1) := by decide +kernel
theorem dX4_levelInOrder_35 : decode cX4_levelInOrder 35 = .ok (.invokevirtual 67, 3) := by decide +kernel
theorem dX4_levelInOrder_38 : decode cX4_levelInOrder 38 = .ok (.if_icmp .ge 52, 3) := by decide +kernel
theorem dX4_levelInOrder_41 : decode cX4_levelInOrder 41 = .ok (.aload_n 0, 1) := by decide +kernel
theorem dX4_levelInOrder_42 : decode cX4_levelInOrder 42 = .ok (.aload_n 0, 1) := by decide +kernel
theorem dX4_levelInOrder_43 : decode cX4_levelInOrder 43 = .ok (.getfield 23, 3) := by decide +kernel
theorem dX4_levelInOrder_46 : decode cX4_levelInOrder 46 = .ok (.iload 4, 2) := by decide +kernel
theorem dX4_levelInOrder_48 : decode cX4_levelInOrder 48 = .ok (.iaload, 1) := by decide +kernel
theorem dX4_levelInOrder_49 : decode cX4_levelInOrder 49 = .ok (.invokevirtual 163, 3) := by decide +kernel
theorem dX4_levelInOrder_52 : decode cX4_levelInOrder 52 = .ok (.iload_n 1, 1) := by decide +kernel
theorem dX4_levelInOrder_53 : decode cX4_levelInOrder 53 = .ok (.if_icmp .le 31, 3) := by decide +kernel
theorem dX4_levelInOrder_56 : decode cX4_levelInOrder 56 = .ok (.iload_n 3, 1) := by decide +kernel
theorem dX4_levelInOrder_57 : decode cX4_levelInOrder 57 = .ok (.ifCond .eq 17, 3) := by decide +kernel
theorem dX4_levelInOrder_60 : decode cX4_levelInOrder 60 = .ok (.aload_n 0, 1) := by decide +kernel
theorem dX4_levelInOrder_61 : decode cX4_levelInOrder 61 = .ok (.getfield 23, 3) := by decide +kernel
theorem dX4_levelInOrder_64 : decode cX4_levelInOrder 64 = .ok (.iload 4, 2) := by decide +kernel
theorem dX4_levelInOrder_66 : decode cX4_levelInOrder 66 = .ok (.iaload, 1) := by decide +kernel
theorem dX4_levelInOrder_67 : decode cX4_levelInOrder 67 = .ok (.iload_n 2, 1) := by decide +kernel
theorem dX4_levelInOrder_68 : decode cX4_levelInOrder 68 = .ok (.if_icmp .lt 6, 3) := by decide +kernel
theorem dX4_levelInOrder_71 : decode cX4_levelInOrder 71 = .ok (.goto 13, 3) := by decide +kernel
theorem dX4_levelInOrder_74 : decode cX4_levelInOrder 74 = .ok (.aload_n 0, 1) := by decide +kernel
theorem dX4_levelInOrder_75 : decode cX4_levelInOrder 75 = .ok (.getfield 23, 3) := by decide +kernel
theorem dX4_levelInOrder_78 : decode cX4_levelInOrder 78 = .ok (.iload 4, 2) := by decide +kernel
theorem dX4_levelInOrder_80 : decode cX4_levelInOrder 80 = .ok (.iaload, 1) := by decide +kernel
theorem dX4_levelInOrder_81 : decode cX4_levelInOrder 81 = .ok (.istore_n 2, 1) := by decide +kernel
theorem dX4_levelInOrder_82 : decode cX4_levelInOrder 82 = .ok (.iconst 1, 1) := by decide +kernel
theorem dX4_levelInOrder_83 : decode cX4_levelInOrder 83 = .ok (.istore_n 3, 1) := by decide +kernel
theorem dX4_levelInOrder_84 : decode cX4_levelInOrder 84 = .ok (.iinc 4 1, 3) := by decide +kernel
theorem dX4_levelInOrder_87 : decode cX4_levelInOrder 87 = .ok (.goto (-55), 3) := by decide +kernel
theorem dX4_levelInOrder_90 : decode cX4_levelInOrder 90 = .ok (.iload_n 2, 1) := by decide +kernel
theorem dX4_levelInOrder_91 : decode cX4_levelInOrder 91 = .ok (.ireturn, 1) := by decide +kernel
theorem dX4_pairs_0 : decode cX4_pairs 0 = .ok (.iconst 0, 1) := by decide +kernel
theorem dX4_pairs_1 : decode cX4_pairs 1 = .ok (.istore_n 1, 1) := by decide +kernel
theorem dX4_pairs_2 : decode cX4_pairs 2 = .ok (.iconst 1, 1) := by decide +kernel
theorem dX4_pairs_3 : decode cX4_pairs 3 = .ok (.istore_n 2, 1) := by decide +kernel
theorem dX4_pairs_4 : decode cX4_pairs 4 = .ok (.iload_n 2, 1) := by decide +kernel
theorem dX4_pairs_5 : decode cX4_pairs 5 = .ok (.aload_n 0, 1) := by decide +kernel
theorem dX4_pairs_6 : decode cX4_pairs 6 = .ok (.invokevirtual 67, 3) := by decide +kernel
theorem dX4_pairs_9 : decode cX4_pairs 9 = .ok (.if_icmp .ge 45, 3) := by decide +kernel
theorem dX4_pairs_12 : decode cX4_pairs 12 = .ok (.iconst 0, 1) := by decide +kernel
theorem dX4_pairs_13 : decode cX4_pairs 13 = .ok (.istore_n 3, 1) := by decide +kernel
theorem dX4_pairs_14 : decode cX4_pairs 14 = .ok (.iload_n 3, 1) := by decide +kernel
theorem dX4_pairs_15 : decode cX4_pairs 15 = .ok (.iload_n 2, 1) := by decide +kernel
theorem dX4_pairs_16 : decode cX4_pairs 16 = .ok (.if_icmp .ge 32, 3) := by decide +kernel
theorem dX4_pairs_19 : decode cX4_pairs 19 = .ok (.iload_n 1, 1) := by decide +kernel
theorem dX4_pairs_20 : decode cX4_pairs 20 = .ok (.aload_n 0, 1) := by decide +kernel
theorem dX4_pairs_21 : decode cX4_pairs 21 = .ok (.getfield 23, 3) := by decide +kernel
theorem dX4_pairs_24 : decode cX4_pairs 24 = .ok (.iload_n 3, 1) := by decide +kernel
theorem dX4_pairs_25 : decode cX4_pairs 25 = .ok (.iaload, 1) := by decide +kernel
theorem dX4_pairs_26 : decode cX4_pairs 26 = .ok (.aload_n 0, 1) := by decide +kernel
theorem dX4_pairs_27 : decode cX4_pairs 27 = .ok (.getfield 23, 3) := by decide +kernel
theorem dX4_pairs_30 : decode cX4_pairs 30 = .ok (.iload_n 2, 1) := by decide +kernel
theorem dX4_pairs_31 : decode cX4_pairs 31 = .ok (.iaload, 1) := by decide +kernel
theorem dX4_pairs_32 : decode cX4_pairs 32 = .ok (.if_icmp .le 7, 3) := by decide +kernel
theorem dX4_pairs_35 : decode cX4_pairs 35 = .ok (.iconst 1, 1) := by decide +kernel
theorem dX4_pairs_36 : decode cX4_pairs 36 = .ok (.goto 4, 3) := by decide +kernel
theorem dX4_pairs_39 : decode cX4_pairs 39 = .ok (.iconst 0, 1) := by decide +kernel
theorem dX4_pairs_40 : decode cX4_pairs 40 = .ok (.iadd, 1) := by decide +kernel
theorem dX4_pairs_41 : decode cX4_pairs 41 = .ok (.istore_n 1, 1) := by decide +kernel
theorem dX4_pairs_42 : decode cX4_pairs 42 = .ok (.iinc 3 1, 3) := by decide +kernel
theorem dX4_pairs_45 : decode cX4_pairs 45 = .ok (.goto (-31), 3) := by decide +kernel
theorem dX4_pairs_48 : decode cX4_pairs 48 = .ok (.iinc 2 1, 3) := by decide +kernel
theorem dX4_pairs_51 : decode cX4_pairs 51 = .ok (.goto (-47), 3) := by decide +kernel
theorem dX4_pairs_54 : decode cX4_pairs 54 = .ok (.iload_n 1, 1) := by decide +kernel
theorem dX4_pairs_55 : decode cX4_pairs 55 = .ok (.ireturn, 1) := by decide +kernel
theorem dX4_outOfOrder_0 : decode cX4_outOfOrder 0 = .ok (.aload_n 0, 1) := by decide +kernel
theorem dX4_outOfOrder_1 : decode cX4_outOfOrder 1 = .ok (.aload_n 0, 1) := by decide +kernel
theorem dX4_outOfOrder_2 : decode cX4_outOfOrder 2 = .ok (.invokevirtual 166, 3) := by decide +kernel
theorem dX4_outOfOrder_5 : decode cX4_outOfOrder 5 = .ok (.invokevirtual 114, 3) := by decide +kernel
theorem dX4_outOfOrder_8 : decode cX4_outOfOrder 8 = .ok (.ireturn, 1) := by decide +kernel
theorem dX4_alike_0 : decode cX4_alike 0 = .ok (.aload_n 0, 1) := by decide +kernel
theorem dX4_alike_1 : decode cX4_alike 1 = .ok (.iconst 0, 1) := by decide +kernel
theorem dX4_alike_2 : decode cX4_alike 2 = .ok (.putfield 38, 3) := by decide +kernel
theorem dX4_alike_5 : decode cX4_alike 5 = .ok (.aload_n 0, 1) := by decide +kernel
theorem dX4_alike_6 : decode cX4_alike 6 = .ok (.iload_n 1, 1) := by decide +kernel
theorem dX4_alike_7 : decode cX4_alike 7 = .ok (.invokevirtual 48, 3) := by decide +kernel
theorem dX4_alike_10 : decode cX4_alike 10 = .ok (.ifCond .eq 11, 3) := by decide +kernel
theorem dX4_alike_13 : decode cX4_alike 13 = .ok (.aload_n 0, 1) := by decide +kernel
theorem dX4_alike_14 : decode cX4_alike 14 = .ok (.iload_n 2, 1) := by decide +kernel
theorem dX4_alike_15 : decode cX4_alike 15 = .ok (.invokevirtual 48, 3) := by decide +kernel
theorem dX4_alike_18 : decode cX4_alike 18 = .ok (.ifCond .ne 9, 3) := by decide +kernel
theorem dX4_alike_21 : decode cX4_alike 21 = .ok (.aload_n 0, 1) := by decide +kernel
theorem dX4_alike_22 : decode cX4_alike 22 = .ok (.iconst 1, 1) := by decide +kernel
theorem dX4_alike_23 : decode cX4_alike 23 = .ok (.invokevirtual 84, 3) := by decide +kernel
theorem dX4_alike_26 : decode cX4_alike 26 = .ok (.ireturn, 1) := by decide +kernel
theorem dX4_alike_27 : decode cX4_alike 27 = .ok (.iconst 0, 1) := by decide +kernel
theorem dX4_alike_28 : decode cX4_alike 28 = .ok (.istore_n 3, 1) := by decide +kernel
theorem dX4_alike_29 : decode cX4_alike 29 = .ok (.iconst 0, 1) := by decide +kernel
theorem dX4_alike_30 : decode cX4_alike 30 = .ok (.istore 4, 2) := by decide +kernel
theorem dX4_alike_32 : decode cX4_alike 32 = .ok (.iload 4, 2) := by decide +kernel
theorem dX4_alike_34 : decode cX4_alike 34 = .ok (.aload_n 0, 1) := by decide +kernel
theorem dX4_alike_35 : decode cX4_alike 35 = .ok (.getfield 13, 3) := by decide +kernel
theorem dX4_alike_38 : decode cX4_alike 38 = .ok (.if_icmp .ge 34, 3) := by decide +kernel
theorem dX4_alike_41 : decode cX4_alike 41 = .ok (.iload_n 3, 1) := by decide +kernel
theorem dX4_alike_42 : decode cX4_alike 42 = .ok (.aload_n 0, 1) := by decide +kernel
theorem dX4_alike_43 : decode cX4_alike 43 = .ok (.iload_n 1, 1) := by decide +kernel
theorem dX4_alike_44 : decode cX4_alike 44 = .ok (.iload 4, 2) := by decide +kernel
theorem dX4_alike_46 : decode cX4_alike 46 = .ok (.invokevirtual 121, 3) := by decide +kernel
theorem dX4_alike_49 : decode cX4_alike 49 = .ok (.aload_n 0, 1) := by decide +kernel
theorem dX4_alike_50 : decode cX4_alike 50 = .ok (.iload_n 2, 1) := by decide +kernel
theorem dX4_alike_51 : decode cX4_alike 51 = .ok (.iload 4, 2) := by decide +kernel
theorem dX4_alike_53 : decode cX4_alike 53 = .ok (.invokevirtual 121, 3) := by decide +kernel
theorem dX4_alike_56 : decode cX4_alike 56 = .ok (.if_icmp .ne 7, 3) := by decide +kernel
theorem dX4_alike_59 : decode cX4_alike 59 = .ok (.iconst 1, 1) := by decide +kernel
theorem dX4_alike_60 : decode cX4_alike 60 = .ok (.goto 4, 3) := by decide +kernel
theorem dX4_alike_63 : decode cX4_alike 63 = .ok (.iconst 0, 1) := by decide +kernel
theorem dX4_alike_64 : decode cX4_alike 64 = .ok (.iadd, 1) := by decide +kernel
theorem dX4_alike_65 : decode cX4_alike 65 = .ok (.istore_n 3, 1) := by decide +kernel
theorem dX4_alike_66 : decode cX4_alike 66 = .ok (.iinc 4 1, 3) := by decide +kernel
theorem dX4_alike_69 : decode cX4_alike 69 = .ok (.goto (-37), 3) := by decide +kernel
theorem dX4_alike_72 : decode cX4_alike 72 = .ok (.iload_n 3, 1) := by decide +kernel
theorem dX4_alike_73 : decode cX4_alike 73 = .ok (.ireturn, 1) := by decide +kernel
theorem dX4_changed_0 : decode cX4_changed 0 = .ok (.iconst 0, 1) := by decide +kernel
theorem dX4_changed_1 : decode cX4_changed 1 = .ok (.istore_n 2, 1) := by decide +kernel
theorem dX4_changed_2 : decode cX4_changed 2 = .ok (.iconst 0, 1) := by decide +kernel
theorem dX4_changed_3 : decode cX4_changed 3 = .ok (.istore_n 3, 1) := by decide +kernel
theorem dX4_changed_4 : decode cX4_changed 4 = .ok (.iload_n 3, 1) := by decide +kernel
theorem dX4_changed_5 : decode cX4_changed 5 = .ok (.aload_n 0, 1) := by decide +kernel
theorem dX4_changed_6 : decode cX4_changed 6 = .ok (.invokevirtual 67, 3) := by decide +kernel
theorem dX4_changed_9 : decode cX4_changed 9 = .ok (.if_icmp .ge 38, 3) := by decide +kernel
theorem dX4_changed_12 : decode cX4_changed 12 = .ok (.iload_n 2, 1) := by decide +kernel
theorem dX4_changed_13 : decode cX4_changed 13 = .ok (.aload_n 0, 1) := by decide +kernel
theorem dX4_changed_14 : decode cX4_changed 14 = .ok (.getfield 29, 3) := by decide +kernel
theorem dX4_changed_17 : decode cX4_changed 17 = .ok (.sipush 128, 3) := by decide +kernel
theorem dX4_changed_20 : decode cX4_changed 20 = .ok (.iload_n 1, 1) := by decide +kernel
theorem dX4_changed_21 : decode cX4_changed 21 = .ok (.imul, 1) := by decide +kernel
theorem dX4_changed_22 : decode cX4_changed 22 = .ok (.iload_n 3, 1) := by decide +kernel
theorem dX4_changed_23 : decode cX4_changed 23 = .ok (.iadd, 1) := by decide +kernel
theorem dX4_changed_24 : decode cX4_changed 24 = .ok (.iaload, 1) := by decide +kernel
theorem dX4_changed_25 : decode cX4_changed 25 = .ok (.aload_n 0, 1) := by decide +kernel
theorem dX4_changed_26 : decode cX4_changed 26 = .ok (.getfield 23, 3) := by decide +kernel
theorem dX4_changed_29 : decode cX4_changed 29 = .ok (.iload_n 3, 1) := by decide +kernel
theorem dX4_changed_30 : decode cX4_changed 30 = .ok (.iaload, 1) := by decide +kernel
theorem dX4_changed_31 : decode cX4_changed 31 = .ok (.if_icmp .ne 7, 3) := by decide +kernel
theorem dX4_changed_34 : decode cX4_changed 34 = .ok (.iconst 0, 1) := by decide +kernel
theorem dX4_changed_35 : decode cX4_changed 35 = .ok (.goto 4, 3) := by decide +kernel
theorem dX4_changed_38 : decode cX4_changed 38 = .ok (.iconst 1, 1) := by decide +kernel
theorem dX4_changed_39 : decode cX4_changed 39 = .ok (.iadd, 1) := by decide +kernel
theorem dX4_changed_40 : decode cX4_changed 40 = .ok (.istore_n 2, 1) := by decide +kernel
theorem dX4_changed_41 : decode cX4_changed 41 = .ok (.iinc 3 1, 3) := by decide +kernel
theorem dX4_changed_44 : decode cX4_changed 44 = .ok (.goto (-40), 3) := by decide +kernel
theorem dX4_changed_47 : decode cX4_changed 47 = .ok (.iload_n 2, 1) := by decide +kernel
theorem dX4_changed_48 : decode cX4_changed 48 = .ok (.ireturn, 1) := by decide +kernel
theorem dX4_changedSince_0 : decode cX4_changedSince 0 = .ok (.aload_n 0, 1) := by decide +kernel
theorem dX4_changedSince_1 : decode cX4_changedSince 1 = .ok (.iconst 0, 1) := by decide +kernel
theorem dX4_changedSince_2 : decode cX4_changedSince 2 = .ok (.putfield 38, 3) := by decide +kernel
theorem dX4_changedSince_5 : decode cX4_changedSince 5 = .ok (.aload_n 0, 1) := by decide +kernel
theorem dX4_changedSince_6 : decode cX4_changedSince 6 = .ok (.iload_n 1, 1) := by decide +kernel
theorem dX4_changedSince_7 : decode cX4_changedSince 7 = .ok (.invokevirtual 108, 3) := by decide +kernel
theorem dX4_changedSince_10 : decode cX4_changedSince 10 = .ok (.ifCond .eq 11, 3) := by decide +kernel
theorem dX4_changedSince_13 : decode cX4_changedSince 13 = .ok (.aload_n 0, 1) := by decide +kernel
theorem dX4_changedSince_14 : decode cX4_changedSince 14 = .ok (.iload_n 1, 1) := by decide +kernel
theorem dX4_changedSince_15 : decode cX4_changedSince 15 = .ok (.invokevirtual 169, 3) := by decide +kernel
theorem dX4_changedSince_18 : decode cX4_changedSince 18 = .ok (.goto 8, 3) := by decide +kernel
theorem dX4_changedSince_21 : decode cX4_changedSince 21 = .ok (.aload_n 0, 1) := by decide +kernel
theorem dX4_changedSince_22 : decode cX4_changedSince 22 = .ok (.iconst 1, 1) := by decide +kernel
theorem dX4_changedSince_23 : decode cX4_changedSince 23 = .ok (.invokevirtual 84, 3) := by decide +kernel
theorem dX4_changedSince_26 : decode cX4_changedSince 26 = .ok (.ireturn, 1) := by decide +kernel
theorem dX4_later_0 : decode cX4_later 0 = .ok (.aload_n 0, 1) := by decide +kernel
theorem dX4_later_1 : decode cX4_later 1 = .ok (.iload_n 1, 1) := by decide +kernel
theorem dX4_later_2 : decode cX4_later 2 = .ok (.aload_n 0, 1) := by decide +kernel
theorem dX4_later_3 : decode cX4_later 3 = .ok (.getfield 16, 3) := by decide +kernel
theorem dX4_later_6 : decode cX4_later 6 = .ok (.invokevirtual 172, 3) := by decide +kernel
theorem dX4_later_9 : decode cX4_later 9 = .ok (.pop, 1) := by decide +kernel
theorem dX4_later_10 : decode cX4_later 10 = .ok (.lconst 0, 1) := by decide +kernel
theorem dX4_later_11 : decode cX4_later 11 = .ok (.lstore_n 2, 1) := by decide +kernel
theorem dX4_later_12 : decode cX4_later 12 = .ok (.iconst 0, 1) := by decide +kernel
theorem dX4_later_13 : decode cX4_later 13 = .ok (.istore 4, 2) := by decide +kernel
theorem dX4_later_15 : decode cX4_later 15 = .ok (.iload 4, 2) := by decide +kernel
theorem dX4_later_17 : decode cX4_later 17 = .ok (.aload_n 0, 1) := by decide +kernel
theorem dX4_later_18 : decode cX4_later 18 = .ok (.invokevirtual 67, 3) := by decide +kernel
theorem dX4_later_21 : decode cX4_later 21 = .ok (.if_icmp .ge 20, 3) := by decide +kernel
theorem dX4_later_24 : decode cX4_later 24 = .ok (.lload_n 2, 1) := by decide +kernel
theorem dX4_later_25 : decode cX4_later 25 = .ok (.aload_n 0, 1) := by decide +kernel
theorem dX4_later_26 : decode cX4_later 26 = .ok (.getfield 32, 3) := by decide +kernel
theorem dX4_later_29 : decode cX4_later 29 = .ok (.iload 4, 2) := by decide +kernel
theorem dX4_later_31 : decode cX4_later 31 = .ok (.iaload, 1) := by decide +kernel
theorem dX4_later_32 : decode cX4_later 32 = .ok (.i2l, 1) := by decide +kernel
theorem dX4_later_33 : decode cX4_later 33 = .ok (.ladd, 1) := by decide +kernel
theorem dX4_later_34 : decode cX4_later 34 = .ok (.lstore_n 2, 1) := by decide +kernel
theorem dX4_later_35 : decode cX4_later 35 = .ok (.iinc 4 1, 3) := by decide +kernel
theorem dX4_later_38 : decode cX4_later 38 = .ok (.goto (-23), 3) := by decide +kernel
theorem dX4_later_41 : decode cX4_later 41 = .ok (.lload_n 2, 1) := by decide +kernel
theorem dX4_later_42 : decode cX4_later 42 = .ok (.lreturn, 1) := by decide +kernel
theorem dX4_totalIn_0 : decode cX4_totalIn 0 = .ok (.aload_n 0, 1) := by decide +kernel
theorem dX4_totalIn_1 : decode cX4_totalIn 1 = .ok (.iload_n 1, 1) := by decide +kernel
theorem dX4_totalIn_2 : decode cX4_totalIn 2 = .ok (.iconst 1, 1) := by decide +kernel
theorem dX4_totalIn_3 : decode cX4_totalIn 3 = .ok (.bipush 40, 2) := by decide +kernel
theorem dX4_totalIn_5 : decode cX4_totalIn 5 = .ok (.invokestatic 41, 3) := by decide +kernel
theorem dX4_totalIn_8 : decode cX4_totalIn 8 = .ok (.ifCond .eq 7, 3) := by decide +kernel
theorem dX4_totalIn_11 : decode cX4_totalIn 11 = .ok (.iconst 0, 1) := by decide +kernel
theorem dX4_totalIn_12 : decode cX4_totalIn 12 = .ok (.goto 4, 3) := by decide +kernel
theorem dX4_totalIn_15 : decode cX4_totalIn 15 = .ok (.iconst 1, 1) := by decide +kernel
theorem dX4_totalIn_16 : decode cX4_totalIn 16 = .ok (.putfield 38, 3) := by decide +kernel
theorem dX4_totalIn_19 : decode cX4_totalIn 19 = .ok (.aload_n 0, 1) := by decide +kernel
theorem dX4_totalIn_20 : decode cX4_totalIn 20 = .ok (.getfield 38, 3) := by decide +kernel
theorem dX4_totalIn_23 : decode cX4_totalIn 23 = .ok (.ifCond .le 7, 3) := by decide +kernel
theorem dX4_totalIn_26 : decode cX4_totalIn 26 = .ok (.lconst 0, 1) := by decide +kernel
theorem dX4_totalIn_27 : decode cX4_totalIn 27 = .ok (.goto 8, 3) := by decide +kernel
theorem dX4_totalIn_30 : decode cX4_totalIn 30 = .ok (.aload_n 0, 1) := by decide +kernel
theorem dX4_totalIn_31 : decode cX4_totalIn 31 = .ok (.iload_n 1, 1) := by decide +kernel
theorem dX4_totalIn_32 : decode cX4_totalIn 32 = .ok (.invokevirtual 175, 3) := by decide +kernel
theorem dX4_totalIn_35 : decode cX4_totalIn 35 = .ok (.lreturn, 1) := by decide +kernel
theorem dX4_goneIn_0 : decode cX4_goneIn 0 = .ok (.aload_n 0, 1) := by decide +kernel
theorem dX4_goneIn_1 : decode cX4_goneIn 1 = .ok (.iconst 0, 1) := by decide +kernel
theorem dX4_goneIn_2 : decode cX4_goneIn 2 = .ok (.putfield 38, 3) := by decide +kernel
theorem dX4_goneIn_5 : decode cX4_goneIn 5 = .ok (.iload_n 1, 1) := by decide +kernel
theorem dX4_goneIn_6 : decode cX4_goneIn 6 = .ok (.iconst 1, 1) := by decide +kernel
theorem dX4_goneIn_7 : decode cX4_goneIn 7 = .ok (.bipush 40, 2) := by decide +kernel
theorem dX4_goneIn_9 : decode cX4_goneIn 9 = .ok (.invokestatic 41, 3) := by decide +kernel
theorem dX4_goneIn_12 : decode cX4_goneIn 12 = .ok (.ifCond .eq 15, 3) := by decide +kernel
theorem dX4_goneIn_15 : decode cX4_goneIn 15 = .ok (.aload_n 0, 1) := by decide +kernel
theorem dX4_goneIn_16 : decode cX4_goneIn 16 = .ok (.iload_n 1, 1) := by decide +kernel
theorem dX4_goneIn_17 : decode cX4_goneIn 17 = .ok (.aload_n 0, 1) := by decide +kernel
theorem dX4_goneIn_18 : decode cX4_goneIn 18 = .ok (.getfield 16, 3) := by decide +kernel
theorem dX4_goneIn_21 : decode cX4_goneIn 21 = .ok (.invokevirtual 172, 3) := by decide +kernel
theorem dX4_goneIn_24 : decode cX4_goneIn 24 = .ok (.goto 8, 3) := by decide +kernel
theorem dX4_goneIn_27 : decode cX4_goneIn 27 = .ok (.aload_n 0, 1) := by decide +kernel
theorem dX4_goneIn_28 : decode cX4_goneIn 28 = .ok (.iconst 1, 1) := by decide +kernel
theorem dX4_goneIn_29 : decode cX4_goneIn 29 = .ok (.invokevirtual 84, 3) := by decide +kernel
theorem dX4_goneIn_32 : decode cX4_goneIn 32 = .ok (.ireturn, 1) := by decide +kernel
theorem dX4_untilDry_0 : decode cX4_untilDry 0 = .ok (.aload_n 0, 1) := by decide +kernel
theorem dX4_untilDry_1 : decode cX4_untilDry 1 = .ok (.invokevirtual 77, 3) := by decide +kernel
theorem dX4_untilDry_4 : decode cX4_untilDry 4 = .ok (.iconst 0, 1) := by decide +kernel
theorem dX4_untilDry_5 : decode cX4_untilDry 5 = .ok (.istore_n 1, 1) := by decide +kernel
theorem dX4_untilDry_6 : decode cX4_untilDry 6 = .ok (.iload_n 1, 1) := by decide +kernel
theorem dX4_untilDry_7 : decode cX4_untilDry 7 = .ok (.bipush 60, 2) := by decide +kernel
theorem dX4_untilDry_9 : decode cX4_untilDry 9 = .ok (.if_icmp .gt 33, 3) := by decide +kernel
theorem dX4_untilDry_12 : decode cX4_untilDry 12 = .ok (.aload_n 0, 1) := by decide +kernel
theorem dX4_untilDry_13 : decode cX4_untilDry 13 = .ok (.aload_n 0, 1) := by decide +kernel
theorem dX4_untilDry_14 : decode cX4_untilDry 14 = .ok (.getfield 32, 3) := by decide +kernel
theorem dX4_untilDry_17 : decode cX4_untilDry 17 = .ok (.invokevirtual 178, 3) := by decide +kernel
theorem dX4_untilDry_20 : decode cX4_untilDry 20 = .ok (.ifCond .ne 22, 3) := by decide +kernel
theorem dX4_untilDry_23 : decode cX4_untilDry 23 = .ok (.aload_n 0, 1) := by decide +kernel
theorem dX4_untilDry_24 : decode cX4_untilDry 24 = .ok (.aload_n 0, 1) := by decide +kernel
theorem dX4_untilDry_25 : decode cX4_untilDry 25 = .ok (.getfield 32, 3) := by decide +kernel
theorem dX4_untilDry_28 : decode cX4_untilDry 28 = .ok (.aload_n 0, 1) := by decide +kernel
theorem dX4_untilDry_29 : decode cX4_untilDry 29 = .ok (.getfield 16, 3) := by decide +kernel
theorem dX4_untilDry_32 : decode cX4_untilDry 32 = .ok (.invokevirtual 80, 3) := by decide +kernel
theorem dX4_untilDry_35 : decode cX4_untilDry 35 = .ok (.pop, 1) := by decide +kernel
theorem dX4_untilDry_36 : decode cX4_untilDry 36 = .ok (.iinc 1 1, 3) := by decide +kernel
theorem dX4_untilDry_39 : decode cX4_untilDry 39 = .ok (.goto (-33), 3) := by decide +kernel
theorem dX4_untilDry_42 : decode cX4_untilDry 42 = .ok (.iload_n 1, 1) := by decide +kernel
theorem dX4_untilDry_43 : decode cX4_untilDry 43 = .ok (.bipush 60, 2) := by decide +kernel
theorem dX4_untilDry_45 : decode cX4_untilDry 45 = .ok (.if_icmp .le 7, 3) := by decide +kernel
theorem dX4_untilDry_48 : decode cX4_untilDry 48 = .ok (.iconst (-1), 1) := by decide +kernel
theorem dX4_untilDry_49 : decode cX4_untilDry 49 = .ok (.goto 4, 3) := by decide +kernel
theorem dX4_untilDry_52 : decode cX4_untilDry 52 = .ok (.iload_n 1, 1) := by decide +kernel
theorem dX4_untilDry_53 : decode cX4_untilDry 53 = .ok (.ireturn, 1) := by decide +kernel
theorem dX4_hoursUntilDry_0 : decode cX4_hoursUntilDry 0 = .ok (.aload_n 0, 1) := by decide +kernel
theorem dX4_hoursUntilDry_1 : decode cX4_hoursUntilDry 1 = .ok (.aload_n 0, 1) := by decide +kernel
theorem dX4_hoursUntilDry_2 : decode cX4_hoursUntilDry 2 = .ok (.invokevirtual 182, 3) := by decide +kernel
theorem dX4_hoursUntilDry_5 : decode cX4_hoursUntilDry 5 = .ok (.invokevirtual 114, 3) := by decide +kernel
theorem dX4_hoursUntilDry_8 : decode cX4_hoursUntilDry 8 = .ok (.ireturn, 1) := by decide +kernel
theorem dX4_wanted_0 : decode cX4_wanted 0 = .ok (.iconst 0, 1) := by decide +kernel
theorem dX4_wanted_1 : decode cX4_wanted 1 = .ok (.istore_n 2, 1) := by decide +kernel
theorem dX4_wanted_2 : decode cX4_wanted 2 = .ok (.iload_n 2, 1) := by decide +kernel
theorem dX4_wanted_3 : decode cX4_wanted 3 = .ok (.bipush 9, 2) := by decide +kernel
theorem dX4_wanted_5 : decode cX4_wanted 5 = .ok (.if_icmp .gt 29, 3) := by decide +kernel
theorem dX4_wanted_8 : decode cX4_wanted 8 = .ok (.aload_n 0, 1) := by decide +kernel
theorem dX4_wanted_9 : decode cX4_wanted 9 = .ok (.iload_n 1, 1) := by decide +kernel
theorem dX4_wanted_10 : decode cX4_wanted 10 = .ok (.iload_n 2, 1) := by decide +kernel
theorem dX4_wanted_11 : decode cX4_wanted 11 = .ok (.invokevirtual 172, 3) := by decide +kernel
theorem dX4_wanted_14 : decode cX4_wanted 14 = .ok (.pop, 1) := by decide +kernel
theorem dX4_wanted_15 : decode cX4_wanted 15 = .ok (.aload_n 0, 1) := by decide +kernel
theorem dX4_wanted_16 : decode cX4_wanted 16 = .ok (.aload_n 0, 1) := by decide +kernel
theorem dX4_wanted_17 : decode cX4_wanted 17 = .ok (.getfield 32, 3) := by decide +kernel
theorem dX4_wanted_20 : decode cX4_wanted 20 = .ok (.invokevirtual 178, 3) := by decide +kernel
theorem dX4_wanted_23 : decode cX4_wanted 23 = .ok (.ifCond .eq 5, 3) := by decide +kernel
theorem dX4_wanted_26 : decode cX4_wanted 26 = .ok (.iload_n 2, 1) := by decide +kernel
theorem dX4_wanted_27 : decode cX4_wanted 27 = .ok (.ireturn, 1) := by decide +kernel
theorem dX4_wanted_28 : decode cX4_wanted 28 = .ok (.iinc 2 1, 3) := by decide +kernel
theorem dX4_wanted_31 : decode cX4_wanted 31 = .ok (.goto (-29), 3) := by decide +kernel
theorem dX4_wanted_34 : decode cX4_wanted 34 = .ok (.iconst (-1), 1) := by decide +kernel
theorem dX4_wanted_35 : decode cX4_wanted 35 = .ok (.ireturn, 1) := by decide +kernel
theorem dX4_sunWanted_0 : decode cX4_sunWanted 0 = .ok (.aload_n 0, 1) := by decide +kernel
theorem dX4_sunWanted_1 : decode cX4_sunWanted 1 = .ok (.iconst 0, 1) := by decide +kernel
theorem dX4_sunWanted_2 : decode cX4_sunWanted 2 = .ok (.putfield 38, 3) := by decide +kernel
theorem dX4_sunWanted_5 : decode cX4_sunWanted 5 = .ok (.iload_n 1, 1) := by decide +kernel
theorem dX4_sunWanted_6 : decode cX4_sunWanted 6 = .ok (.iconst 1, 1) := by decide +kernel
theorem dX4_sunWanted_7 : decode cX4_sunWanted 7 = .ok (.bipush 40, 2) := by decide +kernel
theorem dX4_sunWanted_9 : decode cX4_sunWanted 9 = .ok (.invokestatic 41, 3) := by decide +kernel
theorem dX4_sunWanted_12 : decode cX4_sunWanted 12 = .ok (.ifCond .eq 11, 3) := by decide +kernel
theorem dX4_sunWanted_15 : decode cX4_sunWanted 15 = .ok (.aload_n 0, 1) := by decide +kernel
theorem dX4_sunWanted_16 : decode cX4_sunWanted 16 = .ok (.iload_n 1, 1) := by decide +kernel
theorem dX4_sunWanted_17 : decode cX4_sunWanted 17 = .ok (.invokevirtual 185, 3) := by decide +kernel
theorem dX4_sunWanted_20 : decode cX4_sunWanted 20 = .ok (.goto 8, 3) := by decide +kernel
theorem dX4_sunWanted_23 : decode cX4_sunWanted 23 = .ok (.aload_n 0, 1) := by decide +kernel
theorem dX4_sunWanted_24 : decode cX4_sunWanted 24 = .ok (.iconst 1, 1) := by decide +kernel
theorem dX4_sunWanted_25 : decode cX4_sunWanted 25 = .ok (.invokevirtual 84, 3) := by decide +kernel
theorem dX4_sunWanted_28 : decode cX4_sunWanted 28 = .ok (.ireturn, 1) := by decide +kernel
theorem dX4_bestEdge_0 : decode cX4_bestEdge 0 = .ok (.aload_n 0, 1) := by decide +kernel
theorem dX4_bestEdge_1 : decode cX4_bestEdge 1 = .ok (.iconst 0, 1) := by decide +kernel
theorem dX4_bestEdge_2 : decode cX4_bestEdge 2 = .ok (.putfield 38, 3) := by decide +kernel
theorem dX4_bestEdge_5 : decode cX4_bestEdge 5 = .ok (.aload_n 0, 1) := by decide +kernel
theorem dX4_bestEdge_6 : decode cX4_bestEdge 6 = .ok (.iload_n 1, 1) := by decide +kernel
theorem dX4_bestEdge_7 : decode cX4_bestEdge 7 = .ok (.invokevirtual 52, 3) := by decide +kernel
theorem dX4_bestEdge_10 : decode cX4_bestEdge 10 = .ok (.ifCond .ne 9, 3) := by decide +kernel
theorem dX4_bestEdge_13 : decode cX4_bestEdge 13 = .ok (.aload_n 0, 1) := by decide +kernel
theorem dX4_bestEdge_14 : decode cX4_bestEdge 14 = .ok (.iconst 1, 1) := by decide +kernel
theorem dX4_bestEdge_15 : decode cX4_bestEdge 15 = .ok (.invokevirtual 84, 3) := by decide +kernel
theorem dX4_bestEdge_18 : decode cX4_bestEdge 18 = .ok (.ireturn, 1) := by decide +kernel
theorem dX4_bestEdge_19 : decode cX4_bestEdge 19 = .ok (.iload_n 2, 1) := by decide +kernel
theorem dX4_bestEdge_20 : decode cX4_bestEdge 20 = .ok (.iconst 1, 1) := by decide +kernel
theorem dX4_bestEdge_21 : decode cX4_bestEdge 21 = .ok (.bipush 40, 2) := by decide +kernel
theorem dX4_bestEdge_23 : decode cX4_bestEdge 23 = .ok (.invokestatic 41, 3) := by decide +kernel
theorem dX4_bestEdge_26 : decode cX4_bestEdge 26 = .ok (.ifCond .ne 9, 3) := by decide +kernel
theorem dX4_bestEdge_29 : decode cX4_bestEdge 29 = .ok (.aload_n 0, 1) := by decide +kernel
theorem dX4_bestEdge_30 : decode cX4_bestEdge 30 = .ok (.iconst 2, 1) := by decide +kernel
theorem dX4_bestEdge_31 : decode cX4_bestEdge 31 = .ok (.invokevirtual 84, 3) := by decide +kernel
theorem dX4_bestEdge_34 : decode cX4_bestEdge 34 = .ok (.ireturn, 1) := by decide +kernel
theorem dX4_bestEdge_35 : decode cX4_bestEdge 35 = .ok (.aload_n 0, 1) := by decide +kernel
theorem dX4_bestEdge_36 : decode cX4_bestEdge 36 = .ok (.getfield 19, 3) := by decide +kernel
theorem dX4_bestEdge_39 : decode cX4_bestEdge 39 = .ok (.iload_n 1, 1) := by decide +kernel
theorem dX4_bestEdge_40 : decode cX4_bestEdge 40 = .ok (.iaload, 1) := by decide +kernel
theorem dX4_bestEdge_41 : decode cX4_bestEdge 41 = .ok (.istore_n 3, 1) := by decide +kernel
theorem dX4_bestEdge_42 : decode cX4_bestEdge 42 = .ok (.iconst (-1), 1) := by decide +kernel
theorem dX4_bestEdge_43 : decode cX4_bestEdge 43 = .ok (.istore 4, 2) := by decide +kernel
theorem dX4_bestEdge_45 : decode cX4_bestEdge 45 = .ok (.iconst 0, 1) := by decide +kernel
theorem dX4_bestEdge_46 : decode cX4_bestEdge 46 = .ok (.istore 5, 2) := by decide +kernel
theorem dX4_bestEdge_48 : decode cX4_bestEdge 48 = .ok (.iconst 0, 1) := by decide +kernel
theorem dX4_bestEdge_49 : decode cX4_bestEdge 49 = .ok (.istore 6, 2) := by decide +kernel
theorem dX4_bestEdge_51 : decode cX4_bestEdge 51 = .ok (.iload 6, 2) := by decide +kernel
theorem dX4_bestEdge_53 : decode cX4_bestEdge 53 = .ok (.sipush 300, 3) := by decide +kernel
theorem dX4_bestEdge_56 : decode cX4_bestEdge 56 = .ok (.if_icmp .gt 52, 3) := by decide +kernel
theorem dX4_bestEdge_59 : decode cX4_bestEdge 59 = .ok (.aload_n 0, 1) := by decide +kernel
theorem dX4_bestEdge_60 : decode cX4_bestEdge 60 = .ok (.getfield 19, 3) := by decide +kernel
theorem dX4_bestEdge_63 : decode cX4_bestEdge 63 = .ok (.iload_n 1, 1) := by decide +kernel
theorem dX4_bestEdge_64 : decode cX4_bestEdge 64 = .ok (.iload 6, 2) := by decide +kernel
theorem dX4_bestEdge_66 : decode cX4_bestEdge 66 = .ok (.iastore, 1) := by decide +kernel
theorem dX4_bestEdge_67 : decode cX4_bestEdge 67 = .ok (.aload_n 0, 1) := by decide +kernel
theorem dX4_bestEdge_68 : decode cX4_bestEdge 68 = .ok (.iload_n 2, 1) := by decide +kernel
theorem dX4_bestEdge_69 : decode cX4_bestEdge 69 = .ok (.aload_n 0, 1) := by decide +kernel
theorem dX4_bestEdge_70 : decode cX4_bestEdge 70 = .ok (.getfield 16, 3) := by decide +kernel
theorem dX4_bestEdge_73 : decode cX4_bestEdge 73 = .ok (.invokevirtual 172, 3) := by decide +kernel
theorem dX4_bestEdge_76 : decode cX4_bestEdge 76 = .ok (.istore 7, 2) := by decide +kernel
theorem dX4_bestEdge_78 : decode cX4_bestEdge 78 = .ok (.iload 4, 2) := by decide +kernel
theorem dX4_bestEdge_80 : decode cX4_bestEdge 80 = .ok (.iconst (-1), 1) := by decide +kernel
theorem dX4_bestEdge_81 : decode cX4_bestEdge 81 = .ok (.if_icmp .eq 13, 3) := by decide +kernel
theorem dX4_bestEdge_84 : decode cX4_bestEdge 84 = .ok (.iload 7, 2) := by decide +kernel
theorem dX4_bestEdge_86 : decode cX4_bestEdge 86 = .ok (.iload 5, 2) := by decide +kernel
theorem dX4_bestEdge_88 : decode cX4_bestEdge 88 = .ok (.if_icmp .lt 6, 3) := by decide +kernel
theorem dX4_bestEdge_91 : decode cX4_bestEdge 91 = .ok (.goto 11, 3) := by decide +kernel
theorem dX4_bestEdge_94 : decode cX4_bestEdge 94 = .ok (.iload 6, 2) := by decide +kernel
theorem dX4_bestEdge_96 : decode cX4_bestEdge 96 = .ok (.istore 4, 2) := by decide +kernel
theorem dX4_bestEdge_98 : decode cX4_bestEdge 98 = .ok (.iload 7, 2) := by decide +kernel
theorem dX4_bestEdge_100 : decode cX4_bestEdge 100 = .ok (.istore 5, 2) := by decide +kernel
theorem dX4_bestEdge_102 : decode cX4_bestEdge 102 = .ok (.iinc 6 10, 3) := by decide +kernel
theorem dX4_bestEdge_105 : decode cX4_bestEdge 105 = .ok (.goto (-54), 3) := by decide +kernel
theorem dX4_bestEdge_108 : decode cX4_bestEdge 108 = .ok (.aload_n 0, 1) := by decide +kernel
theorem dX4_bestEdge_109 : decode cX4_bestEdge 109 = .ok (.getfield 19, 3) := by decide +kernel
theorem dX4_bestEdge_112 : decode cX4_bestEdge 112 = .ok (.iload_n 1, 1) := by decide +kernel
theorem dX4_bestEdge_113 : decode cX4_bestEdge 113 = .ok (.iload_n 3, 1) := by decide +kernel
theorem dX4_bestEdge_114 : decode cX4_bestEdge 114 = .ok (.iastore, 1) := by decide +kernel
theorem dX4_bestEdge_115 : decode cX4_bestEdge 115 = .ok (.iload 4, 2) := by decide +kernel
theorem dX4_bestEdge_117 : decode cX4_bestEdge 117 = .ok (.ireturn, 1) := by decide +kernel
theorem dX4_swapFor_0 : decode cX4_swapFor 0 = .ok (.iconst (-1), 1) := by decide +kernel
theorem dX4_swapFor_1 : decode cX4_swapFor 1 = .ok (.istore_n 2, 1) := by decide +kernel
theorem dX4_swapFor_2 : decode cX4_swapFor 2 = .ok (.iconst 0, 1) := by decide +kernel
theorem dX4_swapFor_3 : decode cX4_swapFor 3 = .ok (.istore_n 3, 1) := by decide +kernel
theorem dX4_swapFor_4 : decode cX4_swapFor 4 = .ok (.iconst 0, 1) := by decide +kernel
theorem dX4_swapFor_5 : decode cX4_swapFor 5 = .ok (.istore 4, 2) := by decide +kernel
theorem dX4_swapFor_7 : decode cX4_swapFor 7 = .ok (.iload 4, 2) := by decide +kernel
theorem dX4_swapFor_9 : decode cX4_swapFor 9 = .ok (.aload_n 0, 1) := by decide +kernel
theorem dX4_swapFor_10 : decode cX4_swapFor 10 = .ok (.getfield 9, 3) := by decide +kernel
theorem dX4_swapFor_13 : decode cX4_swapFor 13 = .ok (.if_icmp .ge 51, 3) := by decide +kernel
theorem dX4_swapFor_16 : decode cX4_swapFor 16 = .ok (.aload_n 0, 1) := by decide +kernel
theorem dX4_swapFor_17 : decode cX4_swapFor 17 = .ok (.iload_n 1, 1) := by decide +kernel
theorem dX4_swapFor_18 : decode cX4_swapFor 18 = .ok (.iload 4, 2) := by decide +kernel
theorem dX4_swapFor_20 : decode cX4_swapFor 20 = .ok (.invokevirtual 95, 3) := by decide +kernel
theorem dX4_swapFor_23 : decode cX4_swapFor 23 = .ok (.pop, 1) := by decide +kernel
theorem dX4_swapFor_24 : decode cX4_swapFor 24 = .ok (.aload_n 0, 1) := by decide +kernel
theorem dX4_swapFor_25 : decode cX4_swapFor 25 = .ok (.invokevirtual 166, 3) := by decide +kernel
theorem dX4_swapFor_28 : decode cX4_swapFor 28 = .ok (.istore 5, 2) := by decide +kernel
theorem dX4_swapFor_30 : decode cX4_swapFor 30 = .ok (.aload_n 0, 1) := by decide +kernel
theorem dX4_swapFor_31 : decode cX4_swapFor 31 = .ok (.iload_n 1, 1) := by decide +kernel
theorem dX4_swapFor_32 : decode cX4_swapFor 32 = .ok (.iload 4, 2) := by decide +kernel
theorem dX4_swapFor_34 : decode cX4_swapFor 34 = .ok (.invokevirtual 95, 3) := by decide +kernel
theorem dX4_swapFor_37 : decode cX4_swapFor 37 = .ok (.pop, 1) := by decide +kernel
theorem dX4_swapFor_38 : decode cX4_swapFor 38 = .ok (.iload_n 2, 1) := by decide +kernel
theorem dX4_swapFor_39 : decode cX4_swapFor 39 = .ok (.iconst (-1), 1) := by decide +kernel
theorem dX4_swapFor_40 : decode cX4_swapFor 40 = .ok (.if_icmp .eq 12, 3) := by decide +kernel
theorem dX4_swapFor_43 : decode cX4_swapFor 43 = .ok (.iload 5, 2) := by decide +kernel
theorem dX4_swapFor_45 : decode cX4_swapFor 45 = .ok (.iload_n 3, 1) := by decide +kernel
theorem dX4_swapFor_46 : decode cX4_swapFor 46 = .ok (.if_icmp .lt 6, 3) := by decide +kernel
theorem dX4_swapFor_49 : decode cX4_swapFor 49 = .ok (.goto 9, 3) := by decide +kernel
theorem dX4_swapFor_52 : decode cX4_swapFor 52 = .ok (.iload 4, 2) := by decide +kernel
theorem dX4_swapFor_54 : decode cX4_swapFor 54 = .ok (.istore_n 2, 1) := by decide +kernel
theorem dX4_swapFor_55 : decode cX4_swapFor 55 = .ok (.iload 5, 2) := by decide +kernel
theorem dX4_swapFor_57 : decode cX4_swapFor 57 = .ok (.istore_n 3, 1) := by decide +kernel
theorem dX4_swapFor_58 : decode cX4_swapFor 58 = .ok (.iinc 4 1, 3) := by decide +kernel
theorem dX4_swapFor_61 : decode cX4_swapFor 61 = .ok (.goto (-54), 3) := by decide +kernel
theorem dX4_swapFor_64 : decode cX4_swapFor 64 = .ok (.iload_n 2, 1) := by decide +kernel
theorem dX4_swapFor_65 : decode cX4_swapFor 65 = .ok (.ireturn, 1) := by decide +kernel
theorem dX4_bestSwap_0 : decode cX4_bestSwap 0 = .ok (.aload_n 0, 1) := by decide +kernel
theorem dX4_bestSwap_1 : decode cX4_bestSwap 1 = .ok (.iconst 0, 1) := by decide +kernel
theorem dX4_bestSwap_2 : decode cX4_bestSwap 2 = .ok (.putfield 38, 3) := by decide +kernel
theorem dX4_bestSwap_5 : decode cX4_bestSwap 5 = .ok (.aload_n 0, 1) := by decide +kernel
theorem dX4_bestSwap_6 : decode cX4_bestSwap 6 = .ok (.iload_n 1, 1) := by decide +kernel
theorem dX4_bestSwap_7 : decode cX4_bestSwap 7 = .ok (.invokevirtual 48, 3) := by decide +kernel
theorem dX4_bestSwap_10 : decode cX4_bestSwap 10 = .ok (.ifCond .eq 11, 3) := by decide +kernel
theorem dX4_bestSwap_13 : decode cX4_bestSwap 13 = .ok (.aload_n 0, 1) := by decide +kernel
theorem dX4_bestSwap_14 : decode cX4_bestSwap 14 = .ok (.iload_n 1, 1) := by decide +kernel
theorem dX4_bestSwap_15 : decode cX4_bestSwap 15 = .ok (.invokevirtual 188, 3) := by decide +kernel
theorem dX4_bestSwap_18 : decode cX4_bestSwap 18 = .ok (.goto 8, 3) := by decide +kernel
theorem dX4_bestSwap_21 : decode cX4_bestSwap 21 = .ok (.aload_n 0, 1) := by decide +kernel
theorem dX4_bestSwap_22 : decode cX4_bestSwap 22 = .ok (.iconst 1, 1) := by decide +kernel
theorem dX4_bestSwap_23 : decode cX4_bestSwap 23 = .ok (.invokevirtual 84, 3) := by decide +kernel
theorem dX4_bestSwap_26 : decode cX4_bestSwap 26 = .ok (.ireturn, 1) := by decide +kernel
theorem dX4_meanLevel_0 : decode cX4_meanLevel 0 = .ok (.aload_n 0, 1) := by decide +kernel
theorem dX4_meanLevel_1 : decode cX4_meanLevel 1 = .ok (.iconst 0, 1) := by decide +kernel
theorem dX4_meanLevel_2 : decode cX4_meanLevel 2 = .ok (.putfield 38, 3) := by decide +kernel
theorem dX4_meanLevel_5 : decode cX4_meanLevel 5 = .ok (.aload_n 0, 1) := by decide +kernel
theorem dX4_meanLevel_6 : decode cX4_meanLevel 6 = .ok (.invokevirtual 135, 3) := by decide +kernel
theorem dX4_meanLevel_9 : decode cX4_meanLevel 9 = .ok (.l2d, 1) := by decide +kernel
theorem dX4_meanLevel_10 : decode cX4_meanLevel 10 = .ok (.aload_n 0, 1) := by decide +kernel
theorem dX4_meanLevel_11 : decode cX4_meanLevel 11 = .ok (.invokevirtual 67, 3) := by decide +kernel
theorem dX4_meanLevel_14 : decode cX4_meanLevel 14 = .ok (.i2d, 1) := by decide +kernel
theorem dX4_meanLevel_15 : decode cX4_meanLevel 15 = .ok (.ddiv, 1) := by decide +kernel
theorem dX4_meanLevel_16 : decode cX4_meanLevel 16 = .ok (.dreturn, 1) := by decide +kernel
theorem dX4_digest_0 : decode cX4_digest 0 = .ok (.aload_n 0, 1) := by decide +kernel
theorem dX4_digest_1 : decode cX4_digest 1 = .ok (.iconst 0, 1) := by decide +kernel
theorem dX4_digest_2 : decode cX4_digest 2 = .ok (.putfield 38, 3) := by decide +kernel
theorem dX4_digest_5 : decode cX4_digest 5 = .ok (.bipush 15, 2) := by decide +kernel
theorem dX4_digest_7 : decode cX4_digest 7 = .ok (.newarray .long, 2) := by decide +kernel
theorem dX4_digest_9 : decode cX4_digest 9 = .ok (.dup, 1) := by decide +kernel
theorem dX4_digest_10 : decode cX4_digest 10 = .ok (.iconst 0, 1) := by decide +kernel
theorem dX4_digest_11 : decode cX4_digest 11 = .ok (.aload_n 0, 1) := by decide +kernel
theorem dX4_digest_12 : decode cX4_digest 12 = .ok (.getfield 9, 3) := by decide +kernel
theorem dX4_digest_15 : decode cX4_digest 15 = .ok (.i2l, 1) := by decide +kernel
theorem dX4_digest_16 : decode cX4_digest 16 = .ok (.lastore, 1) := by decide +kernel
theorem dX4_digest_17 : decode cX4_digest 17 = .ok (.dup, 1) := by decide +kernel
theorem dX4_digest_18 : decode cX4_digest 18 = .ok (.iconst 1, 1) := by decide +kernel
theorem dX4_digest_19 : decode cX4_digest 19 = .ok (.aload_n 0, 1) := by decide +kernel
theorem dX4_digest_20 : decode cX4_digest 20 = .ok (.getfield 13, 3) := by decide +kernel
theorem dX4_digest_23 : decode cX4_digest 23 = .ok (.i2l, 1) := by decide +kernel
theorem dX4_digest_24 : decode cX4_digest 24 = .ok (.lastore, 1) := by decide +kernel
theorem dX4_digest_25 : decode cX4_digest 25 = .ok (.dup, 1) := by decide +kernel
theorem dX4_digest_26 : decode cX4_digest 26 = .ok (.iconst 2, 1) := by decide +kernel
theorem dX4_digest_27 : decode cX4_digest 27 = .ok (.aload_n 0, 1) := by decide +kernel
theorem dX4_digest_28 : decode cX4_digest 28 = .ok (.getfield 101, 3) := by decide +kernel
theorem dX4_digest_31 : decode cX4_digest 31 = .ok (.i2l, 1) := by decide +kernel
theorem dX4_digest_32 : decode cX4_digest 32 = .ok (.lastore, 1) := by decide +kernel
theorem dX4_digest_33 : decode cX4_digest 33 = .ok (.dup, 1) := by decide +kernel
theorem dX4_digest_34 : decode cX4_digest 34 = .ok (.iconst 3, 1) := by decide +kernel
theorem dX4_digest_35 : decode cX4_digest 35 = .ok (.aload_n 0, 1) := by decide +kernel
theorem dX4_digest_36 : decode cX4_digest 36 = .ok (.getfield 16, 3) := by decide +kernel
theorem dX4_digest_39 : decode cX4_digest 39 = .ok (.i2l, 1) := by decide +kernel
theorem dX4_digest_40 : decode cX4_digest 40 = .ok (.lastore, 1) := by decide +kernel
theorem dX4_digest_41 : decode cX4_digest 41 = .ok (.dup, 1) := by decide +kernel
theorem dX4_digest_42 : decode cX4_digest 42 = .ok (.iconst 4, 1) := by decide +kernel
theorem dX4_digest_43 : decode cX4_digest 43 = .ok (.aload_n 0, 1) := by decide +kernel
theorem dX4_digest_44 : decode cX4_digest 44 = .ok (.getfield 45, 3) := by decide +kernel
theorem dX4_digest_47 : decode cX4_digest 47 = .ok (.i2l, 1) := by decide +kernel
theorem dX4_digest_48 : decode cX4_digest 48 = .ok (.lastore, 1) := by decide +kernel
theorem dX4_digest_49 : decode cX4_digest 49 = .ok (.dup, 1) := by decide +kernel
theorem dX4_digest_50 : decode cX4_digest 50 = .ok (.iconst 5, 1) := by decide +kernel
theorem dX4_digest_51 : decode cX4_digest 51 = .ok (.aload_n 0, 1) := by decide +kernel
theorem dX4_digest_52 : decode cX4_digest 52 = .ok (.getfield 55, 3) := by decide +kernel
theorem dX4_digest_55 : decode cX4_digest 55 = .ok (.i2l, 1) := by decide +kernel
theorem dX4_digest_56 : decode cX4_digest 56 = .ok (.lastore, 1) := by decide +kernel
theorem dX4_digest_57 : decode cX4_digest 57 = .ok (.dup, 1) := by decide +kernel
theorem dX4_digest_58 : decode cX4_digest 58 = .ok (.bipush 6, 2) := by decide +kernel
theorem dX4_digest_60 : decode cX4_digest 60 = .ok (.aload_n 0, 1) := by decide +kernel
theorem dX4_digest_61 : decode cX4_digest 61 = .ok (.getfield 104, 3) := by decide +kernel
theorem dX4_digest_64 : decode cX4_digest 64 = .ok (.lastore, 1) := by decide +kernel
theorem dX4_digest_65 : decode cX4_digest 65 = .ok (.dup, 1) := by decide +kernel
theorem dX4_digest_66 : decode cX4_digest 66 = .ok (.bipush 7, 2) := by decide +kernel
theorem dX4_digest_68 : decode cX4_digest 68 = .ok (.aload_n 0, 1) := by decide +kernel
theorem dX4_digest_69 : decode cX4_digest 69 = .ok (.invokevirtual 135, 3) := by decide +kernel
theorem dX4_digest_72 : decode cX4_digest 72 = .ok (.lastore, 1) := by decide +kernel
theorem dX4_digest_73 : decode cX4_digest 73 = .ok (.dup, 1) := by decide +kernel
theorem dX4_digest_74 : decode cX4_digest 74 = .ok (.bipush 8, 2) := by decide +kernel
theorem dX4_digest_76 : decode cX4_digest 76 = .ok (.aload_n 0, 1) := by decide +kernel
theorem dX4_digest_77 : decode cX4_digest 77 = .ok (.invokevirtual 151, 3) := by decide +kernel
theorem dX4_digest_80 : decode cX4_digest 80 = .ok (.i2l, 1) := by decide +kernel
theorem dX4_digest_81 : decode cX4_digest 81 = .ok (.lastore, 1) := by decide +kernel
theorem dX4_digest_82 : decode cX4_digest 82 = .ok (.dup, 1) := by decide +kernel
theorem dX4_digest_83 : decode cX4_digest 83 = .ok (.bipush 9, 2) := by decide +kernel
theorem dX4_digest_85 : decode cX4_digest 85 = .ok (.aload_n 0, 1) := by decide +kernel
theorem dX4_digest_86 : decode cX4_digest 86 = .ok (.invokevirtual 157, 3) := by decide +kernel
theorem dX4_digest_89 : decode cX4_digest 89 = .ok (.i2l, 1) := by decide +kernel
theorem dX4_digest_90 : decode cX4_digest 90 = .ok (.lastore, 1) := by decide +kernel
theorem dX4_digest_91 : decode cX4_digest 91 = .ok (.dup, 1) := by decide +kernel
theorem dX4_digest_92 : decode cX4_digest 92 = .ok (.bipush 10, 2) := by decide +kernel
theorem dX4_digest_94 : decode cX4_digest 94 = .ok (.aload_n 0, 1) := by decide +kernel
theorem dX4_digest_95 : decode cX4_digest 95 = .ok (.invokevirtual 166, 3) := by decide +kernel
theorem dX4_digest_98 : decode cX4_digest 98 = .ok (.i2l, 1) := by decide +kernel
theorem dX4_digest_99 : decode cX4_digest 99 = .ok (.lastore, 1) := by decide +kernel
theorem dX4_digest_100 : decode cX4_digest 100 = .ok (.dup, 1) := by decide +kernel
theorem dX4_digest_101 : decode cX4_digest 101 = .ok (.bipush 11, 2) := by decide +kernel
theorem dX4_digest_103 : decode cX4_digest 103 = .ok (.aload_n 0, 1) := by decide +kernel
theorem dX4_digest_104 : decode cX4_digest 104 = .ok (.invokevirtual 182, 3) := by decide +kernel
theorem dX4_digest_107 : decode cX4_digest 107 = .ok (.i2l, 1) := by decide +kernel
theorem dX4_digest_108 : decode cX4_digest 108 = .ok (.lastore, 1) := by decide +kernel
theorem dX4_digest_109 : decode cX4_digest 109 = .ok (.dup, 1) := by decide +kernel
theorem dX4_digest_110 : decode cX4_digest 110 = .ok (.bipush 12, 2) := by decide +kernel
theorem dX4_digest_112 : decode cX4_digest 112 = .ok (.aload_n 0, 1) := by decide +kernel
theorem dX4_digest_113 : decode cX4_digest 113 = .ok (.iconst 3, 1) := by decide +kernel
theorem dX4_digest_114 : decode cX4_digest 114 = .ok (.invokevirtual 175, 3) := by decide +kernel
theorem dX4_digest_117 : decode cX4_digest 117 = .ok (.lastore, 1) := by decide +kernel
theorem dX4_digest_118 : decode cX4_digest 118 = .ok (.dup, 1) := by decide +kernel
theorem dX4_digest_119 : decode cX4_digest 119 = .ok (.bipush 13, 2) := by decide +kernel
theorem dX4_digest_121 : decode cX4_digest 121 = .ok (.aload_n 0, 1) := by decide +kernel
theorem dX4_digest_122 : decode cX4_digest 122 = .ok (.iconst 3, 1) := by decide +kernel
theorem dX4_digest_123 : decode cX4_digest 123 = .ok (.aload_n 0, 1) := by decide +kernel
theorem dX4_digest_124 : decode cX4_digest 124 = .ok (.getfield 16, 3) := by decide +kernel
theorem dX4_digest_127 : decode cX4_digest 127 = .ok (.invokevirtual 172, 3) := by decide +kernel
theorem dX4_digest_130 : decode cX4_digest 130 = .ok (.i2l, 1) := by decide +kernel
theorem dX4_digest_131 : decode cX4_digest 131 = .ok (.lastore, 1) := by decide +kernel
theorem dX4_digest_132 : decode cX4_digest 132 = .ok (.dup, 1) := by decide +kernel
theorem dX4_digest_133 : decode cX4_digest 133 = .ok (.bipush 14, 2) := by decide +kernel
theorem dX4_digest_135 : decode cX4_digest 135 = .ok (.aload_n 0, 1) := by decide +kernel
theorem dX4_digest_136 : decode cX4_digest 136 = .ok (.iconst 5, 1) := by decide +kernel
theorem dX4_digest_137 : decode cX4_digest 137 = .ok (.invokevirtual 185, 3) := by decide +kernel
theorem dX4_digest_140 : decode cX4_digest 140 = .ok (.i2l, 1) := by decide +kernel
theorem dX4_digest_141 : decode cX4_digest 141 = .ok (.lastore, 1) := by decide +kernel
theorem dX4_digest_142 : decode cX4_digest 142 = .ok (.astore_n 1, 1) := by decide +kernel
theorem dX4_digest_143 : decode cX4_digest 143 = .ok (.ldc2_w 191, 3) := by decide +kernel
theorem dX4_digest_146 : decode cX4_digest 146 = .ok (.lstore_n 2, 1) := by decide +kernel
theorem dX4_digest_147 : decode cX4_digest 147 = .ok (.aload_n 1, 1) := by decide +kernel
theorem dX4_digest_148 : decode cX4_digest 148 = .ok (.astore 4, 2) := by decide +kernel
theorem dX4_digest_150 : decode cX4_digest 150 = .ok (.aload 4, 2) := by decide +kernel
theorem dX4_digest_152 : decode cX4_digest 152 = .ok (.arraylength, 1) := by decide +kernel
theorem dX4_digest_153 : decode cX4_digest 153 = .ok (.istore 5, 2) := by decide +kernel
theorem dX4_digest_155 : decode cX4_digest 155 = .ok (.iconst 0, 1) := by decide +kernel
theorem dX4_digest_156 : decode cX4_digest 156 = .ok (.istore 6, 2) := by decide +kernel
theorem dX4_digest_158 : decode cX4_digest 158 = .ok (.iload 6, 2) := by decide +kernel
theorem dX4_digest_160 : decode cX4_digest 160 = .ok (.iload 5, 2) := by decide +kernel
theorem dX4_digest_162 : decode cX4_digest 162 = .ok (.if_icmp .ge 25, 3) := by decide +kernel
theorem dX4_digest_165 : decode cX4_digest 165 = .ok (.aload 4, 2) := by decide +kernel
theorem dX4_digest_167 : decode cX4_digest 167 = .ok (.iload 6, 2) := by decide +kernel
theorem dX4_digest_169 : decode cX4_digest 169 = .ok (.laload, 1) := by decide +kernel
theorem dX4_digest_170 : decode cX4_digest 170 = .ok (.lstore 7, 2) := by decide +kernel
theorem dX4_digest_172 : decode cX4_digest 172 = .ok (.lload_n 2, 1) := by decide +kernel
theorem dX4_digest_173 : decode cX4_digest 173 = .ok (.ldc2_w 193, 3) := by decide +kernel
theorem dX4_digest_176 : decode cX4_digest 176 = .ok (.lmul, 1) := by decide +kernel
theorem dX4_digest_177 : decode cX4_digest 177 = .ok (.lload 7, 2) := by decide +kernel
theorem dX4_digest_179 : decode cX4_digest 179 = .ok (.ladd, 1) := by decide +kernel
theorem dX4_digest_180 : decode cX4_digest 180 = .ok (.lstore_n 2, 1) := by decide +kernel
theorem dX4_digest_181 : decode cX4_digest 181 = .ok (.iinc 6 1, 3) := by decide +kernel
theorem dX4_digest_184 : decode cX4_digest 184 = .ok (.goto (-26), 3) := by decide +kernel
theorem dX4_digest_187 : decode cX4_digest 187 = .ok (.iconst 0, 1) := by decide +kernel
theorem dX4_digest_188 : decode cX4_digest 188 = .ok (.istore 4, 2) := by decide +kernel
theorem dX4_digest_190 : decode cX4_digest 190 = .ok (.iload 4, 2) := by decide +kernel
theorem dX4_digest_192 : decode cX4_digest 192 = .ok (.aload_n 0, 1) := by decide +kernel
theorem dX4_digest_193 : decode cX4_digest 193 = .ok (.getfield 9, 3) := by decide +kernel
theorem dX4_digest_196 : decode cX4_digest 196 = .ok (.if_icmp .ge 105, 3) := by decide +kernel
theorem dX4_digest_199 : decode cX4_digest 199 = .ok (.lload_n 2, 1) := by decide +kernel
theorem dX4_digest_200 : decode cX4_digest 200 = .ok (.ldc2_w 193, 3) := by decide +kernel
theorem dX4_digest_203 : decode cX4_digest 203 = .ok (.lmul, 1) := by decide +kernel
theorem dX4_digest_204 : decode cX4_digest 204 = .ok (.aload_n 0, 1) := by decide +kernel
theorem dX4_digest_205 : decode cX4_digest 205 = .ok (.iload 4, 2) := by decide +kernel
theorem dX4_digest_207 : decode cX4_digest 207 = .ok (.invokevirtual 128, 3) := by decide +kernel
theorem dX4_digest_210 : decode cX4_digest 210 = .ok (.ladd, 1) := by decide +kernel
theorem dX4_digest_211 : decode cX4_digest 211 = .ok (.ldc2_w 193, 3) := by decide +kernel
theorem dX4_digest_214 : decode cX4_digest 214 = .ok (.lmul, 1) := by decide +kernel
theorem dX4_digest_215 : decode cX4_digest 215 = .ok (.aload_n 0, 1) := by decide +kernel
theorem dX4_digest_216 : decode cX4_digest 216 = .ok (.iload 4, 2) := by decide +kernel
theorem dX4_digest_218 : decode cX4_digest 218 = .ok (.invokevirtual 145, 3) := by decide +kernel
theorem dX4_digest_221 : decode cX4_digest 221 = .ok (.ladd, 1) := by decide +kernel
theorem dX4_digest_222 : decode cX4_digest 222 = .ok (.ldc2_w 193, 3) := by decide +kernel
theorem dX4_digest_225 : decode cX4_digest 225 = .ok (.lmul, 1) := by decide +kernel
theorem dX4_digest_226 : decode cX4_digest 226 = .ok (.aload_n 0, 1) := by decide +kernel
theorem dX4_digest_227 : decode cX4_digest 227 = .ok (.iload 4, 2) := by decide +kernel
theorem dX4_digest_229 : decode cX4_digest 229 = .ok (.invokevirtual 154, 3) := by decide +kernel
theorem dX4_digest_232 : decode cX4_digest 232 = .ok (.i2l, 1) := by decide +kernel
theorem dX4_digest_233 : decode cX4_digest 233 = .ok (.ladd, 1) := by decide +kernel
theorem dX4_digest_234 : decode cX4_digest 234 = .ok (.lstore_n 2, 1) := by decide +kernel
theorem dX4_digest_235 : decode cX4_digest 235 = .ok (.lload_n 2, 1) := by decide +kernel
theorem dX4_digest_236 : decode cX4_digest 236 = .ok (.ldc2_w 193, 3) := by decide +kernel
theorem dX4_digest_239 : decode cX4_digest 239 = .ok (.lmul, 1) := by decide +kernel
theorem dX4_digest_240 : decode cX4_digest 240 = .ok (.aload_n 0, 1) := by decide +kernel
theorem dX4_digest_241 : decode cX4_digest 241 = .ok (.iload 4, 2) := by decide +kernel
theorem dX4_digest_243 : decode cX4_digest 243 = .ok (.invokevirtual 160, 3) := by decide +kernel
theorem dX4_digest_246 : decode cX4_digest 246 = .ok (.i2l, 1) := by decide +kernel
theorem dX4_digest_247 : decode cX4_digest 247 = .ok (.ladd, 1) := by decide +kernel
theorem dX4_digest_248 : decode cX4_digest 248 = .ok (.ldc2_w 193, 3) := by decide +kernel
theorem dX4_digest_251 : decode cX4_digest 251 = .ok (.lmul, 1) := by decide +kernel
theorem dX4_digest_252 : decode cX4_digest 252 = .ok (.aload_n 0, 1) := by decide +kernel
theorem dX4_digest_253 : decode cX4_digest 253 = .ok (.iload 4, 2) := by decide +kernel
theorem dX4_digest_255 : decode cX4_digest 255 = .ok (.invokevirtual 188, 3) := by decide +kernel
theorem dX4_digest_258 : decode cX4_digest 258 = .ok (.i2l, 1) := by decide +kernel
theorem dX4_digest_259 : decode cX4_digest 259 = .ok (.ladd, 1) := by decide +kernel
theorem dX4_digest_260 : decode cX4_digest 260 = .ok (.lstore_n 2, 1) := by decide +kernel
theorem dX4_digest_261 : decode cX4_digest 261 = .ok (.iconst 0, 1) := by decide +kernel
theorem dX4_digest_262 : decode cX4_digest 262 = .ok (.istore 5, 2) := by decide +kernel
theorem dX4_digest_264 : decode cX4_digest 264 = .ok (.iload 5, 2) := by decide +kernel
theorem dX4_digest_266 : decode cX4_digest 266 = .ok (.aload_n 0, 1) := by decide +kernel
theorem dX4_digest_267 : decode cX4_digest 267 = .ok (.getfield 13, 3) := by decide +kernel
theorem dX4_digest_270 : decode cX4_digest 270 = .ok (.if_icmp .ge 25, 3) := by decide +kernel
theorem dX4_digest_273 : decode cX4_digest 273 = .ok (.lload_n 2, 1) := by decide +kernel
theorem dX4_digest_274 : decode cX4_digest 274 = .ok (.ldc2_w 193, 3) := by decide +kernel
theorem dX4_digest_277 : decode cX4_digest 277 = .ok (.lmul, 1) := by decide +kernel
theorem dX4_digest_278 : decode cX4_digest 278 = .ok (.aload_n 0, 1) := by decide +kernel
theorem dX4_digest_279 : decode cX4_digest 279 = .ok (.iload 4, 2) := by decide +kernel
theorem dX4_digest_281 : decode cX4_digest 281 = .ok (.iload 5, 2) := by decide +kernel
theorem dX4_digest_283 : decode cX4_digest 283 = .ok (.invokevirtual 121, 3) := by decide +kernel
theorem dX4_digest_286 : decode cX4_digest 286 = .ok (.i2l, 1) := by decide +kernel
theorem dX4_digest_287 : decode cX4_digest 287 = .ok (.ladd, 1) := by decide +kernel
theorem dX4_digest_288 : decode cX4_digest 288 = .ok (.lstore_n 2, 1) := by decide +kernel
theorem dX4_digest_289 : decode cX4_digest 289 = .ok (.iinc 5 1, 3) := by decide +kernel
theorem dX4_digest_292 : decode cX4_digest 292 = .ok (.goto (-28), 3) := by decide +kernel
theorem dX4_digest_295 : decode cX4_digest 295 = .ok (.iinc 4 1, 3) := by decide +kernel
theorem dX4_digest_298 : decode cX4_digest 298 = .ok (.goto (-108), 3) := by decide +kernel
theorem dX4_digest_301 : decode cX4_digest 301 = .ok (.iconst 0, 1) := by decide +kernel
theorem dX4_digest_302 : decode cX4_digest 302 = .ok (.istore 4, 2) := by decide +kernel
theorem dX4_digest_304 : decode cX4_digest 304 = .ok (.iload 4, 2) := by decide +kernel
theorem dX4_digest_306 : decode cX4_digest 306 = .ok (.aload_n 0, 1) := by decide +kernel
theorem dX4_digest_307 : decode cX4_digest 307 = .ok (.getfield 13, 3) := by decide +kernel
theorem dX4_digest_310 : decode cX4_digest 310 = .ok (.if_icmp .ge 35, 3) := by decide +kernel
theorem dX4_digest_313 : decode cX4_digest 313 = .ok (.lload_n 2, 1) := by decide +kernel
theorem dX4_digest_314 : decode cX4_digest 314 = .ok (.ldc2_w 193, 3) := by decide +kernel
theorem dX4_digest_317 : decode cX4_digest 317 = .ok (.lmul, 1) := by decide +kernel
theorem dX4_digest_318 : decode cX4_digest 318 = .ok (.aload_n 0, 1) := by decide +kernel
theorem dX4_digest_319 : decode cX4_digest 319 = .ok (.getfield 19, 3) := by decide +kernel
theorem dX4_digest_322 : decode cX4_digest 322 = .ok (.iload 4, 2) := by decide +kernel
theorem dX4_digest_324 : decode cX4_digest 324 = .ok (.iaload, 1) := by decide +kernel
theorem dX4_digest_325 : decode cX4_digest 325 = .ok (.i2l, 1) := by decide +kernel
theorem dX4_digest_326 : decode cX4_digest 326 = .ok (.ladd, 1) := by decide +kernel
theorem dX4_digest_327 : decode cX4_digest 327 = .ok (.ldc2_w 193, 3) := by decide +kernel
theorem dX4_digest_330 : decode cX4_digest 330 = .ok (.lmul, 1) := by decide +kernel
theorem dX4_digest_331 : decode cX4_digest 331 = .ok (.aload_n 0, 1) := by decide +kernel
theorem dX4_digest_332 : decode cX4_digest 332 = .ok (.iload 4, 2) := by decide +kernel
theorem dX4_digest_334 : decode cX4_digest 334 = .ok (.invokevirtual 132, 3) := by decide +kernel
theorem dX4_digest_337 : decode cX4_digest 337 = .ok (.ladd, 1) := by decide +kernel
theorem dX4_digest_338 : decode cX4_digest 338 = .ok (.lstore_n 2, 1) := by decide +kernel
theorem dX4_digest_339 : decode cX4_digest 339 = .ok (.iinc 4 1, 3) := by decide +kernel
theorem dX4_digest_342 : decode cX4_digest 342 = .ok (.goto (-38), 3) := by decide +kernel
theorem dX4_digest_345 : decode cX4_digest 345 = .ok (.iconst 0, 1) := by decide +kernel
theorem dX4_digest_346 : decode cX4_digest 346 = .ok (.istore 4, 2) := by decide +kernel
theorem dX4_digest_348 : decode cX4_digest 348 = .ok (.iload 4, 2) := by decide +kernel
theorem dX4_digest_350 : decode cX4_digest 350 = .ok (.aload_n 0, 1) := by decide +kernel
theorem dX4_digest_351 : decode cX4_digest 351 = .ok (.getfield 45, 3) := by decide +kernel
theorem dX4_digest_354 : decode cX4_digest 354 = .ok (.if_icmp .ge 23, 3) := by decide +kernel
theorem dX4_digest_357 : decode cX4_digest 357 = .ok (.lload_n 2, 1) := by decide +kernel
theorem dX4_digest_358 : decode cX4_digest 358 = .ok (.ldc2_w 193, 3) := by decide +kernel
theorem dX4_digest_361 : decode cX4_digest 361 = .ok (.lmul, 1) := by decide +kernel
theorem dX4_digest_362 : decode cX4_digest 362 = .ok (.aload_n 0, 1) := by decide +kernel
theorem dX4_digest_363 : decode cX4_digest 363 = .ok (.iload 4, 2) := by decide +kernel
theorem dX4_digest_365 : decode cX4_digest 365 = .ok (.invokevirtual 169, 3) := by decide +kernel
theorem dX4_digest_368 : decode cX4_digest 368 = .ok (.i2l, 1) := by decide +kernel
theorem dX4_digest_369 : decode cX4_digest 369 = .ok (.ladd, 1) := by decide +kernel
theorem dX4_digest_370 : decode cX4_digest 370 = .ok (.lstore_n 2, 1) := by decide +kernel
theorem dX4_digest_371 : decode cX4_digest 371 = .ok (.iinc 4 1, 3) := by decide +kernel
theorem dX4_digest_374 : decode cX4_digest 374 = .ok (.goto (-26), 3) := by decide +kernel
theorem dX4_digest_377 : decode cX4_digest 377 = .ok (.lload_n 2, 1) := by decide +kernel
theorem dX4_digest_378 : decode cX4_digest 378 = .ok (.lreturn, 1) := by decide +kernel
end
section
theorem dL_lay_0 : decode cL_lay 0 = .ok (.aload_n 3, 1) := by decide +kernel
theorem dL_lay_1 : decode cL_lay 1 = .ok (.iconst 0, 1) := by decide +kernel
theorem dL_lay_2 : decode cL_lay 2 = .ok (.aload_n 0, 1) := by decide +kernel
theorem dL_lay_3 : decode cL_lay 3 = .ok (.iload_n 1, 1) := by decide +kernel
theorem dL_lay_4 : decode cL_lay 4 = .ok (.iload_n 2, 1) := by decide +kernel
theorem dL_lay_5 : decode cL_lay 5 = .ok (.invokevirtual 7, 3) := by decide +kernel
theorem dL_lay_8 : decode cL_lay 8 = .ok (.i2l, 1) := by decide +kernel
theorem dL_lay_9 : decode cL_lay 9 = .ok (.lastore, 1) := by decide +kernel
theorem dL_lay_10 : decode cL_lay 10 = .ok (.goto 7, 3) := by decide +kernel
theorem dL_lay_13 : decode cL_lay 13 = .ok (.astore 4, 2) := by decide +kernel
theorem dL_lay_15 : decode cL_lay 15 = .ok (.iconst 1, 1) := by decide +kernel
theorem dL_lay_16 : decode cL_lay 16 = .ok (.ireturn, 1) := by decide +kernel
theorem dL_lay_17 : decode cL_lay 17 = .ok (.iconst 0, 1) := by decide +kernel
theorem dL_lay_18 : decode cL_lay 18 = .ok (.ireturn, 1) := by decide +kernel
theorem dL_rain_0 : decode cL_rain 0 = .ok (.aload 4, 2) := by decide +kernel
theorem dL_rain_2 : decode cL_rain 2 = .ok (.iconst 0, 1) := by decide +kernel
theorem dL_rain_3 : decode cL_rain 3 = .ok (.aload_n 0, 1) := by decide +kernel
theorem dL_rain_4 : decode cL_rain 4 = .ok (.iload_n 1, 1) := by decide +kernel
theorem dL_rain_5 : decode cL_rain 5 = .ok (.iload_n 2, 1) := by decide +kernel
theorem dL_rain_6 : decode cL_rain 6 = .ok (.iload_n 3, 1) := by decide +kernel
theorem dL_rain_7 : decode cL_rain 7 = .ok (.invokevirtual 15, 3) := by decide +kernel
theorem dL_rain_10 : decode cL_rain 10 = .ok (.i2l, 1) := by decide +kernel
theorem dL_rain_11 : decode cL_rain 11 = .ok (.lastore, 1) := by decide +kernel
theorem dL_rain_12 : decode cL_rain 12 = .ok (.goto 11, 3) := by decide +kernel
theorem dL_rain_15 : decode cL_rain 15 = .ok (.astore 5, 2) := by decide +kernel
theorem dL_rain_17 : decode cL_rain 17 = .ok (.iconst 1, 1) := by decide +kernel
theorem dL_rain_18 : decode cL_rain 18 = .ok (.ireturn, 1) := by decide +kernel
theorem dL_rain_19 : decode cL_rain 19 = .ok (.astore 5, 2) := by decide +kernel
theorem dL_rain_21 : decode cL_rain 21 = .ok (.iconst 2, 1) := by decide +kernel
theorem dL_rain_22 : decode cL_rain 22 = .ok (.ireturn, 1) := by decide +kernel
theorem dL_rain_23 : decode cL_rain 23 = .ok (.iconst 0, 1) := by decide +kernel
theorem dL_rain_24 : decode cL_rain 24 = .ok (.ireturn, 1) := by decide +kernel
theorem dL_splash_0 : decode cL_splash 0 = .ok (.aload 6, 2) := by decide +kernel
theorem dL_splash_2 : decode cL_splash 2 = .ok (.iconst 0, 1) := by decide +kernel
theorem dL_splash_3 : decode cL_splash 3 = .ok (.aload_n 0, 1) := by decide +kernel
theorem dL_splash_4 : decode cL_splash 4 = .ok (.iload_n 1, 1) := by decide +kernel
theorem dL_splash_5 : decode cL_splash 5 = .ok (.iload_n 2, 1) := by decide +kernel
theorem dL_splash_6 : decode cL_splash 6 = .ok (.iload_n 3, 1) := by decide +kernel
theorem dL_splash_7 : decode cL_splash 7 = .ok (.iload 4, 2) := by decide +kernel
theorem dL_splash_9 : decode cL_splash 9 = .ok (.iload 5, 2) := by decide +kernel
theorem dL_splash_11 : decode cL_splash 11 = .ok (.invokevirtual 21, 3) := by decide +kernel
theorem dL_splash_14 : decode cL_splash 14 = .ok (.i2l, 1) := by decide +kernel
theorem dL_splash_15 : decode cL_splash 15 = .ok (.lastore, 1) := by decide +kernel
theorem dL_splash_16 : decode cL_splash 16 = .ok (.goto 11, 3) := by decide +kernel
theorem dL_splash_19 : decode cL_splash 19 = .ok (.astore 7, 2) := by decide +kernel
theorem dL_splash_21 : decode cL_splash 21 = .ok (.iconst 1, 1) := by decide +kernel
theorem dL_splash_22 : decode cL_splash 22 = .ok (.ireturn, 1) := by decide +kernel
theorem dL_splash_23 : decode cL_splash 23 = .ok (.astore 7, 2) := by decide +kernel
theorem dL_splash_25 : decode cL_splash 25 = .ok (.iconst 2, 1) := by decide +kernel
theorem dL_splash_26 : decode cL_splash 26 = .ok (.ireturn, 1) := by decide +kernel
theorem dL_splash_27 : decode cL_splash 27 = .ok (.iconst 0, 1) := by decide +kernel
theorem dL_splash_28 : decode cL_splash 28 = .ok (.ireturn, 1) := by decide +kernel
theorem dL_swap_0 : decode cL_swap 0 = .ok (.aload_n 3, 1) := by decide +kernel
theorem dL_swap_1 : decode cL_swap 1 = .ok (.iconst 0, 1) := by decide +kernel
theorem dL_swap_2 : decode cL_swap 2 = .ok (.aload_n 0, 1) := by decide +kernel
theorem dL_swap_3 : decode cL_swap 3 = .ok (.iload_n 1, 1) := by decide +kernel
theorem dL_swap_4 : decode cL_swap 4 = .ok (.iload_n 2, 1) := by decide +kernel
theorem dL_swap_5 : decode cL_swap 5 = .ok (.invokevirtual 25, 3) := by decide +kernel
theorem dL_swap_8 : decode cL_swap 8 = .ok (.i2l, 1) := by decide +kernel
theorem dL_swap_9 : decode cL_swap 9 = .ok (.lastore, 1) := by decide +kernel
theorem dL_swap_10 : decode cL_swap 10 = .ok (.goto 7, 3) := by decide +kernel
theorem dL_swap_13 : decode cL_swap 13 = .ok (.astore 4, 2) := by decide +kernel
theorem dL_swap_15 : decode cL_swap 15 = .ok (.iconst 1, 1) := by decide +kernel
theorem dL_swap_16 : decode cL_swap 16 = .ok (.ireturn, 1) := by decide +kernel
theorem dL_swap_17 : decode cL_swap 17 = .ok (.iconst 0, 1) := by decide +kernel
theorem dL_swap_18 : decode cL_swap 18 = .ok (.ireturn, 1) := by decide +kernel
theorem dL_turn_0 : decode cL_turn 0 = .ok (.aload_n 2, 1) := by decide +kernel
theorem dL_turn_1 : decode cL_turn 1 = .ok (.iconst 0, 1) := by decide +kernel
theorem dL_turn_2 : decode cL_turn 2 = .ok (.aload_n 0, 1) := by decide +kernel
theorem dL_turn_3 : decode cL_turn 3 = .ok (.iload_n 1, 1) := by decide +kernel
theorem dL_turn_4 : decode cL_turn 4 = .ok (.invokevirtual 28, 3) := by decide +kernel
theorem dL_turn_7 : decode cL_turn 7 = .ok (.i2l, 1) := by decide +kernel
theorem dL_turn_8 : decode cL_turn 8 = .ok (.lastore, 1) := by decide +kernel
theorem dL_turn_9 : decode cL_turn 9 = .ok (.goto 6, 3) := by decide +kernel
theorem dL_turn_12 : decode cL_turn 12 = .ok (.astore_n 3, 1) := by decide +kernel
theorem dL_turn_13 : decode cL_turn 13 = .ok (.iconst 1, 1) := by decide +kernel
theorem dL_turn_14 : decode cL_turn 14 = .ok (.ireturn, 1) := by decide +kernel
theorem dL_turn_15 : decode cL_turn 15 = .ok (.iconst 0, 1) := by decide +kernel
theorem dL_turn_16 : decode cL_turn 16 = .ok (.ireturn, 1) := by decide +kernel
theorem dL_bail_0 : decode cL_bail 0 = .ok (.aload_n 3, 1) := by decide +kernel
theorem dL_bail_1 : decode cL_bail 1 = .ok (.iconst 0, 1) := by decide +kernel
theorem dL_bail_2 : decode cL_bail 2 = .ok (.aload_n 0, 1) := by decide +kernel
theorem dL_bail_3 : decode cL_bail 3 = .ok (.iload_n 1, 1) := by decide +kernel
theorem dL_bail_4 : decode cL_bail 4 = .ok (.iload_n 2, 1) := by decide +kernel
theorem dL_bail_5 : decode cL_bail 5 = .ok (.invokevirtual 32, 3) := by decide +kernel
theorem dL_bail_8 : decode cL_bail 8 = .ok (.i2l, 1) := by decide +kernel
theorem dL_bail_9 : decode cL_bail 9 = .ok (.lastore, 1) := by decide +kernel
theorem dL_bail_10 : decode cL_bail 10 = .ok (.goto 11, 3) := by decide +kernel
theorem dL_bail_13 : decode cL_bail 13 = .ok (.astore 4, 2) := by decide +kernel
theorem dL_bail_15 : decode cL_bail 15 = .ok (.iconst 1, 1) := by decide +kernel
theorem dL_bail_16 : decode cL_bail 16 = .ok (.ireturn, 1) := by decide +kernel
theorem dL_bail_17 : decode cL_bail 17 = .ok (.astore 4, 2) := by decide +kernel
theorem dL_bail_19 : decode cL_bail 19 = .ok (.iconst 2, 1) := by decide +kernel
theorem dL_bail_20 : decode cL_bail 20 = .ok (.ireturn, 1) := by decide +kernel
theorem dL_bail_21 : decode cL_bail 21 = .ok (.iconst 0, 1) := by decide +kernel
theorem dL_bail_22 : decode cL_bail 22 = .ok (.ireturn, 1) := by decide +kernel
theorem dL_passHours_0 : decode cL_passHours 0 = .ok (.aload_n 2, 1) := by decide +kernel
theorem dL_passHours_1 : decode cL_passHours 1 = .ok (.iconst 0, 1) := by decide +kernel
theorem dL_passHours_2 : decode cL_passHours 2 = .ok (.aload_n 0, 1) := by decide +kernel
theorem dL_passHours_3 : decode cL_passHours 3 = .ok (.iload_n 1, 1) := by decide +kernel
theorem dL_passHours_4 : decode cL_passHours 4 = .ok (.invokevirtual 35, 3) := by decide +kernel
theorem dL_passHours_7 : decode cL_passHours 7 = .ok (.i2l, 1) := by decide +kernel
theorem dL_passHours_8 : decode cL_passHours 8 = .ok (.lastore, 1) := by decide +kernel
theorem dL_passHours_9 : decode cL_passHours 9 = .ok (.goto 6, 3) := by decide +kernel
theorem dL_passHours_12 : decode cL_passHours 12 = .ok (.astore_n 3, 1) := by decide +kernel
theorem dL_passHours_13 : decode cL_passHours 13 = .ok (.iconst 1, 1) := by decide +kernel
theorem dL_passHours_14 : decode cL_passHours 14 = .ok (.ireturn, 1) := by decide +kernel
theorem dL_passHours_15 : decode cL_passHours 15 = .ok (.iconst 0, 1) := by decide +kernel
theorem dL_passHours_16 : decode cL_passHours 16 = .ok (.ireturn, 1) := by decide +kernel
theorem dL_mark_0 : decode cL_mark 0 = .ok (.aload_n 1, 1) := by decide +kernel
theorem dL_mark_1 : decode cL_mark 1 = .ok (.iconst 0, 1) := by decide +kernel
theorem dL_mark_2 : decode cL_mark 2 = .ok (.aload_n 0, 1) := by decide +kernel
theorem dL_mark_3 : decode cL_mark 3 = .ok (.invokevirtual 38, 3) := by decide +kernel
theorem dL_mark_6 : decode cL_mark 6 = .ok (.i2l, 1) := by decide +kernel
theorem dL_mark_7 : decode cL_mark 7 = .ok (.lastore, 1) := by decide +kernel
theorem dL_mark_8 : decode cL_mark 8 = .ok (.goto 6, 3) := by decide +kernel
theorem dL_mark_11 : decode cL_mark 11 = .ok (.astore_n 2, 1) := by decide +kernel
theorem dL_mark_12 : decode cL_mark 12 = .ok (.iconst 1, 1) := by decide +kernel
theorem dL_mark_13 : decode cL_mark 13 = .ok (.ireturn, 1) := by decide +kernel
theorem dL_mark_14 : decode cL_mark 14 = .ok (.iconst 0, 1) := by decide +kernel
theorem dL_mark_15 : decode cL_mark 15 = .ok (.ireturn, 1) := by decide +kernel
theorem dL_back_0 : decode cL_back 0 = .ok (.aload_n 2, 1) := by decide +kernel
theorem dL_back_1 : decode cL_back 1 = .ok (.iconst 0, 1) := by decide +kernel
theorem dL_back_2 : decode cL_back 2 = .ok (.aload_n 0, 1) := by decide +kernel
theorem dL_back_3 : decode cL_back 3 = .ok (.iload_n 1, 1) := by decide +kernel
theorem dL_back_4 : decode cL_back 4 = .ok (.invokevirtual 44, 3) := by decide +kernel
theorem dL_back_7 : decode cL_back 7 = .ok (.i2l, 1) := by decide +kernel
theorem dL_back_8 : decode cL_back 8 = .ok (.lastore, 1) := by decide +kernel
theorem dL_back_9 : decode cL_back 9 = .ok (.goto 6, 3) := by decide +kernel
theorem dL_back_12 : decode cL_back 12 = .ok (.astore_n 3, 1) := by decide +kernel
theorem dL_back_13 : decode cL_back 13 = .ok (.iconst 1, 1) := by decide +kernel
theorem dL_back_14 : decode cL_back 14 = .ok (.ireturn, 1) := by decide +kernel
theorem dL_back_15 : decode cL_back 15 = .ok (.iconst 0, 1) := by decide +kernel
theorem dL_back_16 : decode cL_back 16 = .ok (.ireturn, 1) := by decide +kernel
theorem dL_undo_0 : decode cL_undo 0 = .ok (.aload_n 1, 1) := by decide +kernel
theorem dL_undo_1 : decode cL_undo 1 = .ok (.iconst 0, 1) := by decide +kernel
theorem dL_undo_2 : decode cL_undo 2 = .ok (.aload_n 0, 1) := by decide +kernel
theorem dL_undo_3 : decode cL_undo 3 = .ok (.invokevirtual 47, 3) := by decide +kernel
theorem dL_undo_6 : decode cL_undo 6 = .ok (.i2l, 1) := by decide +kernel
theorem dL_undo_7 : decode cL_undo 7 = .ok (.lastore, 1) := by decide +kernel
theorem dL_undo_8 : decode cL_undo 8 = .ok (.goto 6, 3) := by decide +kernel
theorem dL_undo_11 : decode cL_undo 11 = .ok (.astore_n 2, 1) := by decide +kernel
theorem dL_undo_12 : decode cL_undo 12 = .ok (.iconst 1, 1) := by decide +kernel
theorem dL_undo_13 : decode cL_undo 13 = .ok (.ireturn, 1) := by decide +kernel
theorem dL_undo_14 : decode cL_undo 14 = .ok (.iconst 0, 1) := by decide +kernel
theorem dL_undo_15 : decode cL_undo 15 = .ok (.ireturn, 1) := by decide +kernel
theorem dL_setSun_0 : decode cL_setSun 0 = .ok (.aload_n 2, 1) := by decide +kernel
theorem dL_setSun_1 : decode cL_setSun 1 = .ok (.iconst 0, 1) := by decide +kernel
theorem dL_setSun_2 : decode cL_setSun 2 = .ok (.aload_n 0, 1) := by decide +kernel
theorem dL_setSun_3 : decode cL_setSun 3 = .ok (.iload_n 1, 1) := by decide +kernel
theorem dL_setSun_4 : decode cL_setSun 4 = .ok (.invokevirtual 50, 3) := by decide +kernel
theorem dL_setSun_7 : decode cL_setSun 7 = .ok (.i2l, 1) := by decide +kernel
theorem dL_setSun_8 : decode cL_setSun 8 = .ok (.lastore, 1) := by decide +kernel
theorem dL_setSun_9 : decode cL_setSun 9 = .ok (.goto 6, 3) := by decide +kernel
theorem dL_setSun_12 : decode cL_setSun 12 = .ok (.astore_n 3, 1) := by decide +kernel
theorem dL_setSun_13 : decode cL_setSun 13 = .ok (.iconst 1, 1) := by decide +kernel
theorem dL_setSun_14 : decode cL_setSun 14 = .ok (.ireturn, 1) := by decide +kernel
theorem dL_setSun_15 : decode cL_setSun 15 = .ok (.iconst 0, 1) := by decide +kernel
theorem dL_setSun_16 : decode cL_setSun 16 = .ok (.ireturn, 1) := by decide +kernel
theorem dL_setEdge_0 : decode cL_setEdge 0 = .ok (.aload_n 3, 1) := by decide +kernel
theorem dL_setEdge_1 : decode cL_setEdge 1 = .ok (.iconst 0, 1) := by decide +kernel
theorem dL_setEdge_2 : decode cL_setEdge 2 = .ok (.aload_n 0, 1) := by decide +kernel
theorem dL_setEdge_3 : decode cL_setEdge 3 = .ok (.iload_n 1, 1) := by decide +kernel
theorem dL_setEdge_4 : decode cL_setEdge 4 = .ok (.iload_n 2, 1) := by decide +kernel
theorem dL_setEdge_5 : decode cL_setEdge 5 = .ok (.invokevirtual 53, 3) := by decide +kernel
theorem dL_setEdge_8 : decode cL_setEdge 8 = .ok (.i2l, 1) := by decide +kernel
theorem dL_setEdge_9 : decode cL_setEdge 9 = .ok (.lastore, 1) := by decide +kernel
theorem dL_setEdge_10 : decode cL_setEdge 10 = .ok (.goto 11, 3) := by decide +kernel
theorem dL_setEdge_13 : decode cL_setEdge 13 = .ok (.astore 4, 2) := by decide +kernel
theorem dL_setEdge_15 : decode cL_setEdge 15 = .ok (.iconst 1, 1) := by decide +kernel
theorem dL_setEdge_16 : decode cL_setEdge 16 = .ok (.ireturn, 1) := by decide +kernel
theorem dL_setEdge_17 : decode cL_setEdge 17 = .ok (.astore 4, 2) := by decide +kernel
theorem dL_setEdge_19 : decode cL_setEdge 19 = .ok (.iconst 2, 1) := by decide +kernel
theorem dL_setEdge_20 : decode cL_setEdge 20 = .ok (.ireturn, 1) := by decide +kernel
theorem dL_setEdge_21 : decode cL_setEdge 21 = .ok (.iconst 0, 1) := by decide +kernel
theorem dL_setEdge_22 : decode cL_setEdge 22 = .ok (.ireturn, 1) := by decide +kernel
theorem dL_edgeOf_0 : decode cL_edgeOf 0 = .ok (.aload_n 2, 1) := by decide +kernel
theorem dL_edgeOf_1 : decode cL_edgeOf 1 = .ok (.iconst 0, 1) := by decide +kernel
theorem dL_edgeOf_2 : decode cL_edgeOf 2 = .ok (.aload_n 0, 1) := by decide +kernel
theorem dL_edgeOf_3 : decode cL_edgeOf 3 = .ok (.iload_n 1, 1) := by decide +kernel
theorem dL_edgeOf_4 : decode cL_edgeOf 4 = .ok (.invokevirtual 56, 3) := by decide +kernel
theorem dL_edgeOf_7 : decode cL_edgeOf 7 = .ok (.i2l, 1) := by decide +kernel
theorem dL_edgeOf_8 : decode cL_edgeOf 8 = .ok (.lastore, 1) := by decide +kernel
theorem dL_edgeOf_9 : decode cL_edgeOf 9 = .ok (.goto 6, 3) := by decide +kernel
theorem dL_edgeOf_12 : decode cL_edgeOf 12 = .ok (.astore_n 3, 1) := by decide +kernel
theorem dL_edgeOf_13 : decode cL_edgeOf 13 = .ok (.iconst 1, 1) := by decide +kernel
theorem dL_edgeOf_14 : decode cL_edgeOf 14 = .ok (.ireturn, 1) := by decide +kernel
theorem dL_edgeOf_15 : decode cL_edgeOf 15 = .ok (.iconst 0, 1) := by decide +kernel
theorem dL_edgeOf_16 : decode cL_edgeOf 16 = .ok (.ireturn, 1) := by decide +kernel
theorem dL_levelAt_0 : decode cL_levelAt 0 = .ok (.aload_n 3, 1) := by decide +kernel
theorem dL_levelAt_1 : decode cL_levelAt 1 = .ok (.iconst 0, 1) := by decide +kernel
theorem dL_levelAt_2 : decode cL_levelAt 2 = .ok (.aload_n 0, 1) := by decide +kernel
theorem dL_levelAt_3 : decode cL_levelAt 3 = .ok (.iload_n 1, 1) := by decide +kernel
theorem dL_levelAt_4 : decode cL_levelAt 4 = .ok (.iload_n 2, 1) := by decide +kernel
theorem dL_levelAt_5 : decode cL_levelAt 5 = .ok (.invokevirtual 59, 3) := by decide +kernel
theorem dL_levelAt_8 : decode cL_levelAt 8 = .ok (.i2l, 1) := by decide +kernel
theorem dL_levelAt_9 : decode cL_levelAt 9 = .ok (.lastore, 1) := by decide +kernel
theorem dL_levelAt_10 : decode cL_levelAt 10 = .ok (.goto 7, 3) := by decide +kernel
theorem dL_levelAt_13 : decode cL_levelAt 13 = .ok (.astore 4, 2) := by decide +kernel
theorem dL_levelAt_15 : decode cL_levelAt 15 = .ok (.iconst 1, 1) := by decide +kernel
theorem dL_levelAt_16 : decode cL_levelAt 16 = .ok (.ireturn, 1) := by decide +kernel
theorem dL_levelAt_17 : decode cL_levelAt 17 = .ok (.iconst 0, 1) := by decide +kernel
theorem dL_levelAt_18 : decode cL_levelAt 18 = .ok (.ireturn, 1) := by decide +kernel
theorem dL_sumOf_0 : decode cL_sumOf 0 = .ok (.aload 5, 2) := by decide +kernel
theorem dL_sumOf_2 : decode cL_sumOf 2 = .ok (.iconst 0, 1) := by decide +kernel
theorem dL_sumOf_3 : decode cL_sumOf 3 = .ok (.aload_n 0, 1) := by decide +kernel
theorem dL_sumOf_4 : decode cL_sumOf 4 = .ok (.iload_n 1, 1) := by decide +kernel
theorem dL_sumOf_5 : decode cL_sumOf 5 = .ok (.iload_n 2, 1) := by decide +kernel
theorem dL_sumOf_6 : decode cL_sumOf 6 = .ok (.iload_n 3, 1) := by decide +kernel
theorem dL_sumOf_7 : decode cL_sumOf 7 = .ok (.iload 4, 2) := by decide +kernel
theorem dL_sumOf_9 : decode cL_sumOf 9 = .ok (.invokevirtual 62, 3) := by decide +kernel
theorem dL_sumOf_12 : decode cL_sumOf 12 = .ok (.lastore, 1) := by decide +kernel
theorem dL_sumOf_13 : decode cL_sumOf 13 = .ok (.goto 11, 3) := by decide +kernel
theorem dL_sumOf_16 : decode cL_sumOf 16 = .ok (.astore 6, 2) := by decide +kernel
theorem dL_sumOf_18 : decode cL_sumOf 18 = .ok (.iconst 1, 1) := by decide +kernel
theorem dL_sumOf_19 : decode cL_sumOf 19 = .ok (.ireturn, 1) := by decide +kernel
theorem dL_sumOf_20 : decode cL_sumOf 20 = .ok (.astore 6, 2) := by decide +kernel
theorem dL_sumOf_22 : decode cL_sumOf 22 = .ok (.iconst 2, 1) := by decide +kernel
theorem dL_sumOf_23 : decode cL_sumOf 23 = .ok (.ireturn, 1) := by decide +kernel
theorem dL_sumOf_24 : decode cL_sumOf 24 = .ok (.iconst 0, 1) := by decide +kernel
theorem dL_sumOf_25 : decode cL_sumOf 25 = .ok (.ireturn, 1) := by decide +kernel
theorem dL_sumTo_0 : decode cL_sumTo 0 = .ok (.aload_n 3, 1) := by decide +kernel
theorem dL_sumTo_1 : decode cL_sumTo 1 = .ok (.iconst 0, 1) := by decide +kernel
theorem dL_sumTo_2 : decode cL_sumTo 2 = .ok (.aload_n 0, 1) := by decide +kernel
theorem dL_sumTo_3 : decode cL_sumTo 3 = .ok (.iload_n 1, 1) := by decide +kernel
theorem dL_sumTo_4 : decode cL_sumTo 4 = .ok (.iload_n 2, 1) := by decide +kernel
theorem dL_sumTo_5 : decode cL_sumTo 5 = .ok (.invokevirtual 66, 3) := by decide +kernel
theorem dL_sumTo_8 : decode cL_sumTo 8 = .ok (.lastore, 1) := by decide +kernel
theorem dL_sumTo_9 : decode cL_sumTo 9 = .ok (.goto 7, 3) := by decide +kernel
theorem dL_sumTo_12 : decode cL_sumTo 12 = .ok (.astore 4, 2) := by decide +kernel
theorem dL_sumTo_14 : decode cL_sumTo 14 = .ok (.iconst 1, 1) := by decide +kernel
theorem dL_sumTo_15 : decode cL_sumTo 15 = .ok (.ireturn, 1) := by decide +kernel
theorem dL_sumTo_16 : decode cL_sumTo 16 = .ok (.iconst 0, 1) := by decide +kernel
theorem dL_sumTo_17 : decode cL_sumTo 17 = .ok (.ireturn, 1) := by decide +kernel
theorem dL_flightSum_0 : decode cL_flightSum 0 = .ok (.aload_n 2, 1) := by decide +kernel
theorem dL_flightSum_1 : decode cL_flightSum 1 = .ok (.iconst 0, 1) := by decide +kernel
theorem dL_flightSum_2 : decode cL_flightSum 2 = .ok (.aload_n 0, 1) := by decide +kernel
theorem dL_flightSum_3 : decode cL_flightSum 3 = .ok (.iload_n 1, 1) := by decide +kernel
theorem dL_flightSum_4 : decode cL_flightSum 4 = .ok (.invokevirtual 70, 3) := by decide +kernel
theorem dL_flightSum_7 : decode cL_flightSum 7 = .ok (.lastore, 1) := by decide +kernel
theorem dL_flightSum_8 : decode cL_flightSum 8 = .ok (.goto 6, 3) := by decide +kernel
theorem dL_flightSum_11 : decode cL_flightSum 11 = .ok (.astore_n 3, 1) := by decide +kernel
theorem dL_flightSum_12 : decode cL_flightSum 12 = .ok (.iconst 1, 1) := by decide +kernel
theorem dL_flightSum_13 : decode cL_flightSum 13 = .ok (.ireturn, 1) := by decide +kernel
theorem dL_flightSum_14 : decode cL_flightSum 14 = .ok (.iconst 0, 1) := by decide +kernel
theorem dL_flightSum_15 : decode cL_flightSum 15 = .ok (.ireturn, 1) := by decide +kernel
theorem dL_stepSum_0 : decode cL_stepSum 0 = .ok (.aload_n 2, 1) := by decide +kernel
theorem dL_stepSum_1 : decode cL_stepSum 1 = .ok (.iconst 0, 1) := by decide +kernel
theorem dL_stepSum_2 : decode cL_stepSum 2 = .ok (.aload_n 0, 1) := by decide +kernel
theorem dL_stepSum_3 : decode cL_stepSum 3 = .ok (.iload_n 1, 1) := by decide +kernel
theorem dL_stepSum_4 : decode cL_stepSum 4 = .ok (.invokevirtual 74, 3) := by decide +kernel
theorem dL_stepSum_7 : decode cL_stepSum 7 = .ok (.lastore, 1) := by decide +kernel
theorem dL_stepSum_8 : decode cL_stepSum 8 = .ok (.goto 6, 3) := by decide +kernel
theorem dL_stepSum_11 : decode cL_stepSum 11 = .ok (.astore_n 3, 1) := by decide +kernel
theorem dL_stepSum_12 : decode cL_stepSum 12 = .ok (.iconst 1, 1) := by decide +kernel
theorem dL_stepSum_13 : decode cL_stepSum 13 = .ok (.ireturn, 1) := by decide +kernel
theorem dL_stepSum_14 : decode cL_stepSum 14 = .ok (.iconst 0, 1) := by decide +kernel
theorem dL_stepSum_15 : decode cL_stepSum 15 = .ok (.ireturn, 1) := by decide +kernel
theorem dL_firstReaching_0 : decode cL_firstReaching 0 = .ok (.aload_n 3, 1) := by decide +kernel
theorem dL_firstReaching_1 : decode cL_firstReaching 1 = .ok (.iconst 0, 1) := by decide +kernel
theorem dL_firstReaching_2 : decode cL_firstReaching 2 = .ok (.aload_n 0, 1) := by decide +kernel
theorem dL_firstReaching_3 : decode cL_firstReaching 3 = .ok (.iload_n 1, 1) := by decide +kernel
theorem dL_firstReaching_4 : decode cL_firstReaching 4 = .ok (.iload_n 2, 1) := by decide +kernel
theorem dL_firstReaching_5 : decode cL_firstReaching 5 = .ok (.invokevirtual 77, 3) := by decide +kernel
theorem dL_firstReaching_8 : decode cL_firstReaching 8 = .ok (.i2l, 1) := by decide +kernel
theorem dL_firstReaching_9 : decode cL_firstReaching 9 = .ok (.lastore, 1) := by decide +kernel
theorem dL_firstReaching_10 : decode cL_firstReaching 10 = .ok (.goto 7, 3) := by decide +kernel
theorem dL_firstReaching_13 : decode cL_firstReaching 13 = .ok (.astore 4, 2) := by decide +kernel
theorem dL_firstReaching_15 : decode cL_firstReaching 15 = .ok (.iconst 1, 1) := by decide +kernel
theorem dL_firstReaching_16 : decode cL_firstReaching 16 = .ok (.ireturn, 1) := by decide +kernel
theorem dL_firstReaching_17 : decode cL_firstReaching 17 = .ok (.iconst 0, 1) := by decide +kernel
theorem dL_firstReaching_18 : decode cL_firstReaching 18 = .ok (.ireturn, 1) := by decide +kernel
theorem dL_bestRun_0 : decode cL_bestRun 0 = .ok (.aload_n 2, 1) := by decide +kernel
theorem dL_bestRun_1 : decode cL_bestRun 1 = .ok (.iconst 0, 1) := by decide +kernel
theorem dL_bestRun_2 : decode cL_bestRun 2 = .ok (.aload_n 0, 1) := by decide +kernel
theorem dL_bestRun_3 : decode cL_bestRun 3 = .ok (.iload_n 1, 1) := by decide +kernel
theorem dL_bestRun_4 : decode cL_bestRun 4 = .ok (.invokevirtual 80, 3) := by decide +kernel
theorem dL_bestRun_7 : decode cL_bestRun 7 = .ok (.lastore, 1) := by decide +kernel
theorem dL_bestRun_8 : decode cL_bestRun 8 = .ok (.goto 6, 3) := by decide +kernel
theorem dL_bestRun_11 : decode cL_bestRun 11 = .ok (.astore_n 3, 1) := by decide +kernel
theorem dL_bestRun_12 : decode cL_bestRun 12 = .ok (.iconst 1, 1) := by decide +kernel
theorem dL_bestRun_13 : decode cL_bestRun 13 = .ok (.ireturn, 1) := by decide +kernel
theorem dL_bestRun_14 : decode cL_bestRun 14 = .ok (.iconst 0, 1) := by decide +kernel
theorem dL_bestRun_15 : decode cL_bestRun 15 = .ok (.ireturn, 1) := by decide +kernel
theorem dL_dryIn_0 : decode cL_dryIn 0 = .ok (.aload 5, 2) := by decide +kernel
theorem dL_dryIn_2 : decode cL_dryIn 2 = .ok (.iconst 0, 1) := by decide +kernel
theorem dL_dryIn_3 : decode cL_dryIn 3 = .ok (.aload_n 0, 1) := by decide +kernel
theorem dL_dryIn_4 : decode cL_dryIn 4 = .ok (.iload_n 1, 1) := by decide +kernel
theorem dL_dryIn_5 : decode cL_dryIn 5 = .ok (.iload_n 2, 1) := by decide +kernel
theorem dL_dryIn_6 : decode cL_dryIn 6 = .ok (.iload_n 3, 1) := by decide +kernel
theorem dL_dryIn_7 : decode cL_dryIn 7 = .ok (.iload 4, 2) := by decide +kernel
theorem dL_dryIn_9 : decode cL_dryIn 9 = .ok (.invokevirtual 83, 3) := by decide +kernel
theorem dL_dryIn_12 : decode cL_dryIn 12 = .ok (.i2l, 1) := by decide +kernel
theorem dL_dryIn_13 : decode cL_dryIn 13 = .ok (.lastore, 1) := by decide +kernel
theorem dL_dryIn_14 : decode cL_dryIn 14 = .ok (.goto 11, 3) := by decide +kernel
theorem dL_dryIn_17 : decode cL_dryIn 17 = .ok (.astore 6, 2) := by decide +kernel
theorem dL_dryIn_19 : decode cL_dryIn 19 = .ok (.iconst 1, 1) := by decide +kernel
theorem dL_dryIn_20 : decode cL_dryIn 20 = .ok (.ireturn, 1) := by decide +kernel
theorem dL_dryIn_21 : decode cL_dryIn 21 = .ok (.astore 6, 2) := by decide +kernel
theorem dL_dryIn_23 : decode cL_dryIn 23 = .ok (.iconst 2, 1) := by decide +kernel
theorem dL_dryIn_24 : decode cL_dryIn 24 = .ok (.ireturn, 1) := by decide +kernel
theorem dL_dryIn_25 : decode cL_dryIn 25 = .ok (.iconst 0, 1) := by decide +kernel
theorem dL_dryIn_26 : decode cL_dryIn 26 = .ok (.ireturn, 1) := by decide +kernel
theorem dL_dryAt_0 : decode cL_dryAt 0 = .ok (.aload_n 2, 1) := by decide +kernel
theorem dL_dryAt_1 : decode cL_dryAt 1 = .ok (.iconst 0, 1) := by decide +kernel
theorem dL_dryAt_2 : decode cL_dryAt 2 = .ok (.aload_n 0, 1) := by decide +kernel
theorem dL_dryAt_3 : decode cL_dryAt 3 = .ok (.iload_n 1, 1) := by decide +kernel
theorem dL_dryAt_4 : decode cL_dryAt 4 = .ok (.invokevirtual 87, 3) := by decide +kernel
theorem dL_dryAt_7 : decode cL_dryAt 7 = .ok (.i2l, 1) := by decide +kernel
theorem dL_dryAt_8 : decode cL_dryAt 8 = .ok (.lastore, 1) := by decide +kernel
theorem dL_dryAt_9 : decode cL_dryAt 9 = .ok (.goto 6, 3) := by decide +kernel
theorem dL_dryAt_12 : decode cL_dryAt 12 = .ok (.astore_n 3, 1) := by decide +kernel
theorem dL_dryAt_13 : decode cL_dryAt 13 = .ok (.iconst 1, 1) := by decide +kernel
theorem dL_dryAt_14 : decode cL_dryAt 14 = .ok (.ireturn, 1) := by decide +kernel
theorem dL_dryAt_15 : decode cL_dryAt 15 = .ok (.iconst 0, 1) := by decide +kernel
theorem dL_dryAt_16 : decode cL_dryAt 16 = .ok (.ireturn, 1) := by decide +kernel
theorem dL_longestDry_0 : decode cL_longestDry 0 = .ok (.aload_n 2, 1) := by decide +kernel
theorem dL_longestDry_1 : decode cL_longestDry 1 = .ok (.iconst 0, 1) := by decide +kernel
theorem dL_longestDry_2 : decode cL_longestDry 2 = .ok (.aload_n 0, 1) := by decide +kernel
theorem dL_longestDry_3 : decode cL_longestDry 3 = .ok (.iload_n 1, 1) := by decide +kernel
theorem dL_longestDry_4 : decode cL_longestDry 4 = .ok (.invokevirtual 90, 3) := by decide +kernel
theorem dL_longestDry_7 : decode cL_longestDry 7 = .ok (.i2l, 1) := by decide +kernel
theorem dL_longestDry_8 : decode cL_longestDry 8 = .ok (.lastore, 1) := by decide +kernel
theorem dL_longestDry_9 : decode cL_longestDry 9 = .ok (.goto 6, 3) := by decide +kernel
theorem dL_longestDry_12 : decode cL_longestDry 12 = .ok (.astore_n 3, 1) := by decide +kernel
theorem dL_longestDry_13 : decode cL_longestDry 13 = .ok (.iconst 1, 1) := by decide +kernel
theorem dL_longestDry_14 : decode cL_longestDry 14 = .ok (.ireturn, 1) := by decide +kernel
theorem dL_longestDry_15 : decode cL_longestDry 15 = .ok (.iconst 0, 1) := by decide +kernel
theorem dL_longestDry_16 : decode cL_longestDry 16 = .ok (.ireturn, 1) := by decide +kernel
theorem dL_lowestIn_0 : decode cL_lowestIn 0 = .ok (.aload 5, 2) := by decide +kernel
theorem dL_lowestIn_2 : decode cL_lowestIn 2 = .ok (.iconst 0, 1) := by decide +kernel
theorem dL_lowestIn_3 : decode cL_lowestIn 3 = .ok (.aload_n 0, 1) := by decide +kernel
theorem dL_lowestIn_4 : decode cL_lowestIn 4 = .ok (.iload_n 1, 1) := by decide +kernel
theorem dL_lowestIn_5 : decode cL_lowestIn 5 = .ok (.iload_n 2, 1) := by decide +kernel
theorem dL_lowestIn_6 : decode cL_lowestIn 6 = .ok (.iload_n 3, 1) := by decide +kernel
theorem dL_lowestIn_7 : decode cL_lowestIn 7 = .ok (.iload 4, 2) := by decide +kernel
theorem dL_lowestIn_9 : decode cL_lowestIn 9 = .ok (.invokevirtual 93, 3) := by decide +kernel
theorem dL_lowestIn_12 : decode cL_lowestIn 12 = .ok (.i2l, 1) := by decide +kernel
theorem dL_lowestIn_13 : decode cL_lowestIn 13 = .ok (.lastore, 1) := by decide +kernel
theorem dL_lowestIn_14 : decode cL_lowestIn 14 = .ok (.goto 11, 3) := by decide +kernel
theorem dL_lowestIn_17 : decode cL_lowestIn 17 = .ok (.astore 6, 2) := by decide +kernel
theorem dL_lowestIn_19 : decode cL_lowestIn 19 = .ok (.iconst 1, 1) := by decide +kernel
theorem dL_lowestIn_20 : decode cL_lowestIn 20 = .ok (.ireturn, 1) := by decide +kernel
theorem dL_lowestIn_21 : decode cL_lowestIn 21 = .ok (.astore 6, 2) := by decide +kernel
theorem dL_lowestIn_23 : decode cL_lowestIn 23 = .ok (.iconst 2, 1) := by decide +kernel
theorem dL_lowestIn_24 : decode cL_lowestIn 24 = .ok (.ireturn, 1) := by decide +kernel
theorem dL_lowestIn_25 : decode cL_lowestIn 25 = .ok (.iconst 0, 1) := by decide +kernel
theorem dL_lowestIn_26 : decode cL_lowestIn 26 = .ok (.ireturn, 1) := by decide +kernel
theorem dL_highestAt_0 : decode cL_highestAt 0 = .ok (.aload_n 2, 1) := by decide +kernel
theorem dL_highestAt_1 : decode cL_highestAt 1 = .ok (.iconst 0, 1) := by decide +kernel
theorem dL_highestAt_2 : decode cL_highestAt 2 = .ok (.aload_n 0, 1) := by decide +kernel
theorem dL_highestAt_3 : decode cL_highestAt 3 = .ok (.iload_n 1, 1) := by decide +kernel
theorem dL_highestAt_4 : decode cL_highestAt 4 = .ok (.invokevirtual 96, 3) := by decide +kernel
theorem dL_highestAt_7 : decode cL_highestAt 7 = .ok (.i2l, 1) := by decide +kernel
theorem dL_highestAt_8 : decode cL_highestAt 8 = .ok (.lastore, 1) := by decide +kernel
theorem dL_highestAt_9 : decode cL_highestAt 9 = .ok (.goto 6, 3) := by decide +kernel
theorem dL_highestAt_12 : decode cL_highestAt 12 = .ok (.astore_n 3, 1) := by decide +kernel
theorem dL_highestAt_13 : decode cL_highestAt 13 = .ok (.iconst 1, 1) := by decide +kernel
theorem dL_highestAt_14 : decode cL_highestAt 14 = .ok (.ireturn, 1) := by decide +kernel
theorem dL_highestAt_15 : decode cL_highestAt 15 = .ok (.iconst 0, 1) := by decide +kernel
theorem dL_highestAt_16 : decode cL_highestAt 16 = .ok (.ireturn, 1) := by decide +kernel
theorem dL_levelInOrder_0 : decode cL_levelInOrder 0 = .ok (.aload_n 2, 1) := by decide +kernel
theorem dL_levelInOrder_1 : decode cL_levelInOrder 1 = .ok (.iconst 0, 1) := by decide +kernel
theorem dL_levelInOrder_2 : decode cL_levelInOrder 2 = .ok (.aload_n 0, 1) := by decide +kernel
theorem dL_levelInOrder_3 : decode cL_levelInOrder 3 = .ok (.iload_n 1, 1) := by decide +kernel
theorem dL_levelInOrder_4 : decode cL_levelInOrder 4 = .ok (.invokevirtual 99, 3) := by decide +kernel
theorem dL_levelInOrder_7 : decode cL_levelInOrder 7 = .ok (.i2l, 1) := by decide +kernel
theorem dL_levelInOrder_8 : decode cL_levelInOrder 8 = .ok (.lastore, 1) := by decide +kernel
theorem dL_levelInOrder_9 : decode cL_levelInOrder 9 = .ok (.goto 6, 3) := by decide +kernel
theorem dL_levelInOrder_12 : decode cL_levelInOrder 12 = .ok (.astore_n 3, 1) := by decide +kernel
theorem dL_levelInOrder_13 : decode cL_levelInOrder 13 = .ok (.iconst 1, 1) := by decide +kernel
theorem dL_levelInOrder_14 : decode cL_levelInOrder 14 = .ok (.ireturn, 1) := by decide +kernel
theorem dL_levelInOrder_15 : decode cL_levelInOrder 15 = .ok (.iconst 0, 1) := by decide +kernel
theorem dL_levelInOrder_16 : decode cL_levelInOrder 16 = .ok (.ireturn, 1) := by decide +kernel
theorem dL_alike_0 : decode cL_alike 0 = .ok (.aload_n 3, 1) := by decide +kernel
theorem dL_alike_1 : decode cL_alike 1 = .ok (.iconst 0, 1) := by decide +kernel
theorem dL_alike_2 : decode cL_alike 2 = .ok (.aload_n 0, 1) := by decide +kernel
theorem dL_alike_3 : decode cL_alike 3 = .ok (.iload_n 1, 1) := by decide +kernel
theorem dL_alike_4 : decode cL_alike 4 = .ok (.iload_n 2, 1) := by decide +kernel
theorem dL_alike_5 : decode cL_alike 5 = .ok (.invokevirtual 102, 3) := by decide +kernel
theorem dL_alike_8 : decode cL_alike 8 = .ok (.i2l, 1) := by decide +kernel
theorem dL_alike_9 : decode cL_alike 9 = .ok (.lastore, 1) := by decide +kernel
theorem dL_alike_10 : decode cL_alike 10 = .ok (.goto 7, 3) := by decide +kernel
theorem dL_alike_13 : decode cL_alike 13 = .ok (.astore 4, 2) := by decide +kernel
theorem dL_alike_15 : decode cL_alike 15 = .ok (.iconst 1, 1) := by decide +kernel
theorem dL_alike_16 : decode cL_alike 16 = .ok (.ireturn, 1) := by decide +kernel
theorem dL_alike_17 : decode cL_alike 17 = .ok (.iconst 0, 1) := by decide +kernel
theorem dL_alike_18 : decode cL_alike 18 = .ok (.ireturn, 1) := by decide +kernel
theorem dL_changedSince_0 : decode cL_changedSince 0 = .ok (.aload_n 2, 1) := by decide +kernel
theorem dL_changedSince_1 : decode cL_changedSince 1 = .ok (.iconst 0, 1) := by decide +kernel
theorem dL_changedSince_2 : decode cL_changedSince 2 = .ok (.aload_n 0, 1) := by decide +kernel
theorem dL_changedSince_3 : decode cL_changedSince 3 = .ok (.iload_n 1, 1) := by decide +kernel
theorem dL_changedSince_4 : decode cL_changedSince 4 = .ok (.invokevirtual 105, 3) := by decide +kernel
theorem dL_changedSince_7 : decode cL_changedSince 7 = .ok (.i2l, 1) := by decide +kernel
theorem dL_changedSince_8 : decode cL_changedSince 8 = .ok (.lastore, 1) := by decide +kernel
theorem dL_changedSince_9 : decode cL_changedSince 9 = .ok (.goto 6, 3) := by decide +kernel
theorem dL_changedSince_12 : decode cL_changedSince 12 = .ok (.astore_n 3, 1) := by decide +kernel
theorem dL_changedSince_13 : decode cL_changedSince 13 = .ok (.iconst 1, 1) := by decide +kernel
theorem dL_changedSince_14 : decode cL_changedSince 14 = .ok (.ireturn, 1) := by decide +kernel
theorem dL_changedSince_15 : decode cL_changedSince 15 = .ok (.iconst 0, 1) := by decide +kernel
theorem dL_changedSince_16 : decode cL_changedSince 16 = .ok (.ireturn, 1) := by decide +kernel
theorem dL_totalIn_0 : decode cL_totalIn 0 = .ok (.aload_n 2, 1) := by decide +kernel
theorem dL_totalIn_1 : decode cL_totalIn 1 = .ok (.iconst 0, 1) := by decide +kernel
theorem dL_totalIn_2 : decode cL_totalIn 2 = .ok (.aload_n 0, 1) := by decide +kernel
theorem dL_totalIn_3 : decode cL_totalIn 3 = .ok (.iload_n 1, 1) := by decide +kernel
theorem dL_totalIn_4 : decode cL_totalIn 4 = .ok (.invokevirtual 108, 3) := by decide +kernel
theorem dL_totalIn_7 : decode cL_totalIn 7 = .ok (.lastore, 1) := by decide +kernel
theorem dL_totalIn_8 : decode cL_totalIn 8 = .ok (.goto 6, 3) := by decide +kernel
theorem dL_totalIn_11 : decode cL_totalIn 11 = .ok (.astore_n 3, 1) := by decide +kernel
theorem dL_totalIn_12 : decode cL_totalIn 12 = .ok (.iconst 1, 1) := by decide +kernel
theorem dL_totalIn_13 : decode cL_totalIn 13 = .ok (.ireturn, 1) := by decide +kernel
theorem dL_totalIn_14 : decode cL_totalIn 14 = .ok (.iconst 0, 1) := by decide +kernel
theorem dL_totalIn_15 : decode cL_totalIn 15 = .ok (.ireturn, 1) := by decide +kernel
theorem dL_goneIn_0 : decode cL_goneIn 0 = .ok (.aload_n 2, 1) := by decide +kernel
theorem dL_goneIn_1 : decode cL_goneIn 1 = .ok (.iconst 0, 1) := by decide +kernel
theorem dL_goneIn_2 : decode cL_goneIn 2 = .ok (.aload_n 0, 1) := by decide +kernel
theorem dL_goneIn_3 : decode cL_goneIn 3 = .ok (.iload_n 1, 1) := by decide +kernel
theorem dL_goneIn_4 : decode cL_goneIn 4 = .ok (.invokevirtual 111, 3) := by decide +kernel
theorem dL_goneIn_7 : decode cL_goneIn 7 = .ok (.i2l, 1) := by decide +kernel
theorem dL_goneIn_8 : decode cL_goneIn 8 = .ok (.lastore, 1) := by decide +kernel
theorem dL_goneIn_9 : decode cL_goneIn 9 = .ok (.goto 6, 3) := by decide +kernel
theorem dL_goneIn_12 : decode cL_goneIn 12 = .ok (.astore_n 3, 1) := by decide +kernel
theorem dL_goneIn_13 : decode cL_goneIn 13 = .ok (.iconst 1, 1) := by decide +kernel
theorem dL_goneIn_14 : decode cL_goneIn 14 = .ok (.ireturn, 1) := by decide +kernel
theorem dL_goneIn_15 : decode cL_goneIn 15 = .ok (.iconst 0, 1) := by decide +kernel
theorem dL_goneIn_16 : decode cL_goneIn 16 = .ok (.ireturn, 1) := by decide +kernel
theorem dL_sunWanted_0 : decode cL_sunWanted 0 = .ok (.aload_n 2, 1) := by decide +kernel
theorem dL_sunWanted_1 : decode cL_sunWanted 1 = .ok (.iconst 0, 1) := by decide +kernel
theorem dL_sunWanted_2 : decode cL_sunWanted 2 = .ok (.aload_n 0, 1) := by decide +kernel
theorem dL_sunWanted_3 : decode cL_sunWanted 3 = .ok (.iload_n 1, 1) := by decide +kernel
theorem dL_sunWanted_4 : decode cL_sunWanted 4 = .ok (.invokevirtual 114, 3) := by decide +kernel
theorem dL_sunWanted_7 : decode cL_sunWanted 7 = .ok (.i2l, 1) := by decide +kernel
theorem dL_sunWanted_8 : decode cL_sunWanted 8 = .ok (.lastore, 1) := by decide +kernel
theorem dL_sunWanted_9 : decode cL_sunWanted 9 = .ok (.goto 6, 3) := by decide +kernel
theorem dL_sunWanted_12 : decode cL_sunWanted 12 = .ok (.astore_n 3, 1) := by decide +kernel
theorem dL_sunWanted_13 : decode cL_sunWanted 13 = .ok (.iconst 1, 1) := by decide +kernel
theorem dL_sunWanted_14 : decode cL_sunWanted 14 = .ok (.ireturn, 1) := by decide +kernel
theorem dL_sunWanted_15 : decode cL_sunWanted 15 = .ok (.iconst 0, 1) := by decide +kernel
theorem dL_sunWanted_16 : decode cL_sunWanted 16 = .ok (.ireturn, 1) := by decide +kernel
theorem dL_bestEdge_0 : decode cL_bestEdge 0 = .ok (.aload_n 3, 1) := by decide +kernel
theorem dL_bestEdge_1 : decode cL_bestEdge 1 = .ok (.iconst 0, 1) := by decide +kernel
theorem dL_bestEdge_2 : decode cL_bestEdge 2 = .ok (.aload_n 0, 1) := by decide +kernel
theorem dL_bestEdge_3 : decode cL_bestEdge 3 = .ok (.iload_n 1, 1) := by decide +kernel
theorem dL_bestEdge_4 : decode cL_bestEdge 4 = .ok (.iload_n 2, 1) := by decide +kernel
theorem dL_bestEdge_5 : decode cL_bestEdge 5 = .ok (.invokevirtual 117, 3) := by decide +kernel
theorem dL_bestEdge_8 : decode cL_bestEdge 8 = .ok (.i2l, 1) := by decide +kernel
theorem dL_bestEdge_9 : decode cL_bestEdge 9 = .ok (.lastore, 1) := by decide +kernel
theorem dL_bestEdge_10 : decode cL_bestEdge 10 = .ok (.goto 11, 3) := by decide +kernel
theorem dL_bestEdge_13 : decode cL_bestEdge 13 = .ok (.astore 4, 2) := by decide +kernel
theorem dL_bestEdge_15 : decode cL_bestEdge 15 = .ok (.iconst 1, 1) := by decide +kernel
theorem dL_bestEdge_16 : decode cL_bestEdge 16 = .ok (.ireturn, 1) := by decide +kernel
theorem dL_bestEdge_17 : decode cL_bestEdge 17 = .ok (.astore 4, 2) := by decide +kernel
theorem dL_bestEdge_19 : decode cL_bestEdge 19 = .ok (.iconst 2, 1) := by decide +kernel
theorem dL_bestEdge_20 : decode cL_bestEdge 20 = .ok (.ireturn, 1) := by decide +kernel
theorem dL_bestEdge_21 : decode cL_bestEdge 21 = .ok (.iconst 0, 1) := by decide +kernel
theorem dL_bestEdge_22 : decode cL_bestEdge 22 = .ok (.ireturn, 1) := by decide +kernel
theorem dL_bestSwap_0 : decode cL_bestSwap 0 = .ok (.aload_n 2, 1) := by decide +kernel
theorem dL_bestSwap_1 : decode cL_bestSwap 1 = .ok (.iconst 0, 1) := by decide +kernel
theorem dL_bestSwap_2 : decode cL_bestSwap 2 = .ok (.aload_n 0, 1) := by decide +kernel
theorem dL_bestSwap_3 : decode cL_bestSwap 3 = .ok (.iload_n 1, 1) := by decide +kernel
theorem dL_bestSwap_4 : decode cL_bestSwap 4 = .ok (.invokevirtual 120, 3) := by decide +kernel
theorem dL_bestSwap_7 : decode cL_bestSwap 7 = .ok (.i2l, 1) := by decide +kernel
theorem dL_bestSwap_8 : decode cL_bestSwap 8 = .ok (.lastore, 1) := by decide +kernel
theorem dL_bestSwap_9 : decode cL_bestSwap 9 = .ok (.goto 6, 3) := by decide +kernel
theorem dL_bestSwap_12 : decode cL_bestSwap 12 = .ok (.astore_n 3, 1) := by decide +kernel
theorem dL_bestSwap_13 : decode cL_bestSwap 13 = .ok (.iconst 1, 1) := by decide +kernel
theorem dL_bestSwap_14 : decode cL_bestSwap 14 = .ok (.ireturn, 1) := by decide +kernel
theorem dL_bestSwap_15 : decode cL_bestSwap 15 = .ok (.iconst 0, 1) := by decide +kernel
theorem dL_bestSwap_16 : decode cL_bestSwap 16 = .ok (.ireturn, 1) := by decide +kernel
theorem dL_law_0 : decode cL_law 0 = .ok (.new 8, 3) := by decide +kernel
theorem dL_law_3 : decode cL_law 3 = .ok (.dup, 1) := by decide +kernel
theorem dL_law_4 : decode cL_law 4 = .ok (.invokespecial 123, 3) := by decide +kernel
theorem dL_law_7 : decode cL_law 7 = .ok (.astore_n 1, 1) := by decide +kernel
theorem dL_law_8 : decode cL_law 8 = .ok (.new 124, 3) := by decide +kernel
theorem dL_law_11 : decode cL_law 11 = .ok (.dup, 1) := by decide +kernel
theorem dL_law_12 : decode cL_law 12 = .ok (.invokespecial 126, 3) := by decide +kernel
theorem dL_law_15 : decode cL_law 15 = .ok (.astore_n 2, 1) := by decide +kernel
theorem dL_law_16 : decode cL_law 16 = .ok (.iconst 1, 1) := by decide +kernel
theorem dL_law_17 : decode cL_law 17 = .ok (.newarray .long, 2) := by decide +kernel
theorem dL_law_19 : decode cL_law 19 = .ok (.astore_n 3, 1) := by decide +kernel
theorem dL_law_20 : decode cL_law 20 = .ok (.iconst 0, 1) := by decide +kernel
theorem dL_law_21 : decode cL_law 21 = .ok (.istore 4, 2) := by decide +kernel
theorem dL_law_23 : decode cL_law 23 = .ok (.iload 4, 2) := by decide +kernel
theorem dL_law_25 : decode cL_law 25 = .ok (.aload_n 0, 1) := by decide +kernel
theorem dL_law_26 : decode cL_law 26 = .ok (.arraylength, 1) := by decide +kernel
theorem dL_law_27 : decode cL_law 27 = .ok (.bipush 6, 2) := by decide +kernel
theorem dL_law_29 : decode cL_law 29 = .ok (.isub, 1) := by decide +kernel
theorem dL_law_30 : decode cL_law 30 = .ok (.if_icmp .gt 2568, 3) := by decide +kernel
theorem dL_law_33 : decode cL_law 33 = .ok (.aload_n 0, 1) := by decide +kernel
theorem dL_law_34 : decode cL_law 34 = .ok (.iload 4, 2) := by decide +kernel
theorem dL_law_36 : decode cL_law 36 = .ok (.iaload, 1) := by decide +kernel
theorem dL_law_37 : decode cL_law 37 = .ok (.bipush 63, 2) := by decide +kernel
theorem dL_law_39 : decode cL_law 39 = .ok (.iand, 1) := by decide +kernel
theorem dL_law_40 : decode cL_law 40 = .ok (.tableswitch 2552 0 47 #[208, 276, 356, 460, 528, 584, 652, 708, 752, 808, 852, 908, 976, 989, 1002, 1015, 1028, 1084, 1097, 1110, 1124, 1192, 1283, 1350, 1405, 1460, 1474, 1542, 1597, 1689, 1702, 1758, 1814, 1827, 1919, 1975, 2000, 2056, 2069, 2137, 2193, 2248, 2304, 2317, 2373, 2441, 2497, 2538], 208) := by decide +kernel
theorem dL_law_248 : decode cL_law 248 = .ok (.aload_n 1, 1) := by decide +kernel
theorem dL_law_249 : decode cL_law 249 = .ok (.aload_n 0, 1) := by decide +kernel
theorem dL_law_250 : decode cL_law 250 = .ok (.iload 4, 2) := by decide +kernel
theorem dL_law_252 : decode cL_law 252 = .ok (.iconst 1, 1) := by decide +kernel
theorem dL_law_253 : decode cL_law 253 = .ok (.iadd, 1) := by decide +kernel
theorem dL_law_254 : decode cL_law 254 = .ok (.iaload, 1) := by decide +kernel
theorem dL_law_255 : decode cL_law 255 = .ok (.aload_n 0, 1) := by decide +kernel
theorem dL_law_256 : decode cL_law 256 = .ok (.iload 4, 2) := by decide +kernel
theorem dL_law_258 : decode cL_law 258 = .ok (.iconst 2, 1) := by decide +kernel
theorem dL_law_259 : decode cL_law 259 = .ok (.iadd, 1) := by decide +kernel
theorem dL_law_260 : decode cL_law 260 = .ok (.iaload, 1) := by decide +kernel
theorem dL_law_261 : decode cL_law 261 = .ok (.aload_n 3, 1) := by decide +kernel
theorem dL_law_262 : decode cL_law 262 = .ok (.invokestatic 127, 3) := by decide +kernel
theorem dL_law_265 : decode cL_law 265 = .ok (.istore 5, 2) := by decide +kernel
theorem dL_law_267 : decode cL_law 267 = .ok (.aload_n 2, 1) := by decide +kernel
theorem dL_law_268 : decode cL_law 268 = .ok (.aload_n 0, 1) := by decide +kernel
theorem dL_law_269 : decode cL_law 269 = .ok (.iload 4, 2) := by decide +kernel
theorem dL_law_271 : decode cL_law 271 = .ok (.iconst 1, 1) := by decide +kernel
theorem dL_law_272 : decode cL_law 272 = .ok (.iadd, 1) := by decide +kernel
theorem dL_law_273 : decode cL_law 273 = .ok (.iaload, 1) := by decide +kernel
theorem dL_law_274 : decode cL_law 274 = .ok (.aload_n 0, 1) := by decide +kernel
theorem dL_law_275 : decode cL_law 275 = .ok (.iload 4, 2) := by decide +kernel
theorem dL_law_277 : decode cL_law 277 = .ok (.iconst 2, 1) := by decide +kernel
theorem dL_law_278 : decode cL_law 278 = .ok (.iadd, 1) := by decide +kernel
theorem dL_law_279 : decode cL_law 279 = .ok (.iaload, 1) := by decide +kernel
theorem dL_law_280 : decode cL_law 280 = .ok (.invokevirtual 132, 3) := by decide +kernel
theorem dL_law_283 : decode cL_law 283 = .ok (.istore 6, 2) := by decide +kernel
theorem dL_law_285 : decode cL_law 285 = .ok (.aload_n 2, 1) := by decide +kernel
theorem dL_law_286 : decode cL_law 286 = .ok (.invokevirtual 133, 3) := by decide +kernel
theorem dL_law_289 : decode cL_law 289 = .ok (.iload 5, 2) := by decide +kernel
theorem dL_law_291 : decode cL_law 291 = .ok (.if_icmp .eq 5, 3) := by decide +kernel
theorem dL_law_294 : decode cL_law 294 = .ok (.iconst 0, 1) := by decide +kernel
theorem dL_law_295 : decode cL_law 295 = .ok (.ireturn, 1) := by decide +kernel
theorem dL_law_296 : decode cL_law 296 = .ok (.iload 5, 2) := by decide +kernel
theorem dL_law_298 : decode cL_law 298 = .ok (.ifCond .ne 15, 3) := by decide +kernel
theorem dL_law_301 : decode cL_law 301 = .ok (.aload_n 3, 1) := by decide +kernel
theorem dL_law_302 : decode cL_law 302 = .ok (.iconst 0, 1) := by decide +kernel
theorem dL_law_303 : decode cL_law 303 = .ok (.laload, 1) := by decide +kernel
theorem dL_law_304 : decode cL_law 304 = .ok (.iload 6, 2) := by decide +kernel
theorem dL_law_306 : decode cL_law 306 = .ok (.i2l, 1) := by decide +kernel
theorem dL_law_307 : decode cL_law 307 = .ok (.lcmp, 1) := by decide +kernel
theorem dL_law_308 : decode cL_law 308 = .ok (.ifCond .eq 5, 3) := by decide +kernel
theorem dL_law_311 : decode cL_law 311 = .ok (.iconst 0, 1) := by decide +kernel
theorem dL_law_312 : decode cL_law 312 = .ok (.ireturn, 1) := by decide +kernel
theorem dL_law_313 : decode cL_law 313 = .ok (.goto 2279, 3) := by decide +kernel
theorem dL_law_316 : decode cL_law 316 = .ok (.aload_n 1, 1) := by decide +kernel
theorem dL_law_317 : decode cL_law 317 = .ok (.aload_n 0, 1) := by decide +kernel
theorem dL_law_318 : decode cL_law 318 = .ok (.iload 4, 2) := by decide +kernel
theorem dL_law_320 : decode cL_law 320 = .ok (.iconst 1, 1) := by decide +kernel
theorem dL_law_321 : decode cL_law 321 = .ok (.iadd, 1) := by decide +kernel
theorem dL_law_322 : decode cL_law 322 = .ok (.iaload, 1) := by decide +kernel
theorem dL_law_323 : decode cL_law 323 = .ok (.aload_n 0, 1) := by decide +kernel
theorem dL_law_324 : decode cL_law 324 = .ok (.iload 4, 2) := by decide +kernel
theorem dL_law_326 : decode cL_law 326 = .ok (.iconst 2, 1) := by decide +kernel
theorem dL_law_327 : decode cL_law 327 = .ok (.iadd, 1) := by decide +kernel
theorem dL_law_328 : decode cL_law 328 = .ok (.iaload, 1) := by decide +kernel
theorem dL_law_329 : decode cL_law 329 = .ok (.aload_n 0, 1) := by decide +kernel
theorem dL_law_330 : decode cL_law 330 = .ok (.iload 4, 2) := by decide +kernel
theorem dL_law_332 : decode cL_law 332 = .ok (.iconst 3, 1) := by decide +kernel
theorem dL_law_333 : decode cL_law 333 = .ok (.iadd, 1) := by decide +kernel
theorem dL_law_334 : decode cL_law 334 = .ok (.iaload, 1) := by decide +kernel
theorem dL_law_335 : decode cL_law 335 = .ok (.aload_n 3, 1) := by decide +kernel
theorem dL_law_336 : decode cL_law 336 = .ok (.invokestatic 136, 3) := by decide +kernel
theorem dL_law_339 : decode cL_law 339 = .ok (.istore 5, 2) := by decide +kernel
theorem dL_law_341 : decode cL_law 341 = .ok (.aload_n 2, 1) := by decide +kernel
theorem dL_law_342 : decode cL_law 342 = .ok (.aload_n 0, 1) := by decide +kernel
theorem dL_law_343 : decode cL_law 343 = .ok (.iload 4, 2) := by decide +kernel
theorem dL_law_345 : decode cL_law 345 = .ok (.iconst 1, 1) := by decide +kernel
theorem dL_law_346 : decode cL_law 346 = .ok (.iadd, 1) := by decide +kernel
theorem dL_law_347 : decode cL_law 347 = .ok (.iaload, 1) := by decide +kernel
theorem dL_law_348 : decode cL_law 348 = .ok (.aload_n 0, 1) := by decide +kernel
theorem dL_law_349 : decode cL_law 349 = .ok (.iload 4, 2) := by decide +kernel
theorem dL_law_351 : decode cL_law 351 = .ok (.iconst 2, 1) := by decide +kernel
theorem dL_law_352 : decode cL_law 352 = .ok (.iadd, 1) := by decide +kernel
theorem dL_law_353 : decode cL_law 353 = .ok (.iaload, 1) := by decide +kernel
theorem dL_law_354 : decode cL_law 354 = .ok (.aload_n 0, 1) := by decide +kernel
theorem dL_law_355 : decode cL_law 355 = .ok (.iload 4, 2) := by decide +kernel
theorem dL_law_357 : decode cL_law 357 = .ok (.iconst 3, 1) := by decide +kernel
theorem dL_law_358 : decode cL_law 358 = .ok (.iadd, 1) := by decide +kernel
theorem dL_law_359 : decode cL_law 359 = .ok (.iaload, 1) := by decide +kernel
theorem dL_law_360 : decode cL_law 360 = .ok (.invokevirtual 139, 3) := by decide +kernel
theorem dL_law_363 : decode cL_law 363 = .ok (.istore 6, 2) := by decide +kernel
theorem dL_law_365 : decode cL_law 365 = .ok (.aload_n 2, 1) := by decide +kernel
theorem dL_law_366 : decode cL_law 366 = .ok (.invokevirtual 133, 3) := by decide +kernel
theorem dL_law_369 : decode cL_law 369 = .ok (.iload 5, 2) := by decide +kernel
theorem dL_law_371 : decode cL_law 371 = .ok (.if_icmp .eq 5, 3) := by decide +kernel
theorem dL_law_374 : decode cL_law 374 = .ok (.iconst 0, 1) := by decide +kernel
theorem dL_law_375 : decode cL_law 375 = .ok (.ireturn, 1) := by decide +kernel
theorem dL_law_376 : decode cL_law 376 = .ok (.iload 5, 2) := by decide +kernel
theorem dL_law_378 : decode cL_law 378 = .ok (.ifCond .ne 15, 3) := by decide +kernel
theorem dL_law_381 : decode cL_law 381 = .ok (.aload_n 3, 1) := by decide +kernel
theorem dL_law_382 : decode cL_law 382 = .ok (.iconst 0, 1) := by decide +kernel
theorem dL_law_383 : decode cL_law 383 = .ok (.laload, 1) := by decide +kernel
theorem dL_law_384 : decode cL_law 384 = .ok (.iload 6, 2) := by decide +kernel
theorem dL_law_386 : decode cL_law 386 = .ok (.i2l, 1) := by decide +kernel
theorem dL_law_387 : decode cL_law 387 = .ok (.lcmp, 1) := by decide +kernel
theorem dL_law_388 : decode cL_law 388 = .ok (.ifCond .eq 5, 3) := by decide +kernel
theorem dL_law_391 : decode cL_law 391 = .ok (.iconst 0, 1) := by decide +kernel
theorem dL_law_392 : decode cL_law 392 = .ok (.ireturn, 1) := by decide +kernel
theorem dL_law_393 : decode cL_law 393 = .ok (.goto 2199, 3) := by decide +kernel
theorem dL_law_396 : decode cL_law 396 = .ok (.aload_n 1, 1) := by decide +kernel
theorem dL_law_397 : decode cL_law 397 = .ok (.aload_n 0, 1) := by decide +kernel
theorem dL_law_398 : decode cL_law 398 = .ok (.iload 4, 2) := by decide +kernel
theorem dL_law_400 : decode cL_law 400 = .ok (.iconst 1, 1) := by decide +kernel
theorem dL_law_401 : decode cL_law 401 = .ok (.iadd, 1) := by decide +kernel
theorem dL_law_402 : decode cL_law 402 = .ok (.iaload, 1) := by decide +kernel
theorem dL_law_403 : decode cL_law 403 = .ok (.aload_n 0, 1) := by decide +kernel
theorem dL_law_404 : decode cL_law 404 = .ok (.iload 4, 2) := by decide +kernel
theorem dL_law_406 : decode cL_law 406 = .ok (.iconst 2, 1) := by decide +kernel
theorem dL_law_407 : decode cL_law 407 = .ok (.iadd, 1) := by decide +kernel
theorem dL_law_408 : decode cL_law 408 = .ok (.iaload, 1) := by decide +kernel
theorem dL_law_409 : decode cL_law 409 = .ok (.aload_n 0, 1) := by decide +kernel
theorem dL_law_410 : decode cL_law 410 = .ok (.iload 4, 2) := by decide +kernel
theorem dL_law_412 : decode cL_law 412 = .ok (.iconst 3, 1) := by decide +kernel
theorem dL_law_413 : decode cL_law 413 = .ok (.iadd, 1) := by decide +kernel
theorem dL_law_414 : decode cL_law 414 = .ok (.iaload, 1) := by decide +kernel
theorem dL_law_415 : decode cL_law 415 = .ok (.aload_n 0, 1) := by decide +kernel
theorem dL_law_416 : decode cL_law 416 = .ok (.iload 4, 2) := by decide +kernel
theorem dL_law_418 : decode cL_law 418 = .ok (.iconst 4, 1) := by decide +kernel
theorem dL_law_419 : decode cL_law 419 = .ok (.iadd, 1) := by decide +kernel
theorem dL_law_420 : decode cL_law 420 = .ok (.iaload, 1) := by decide +kernel
theorem dL_law_421 : decode cL_law 421 = .ok (.aload_n 0, 1) := by decide +kernel
theorem dL_law_422 : decode cL_law 422 = .ok (.iload 4, 2) := by decide +kernel
theorem dL_law_424 : decode cL_law 424 = .ok (.iconst 5, 1) := by decide +kernel
theorem dL_law_425 : decode cL_law 425 = .ok (.iadd, 1) := by decide +kernel
theorem dL_law_426 : decode cL_law 426 = .ok (.iaload, 1) := by decide +kernel
theorem dL_law_427 : decode cL_law 427 = .ok (.aload_n 3, 1) := by decide +kernel
theorem dL_law_428 : decode cL_law 428 = .ok (.invokestatic 140, 3) := by decide +kernel
theorem dL_law_431 : decode cL_law 431 = .ok (.istore 5, 2) := by decide +kernel
theorem dL_law_433 : decode cL_law 433 = .ok (.aload_n 2, 1) := by decide +kernel
theorem dL_law_434 : decode cL_law 434 = .ok (.aload_n 0, 1) := by decide +kernel
theorem dL_law_435 : decode cL_law 435 = .ok (.iload 4, 2) := by decide +kernel
theorem dL_law_437 : decode cL_law 437 = .ok (.iconst 1, 1) := by decide +kernel
theorem dL_law_438 : decode cL_law 438 = .ok (.iadd, 1) := by decide +kernel
theorem dL_law_439 : decode cL_law 439 = .ok (.iaload, 1) := by decide +kernel
theorem dL_law_440 : decode cL_law 440 = .ok (.aload_n 0, 1) := by decide +kernel
theorem dL_law_441 : decode cL_law 441 = .ok (.iload 4, 2) := by decide +kernel
theorem dL_law_443 : decode cL_law 443 = .ok (.iconst 2, 1) := by decide +kernel
theorem dL_law_444 : decode cL_law 444 = .ok (.iadd, 1) := by decide +kernel
theorem dL_law_445 : decode cL_law 445 = .ok (.iaload, 1) := by decide +kernel
theorem dL_law_446 : decode cL_law 446 = .ok (.aload_n 0, 1) := by decide +kernel
theorem dL_law_447 : decode cL_law 447 = .ok (.iload 4, 2) := by decide +kernel
theorem dL_law_449 : decode cL_law 449 = .ok (.iconst 3, 1) := by decide +kernel
theorem dL_law_450 : decode cL_law 450 = .ok (.iadd, 1) := by decide +kernel
theorem dL_law_451 : decode cL_law 451 = .ok (.iaload, 1) := by decide +kernel
theorem dL_law_452 : decode cL_law 452 = .ok (.aload_n 0, 1) := by decide +kernel
theorem dL_law_453 : decode cL_law 453 = .ok (.iload 4, 2) := by decide +kernel
theorem dL_law_455 : decode cL_law 455 = .ok (.iconst 4, 1) := by decide +kernel
theorem dL_law_456 : decode cL_law 456 = .ok (.iadd, 1) := by decide +kernel
theorem dL_law_457 : decode cL_law 457 = .ok (.iaload, 1) := by decide +kernel
theorem dL_law_458 : decode cL_law 458 = .ok (.aload_n 0, 1) := by decide +kernel
theorem dL_law_459 : decode cL_law 459 = .ok (.iload 4, 2) := by decide +kernel
theorem dL_law_461 : decode cL_law 461 = .ok (.iconst 5, 1) := by decide +kernel
theorem dL_law_462 : decode cL_law 462 = .ok (.iadd, 1) := by decide +kernel
theorem dL_law_463 : decode cL_law 463 = .ok (.iaload, 1) := by decide +kernel
theorem dL_law_464 : decode cL_law 464 = .ok (.invokevirtual 143, 3) := by decide +kernel
theorem dL_law_467 : decode cL_law 467 = .ok (.istore 6, 2) := by decide +kernel
theorem dL_law_469 : decode cL_law 469 = .ok (.aload_n 2, 1) := by decide +kernel
theorem dL_law_470 : decode cL_law 470 = .ok (.invokevirtual 133, 3) := by decide +kernel
theorem dL_law_473 : decode cL_law 473 = .ok (.iload 5, 2) := by decide +kernel
theorem dL_law_475 : decode cL_law 475 = .ok (.if_icmp .eq 5, 3) := by decide +kernel
theorem dL_law_478 : decode cL_law 478 = .ok (.iconst 0, 1) := by decide +kernel
theorem dL_law_479 : decode cL_law 479 = .ok (.ireturn, 1) := by decide +kernel
theorem dL_law_480 : decode cL_law 480 = .ok (.iload 5, 2) := by decide +kernel
theorem dL_law_482 : decode cL_law 482 = .ok (.ifCond .ne 15, 3) := by decide +kernel
theorem dL_law_485 : decode cL_law 485 = .ok (.aload_n 3, 1) := by decide +kernel
theorem dL_law_486 : decode cL_law 486 = .ok (.iconst 0, 1) := by decide +kernel
theorem dL_law_487 : decode cL_law 487 = .ok (.laload, 1) := by decide +kernel
theorem dL_law_488 : decode cL_law 488 = .ok (.iload 6, 2) := by decide +kernel
theorem dL_law_490 : decode cL_law 490 = .ok (.i2l, 1) := by decide +kernel
theorem dL_law_491 : decode cL_law 491 = .ok (.lcmp, 1) := by decide +kernel
theorem dL_law_492 : decode cL_law 492 = .ok (.ifCond .eq 5, 3) := by decide +kernel
theorem dL_law_495 : decode cL_law 495 = .ok (.iconst 0, 1) := by decide +kernel
theorem dL_law_496 : decode cL_law 496 = .ok (.ireturn, 1) := by decide +kernel
theorem dL_law_497 : decode cL_law 497 = .ok (.goto 2095, 3) := by decide +kernel
theorem dL_law_500 : decode cL_law 500 = .ok (.aload_n 1, 1) := by decide +kernel
theorem dL_law_501 : decode cL_law 501 = .ok (.aload_n 0, 1) := by decide +kernel
theorem dL_law_502 : decode cL_law 502 = .ok (.iload 4, 2) := by decide +kernel
theorem dL_law_504 : decode cL_law 504 = .ok (.iconst 1, 1) := by decide +kernel
theorem dL_law_505 : decode cL_law 505 = .ok (.iadd, 1) := by decide +kernel
theorem dL_law_506 : decode cL_law 506 = .ok (.iaload, 1) := by decide +kernel
theorem dL_law_507 : decode cL_law 507 = .ok (.aload_n 0, 1) := by decide +kernel
theorem dL_law_508 : decode cL_law 508 = .ok (.iload 4, 2) := by decide +kernel
theorem dL_law_510 : decode cL_law 510 = .ok (.iconst 2, 1) := by decide +kernel
theorem dL_law_511 : decode cL_law 511 = .ok (.iadd, 1) := by decide +kernel
theorem dL_law_512 : decode cL_law 512 = .ok (.iaload, 1) := by decide +kernel
theorem dL_law_513 : decode cL_law 513 = .ok (.aload_n 3, 1) := by decide +kernel
theorem dL_law_514 : decode cL_law 514 = .ok (.invokestatic 144, 3) := by decide +kernel
theorem dL_law_517 : decode cL_law 517 = .ok (.istore 5, 2) := by decide +kernel
theorem dL_law_519 : decode cL_law 519 = .ok (.aload_n 2, 1) := by decide +kernel
theorem dL_law_520 : decode cL_law 520 = .ok (.aload_n 0, 1) := by decide +kernel
theorem dL_law_521 : decode cL_law 521 = .ok (.iload 4, 2) := by decide +kernel
theorem dL_law_523 : decode cL_law 523 = .ok (.iconst 1, 1) := by decide +kernel
theorem dL_law_524 : decode cL_law 524 = .ok (.iadd, 1) := by decide +kernel
theorem dL_law_525 : decode cL_law 525 = .ok (.iaload, 1) := by decide +kernel
theorem dL_law_526 : decode cL_law 526 = .ok (.aload_n 0, 1) := by decide +kernel
theorem dL_law_527 : decode cL_law 527 = .ok (.iload 4, 2) := by decide +kernel
theorem dL_law_529 : decode cL_law 529 = .ok (.iconst 2, 1) := by decide +kernel
theorem dL_law_530 : decode cL_law 530 = .ok (.iadd, 1) := by decide +kernel
theorem dL_law_531 : decode cL_law 531 = .ok (.iaload, 1) := by decide +kernel
theorem dL_law_532 : decode cL_law 532 = .ok (.invokevirtual 146, 3) := by decide +kernel
theorem dL_law_535 : decode cL_law 535 = .ok (.istore 6, 2) := by decide +kernel
theorem dL_law_537 : decode cL_law 537 = .ok (.aload_n 2, 1) := by decide +kernel
theorem dL_law_538 : decode cL_law 538 = .ok (.invokevirtual 133, 3) := by decide +kernel
theorem dL_law_541 : decode cL_law 541 = .ok (.iload 5, 2) := by decide +kernel
theorem dL_law_543 : decode cL_law 543 = .ok (.if_icmp .eq 5, 3) := by decide +kernel
theorem dL_law_546 : decode cL_law 546 = .ok (.iconst 0, 1) := by decide +kernel
theorem dL_law_547 : decode cL_law 547 = .ok (.ireturn, 1) := by decide +kernel
theorem dL_law_548 : decode cL_law 548 = .ok (.iload 5, 2) := by decide +kernel
theorem dL_law_550 : decode cL_law 550 = .ok (.ifCond .ne 15, 3) := by decide +kernel
theorem dL_law_553 : decode cL_law 553 = .ok (.aload_n 3, 1) := by decide +kernel
theorem dL_law_554 : decode cL_law 554 = .ok (.iconst 0, 1) := by decide +kernel
theorem dL_law_555 : decode cL_law 555 = .ok (.laload, 1) := by decide +kernel
theorem dL_law_556 : decode cL_law 556 = .ok (.iload 6, 2) := by decide +kernel
theorem dL_law_558 : decode cL_law 558 = .ok (.i2l, 1) := by decide +kernel
theorem dL_law_559 : decode cL_law 559 = .ok (.lcmp, 1) := by decide +kernel
theorem dL_law_560 : decode cL_law 560 = .ok (.ifCond .eq 5, 3) := by decide +kernel
theorem dL_law_563 : decode cL_law 563 = .ok (.iconst 0, 1) := by decide +kernel
theorem dL_law_564 : decode cL_law 564 = .ok (.ireturn, 1) := by decide +kernel
theorem dL_law_565 : decode cL_law 565 = .ok (.goto 2027, 3) := by decide +kernel
theorem dL_law_568 : decode cL_law 568 = .ok (.aload_n 1, 1) := by decide +kernel
theorem dL_law_569 : decode cL_law 569 = .ok (.aload_n 0, 1) := by decide +kernel
theorem dL_law_570 : decode cL_law 570 = .ok (.iload 4, 2) := by decide +kernel
theorem dL_law_572 : decode cL_law 572 = .ok (.iconst 1, 1) := by decide +kernel
theorem dL_law_573 : decode cL_law 573 = .ok (.iadd, 1) := by decide +kernel
theorem dL_law_574 : decode cL_law 574 = .ok (.iaload, 1) := by decide +kernel
theorem dL_law_575 : decode cL_law 575 = .ok (.aload_n 3, 1) := by decide +kernel
theorem dL_law_576 : decode cL_law 576 = .ok (.invokestatic 147, 3) := by decide +kernel
theorem dL_law_579 : decode cL_law 579 = .ok (.istore 5, 2) := by decide +kernel
theorem dL_law_581 : decode cL_law 581 = .ok (.aload_n 2, 1) := by decide +kernel
theorem dL_law_582 : decode cL_law 582 = .ok (.aload_n 0, 1) := by decide +kernel
theorem dL_law_583 : decode cL_law 583 = .ok (.iload 4, 2) := by decide +kernel
theorem dL_law_585 : decode cL_law 585 = .ok (.iconst 1, 1) := by decide +kernel
theorem dL_law_586 : decode cL_law 586 = .ok (.iadd, 1) := by decide +kernel
theorem dL_law_587 : decode cL_law 587 = .ok (.iaload, 1) := by decide +kernel
theorem dL_law_588 : decode cL_law 588 = .ok (.invokevirtual 150, 3) := by decide +kernel
theorem dL_law_591 : decode cL_law 591 = .ok (.istore 6, 2) := by decide +kernel
theorem dL_law_593 : decode cL_law 593 = .ok (.aload_n 2, 1) := by decide +kernel
theorem dL_law_594 : decode cL_law 594 = .ok (.invokevirtual 133, 3) := by decide +kernel
theorem dL_law_597 : decode cL_law 597 = .ok (.iload 5, 2) := by decide +kernel
theorem dL_law_599 : decode cL_law 599 = .ok (.if_icmp .eq 5, 3) := by decide +kernel
theorem dL_law_602 : decode cL_law 602 = .ok (.iconst 0, 1) := by decide +kernel
theorem dL_law_603 : decode cL_law 603 = .ok (.ireturn, 1) := by decide +kernel
theorem dL_law_604 : decode cL_law 604 = .ok (.iload 5, 2) := by decide +kernel
theorem dL_law_606 : decode cL_law 606 = .ok (.ifCond .ne 15, 3) := by decide +kernel
theorem dL_law_609 : decode cL_law 609 = .ok (.aload_n 3, 1) := by decide +kernel
theorem dL_law_610 : decode cL_law 610 = .ok (.iconst 0, 1) := by decide +kernel
theorem dL_law_611 : decode cL_law 611 = .ok (.laload, 1) := by decide +kernel
theorem dL_law_612 : decode cL_law 612 = .ok (.iload 6, 2) := by decide +kernel
theorem dL_law_614 : decode cL_law 614 = .ok (.i2l, 1) := by decide +kernel
theorem dL_law_615 : decode cL_law 615 = .ok (.lcmp, 1) := by decide +kernel
theorem dL_law_616 : decode cL_law 616 = .ok (.ifCond .eq 5, 3) := by decide +kernel
theorem dL_law_619 : decode cL_law 619 = .ok (.iconst 0, 1) := by decide +kernel
theorem dL_law_620 : decode cL_law 620 = .ok (.ireturn, 1) := by decide +kernel
theorem dL_law_621 : decode cL_law 621 = .ok (.goto 1971, 3) := by decide +kernel
theorem dL_law_624 : decode cL_law 624 = .ok (.aload_n 1, 1) := by decide +kernel
theorem dL_law_625 : decode cL_law 625 = .ok (.aload_n 0, 1) := by decide +kernel
theorem dL_law_626 : decode cL_law 626 = .ok (.iload 4, 2) := by decide +kernel
theorem dL_law_628 : decode cL_law 628 = .ok (.iconst 1, 1) := by decide +kernel
theorem dL_law_629 : decode cL_law 629 = .ok (.iadd, 1) := by decide +kernel
theorem dL_law_630 : decode cL_law 630 = .ok (.iaload, 1) := by decide +kernel
theorem dL_law_631 : decode cL_law 631 = .ok (.aload_n 0, 1) := by decide +kernel
theorem dL_law_632 : decode cL_law 632 = .ok (.iload 4, 2) := by decide +kernel
theorem dL_law_634 : decode cL_law 634 = .ok (.iconst 2, 1) := by decide +kernel
theorem dL_law_635 : decode cL_law 635 = .ok (.iadd, 1) := by decide +kernel
theorem dL_law_636 : decode cL_law 636 = .ok (.iaload, 1) := by decide +kernel
theorem dL_law_637 : decode cL_law 637 = .ok (.aload_n 3, 1) := by decide +kernel
theorem dL_law_638 : decode cL_law 638 = .ok (.invokestatic 151, 3) := by decide +kernel
theorem dL_law_641 : decode cL_law 641 = .ok (.istore 5, 2) := by decide +kernel
theorem dL_law_643 : decode cL_law 643 = .ok (.aload_n 2, 1) := by decide +kernel
theorem dL_law_644 : decode cL_law 644 = .ok (.aload_n 0, 1) := by decide +kernel
theorem dL_law_645 : decode cL_law 645 = .ok (.iload 4, 2) := by decide +kernel
theorem dL_law_647 : decode cL_law 647 = .ok (.iconst 1, 1) := by decide +kernel
theorem dL_law_648 : decode cL_law 648 = .ok (.iadd, 1) := by decide +kernel
theorem dL_law_649 : decode cL_law 649 = .ok (.iaload, 1) := by decide +kernel
theorem dL_law_650 : decode cL_law 650 = .ok (.aload_n 0, 1) := by decide +kernel
theorem dL_law_651 : decode cL_law 651 = .ok (.iload 4, 2) := by decide +kernel
theorem dL_law_653 : decode cL_law 653 = .ok (.iconst 2, 1) := by decide +kernel
theorem dL_law_654 : decode cL_law 654 = .ok (.iadd, 1) := by decide +kernel
theorem dL_law_655 : decode cL_law 655 = .ok (.iaload, 1) := by decide +kernel
theorem dL_law_656 : decode cL_law 656 = .ok (.invokevirtual 153, 3) := by decide +kernel
theorem dL_law_659 : decode cL_law 659 = .ok (.istore 6, 2) := by decide +kernel
theorem dL_law_661 : decode cL_law 661 = .ok (.aload_n 2, 1) := by decide +kernel
theorem dL_law_662 : decode cL_law 662 = .ok (.invokevirtual 133, 3) := by decide +kernel
theorem dL_law_665 : decode cL_law 665 = .ok (.iload 5, 2) := by decide +kernel
theorem dL_law_667 : decode cL_law 667 = .ok (.if_icmp .eq 5, 3) := by decide +kernel
theorem dL_law_670 : decode cL_law 670 = .ok (.iconst 0, 1) := by decide +kernel
theorem dL_law_671 : decode cL_law 671 = .ok (.ireturn, 1) := by decide +kernel
theorem dL_law_672 : decode cL_law 672 = .ok (.iload 5, 2) := by decide +kernel
theorem dL_law_674 : decode cL_law 674 = .ok (.ifCond .ne 15, 3) := by decide +kernel
theorem dL_law_677 : decode cL_law 677 = .ok (.aload_n 3, 1) := by decide +kernel
theorem dL_law_678 : decode cL_law 678 = .ok (.iconst 0, 1) := by decide +kernel
theorem dL_law_679 : decode cL_law 679 = .ok (.laload, 1) := by decide +kernel
theorem dL_law_680 : decode cL_law 680 = .ok (.iload 6, 2) := by decide +kernel
theorem dL_law_682 : decode cL_law 682 = .ok (.i2l, 1) := by decide +kernel
theorem dL_law_683 : decode cL_law 683 = .ok (.lcmp, 1) := by decide +kernel
theorem dL_law_684 : decode cL_law 684 = .ok (.ifCond .eq 5, 3) := by decide +kernel
theorem dL_law_687 : decode cL_law 687 = .ok (.iconst 0, 1) := by decide +kernel
theorem dL_law_688 : decode cL_law 688 = .ok (.ireturn, 1) := by decide +kernel
theorem dL_law_689 : decode cL_law 689 = .ok (.goto 1903, 3) := by decide +kernel
theorem dL_law_692 : decode cL_law 692 = .ok (.aload_n 1, 1) := by decide +kernel
theorem dL_law_693 : decode cL_law 693 = .ok (.aload_n 0, 1) := by decide +kernel
theorem dL_law_694 : decode cL_law 694 = .ok (.iload 4, 2) := by decide +kernel
theorem dL_law_696 : decode cL_law 696 = .ok (.iconst 1, 1) := by decide +kernel
theorem dL_law_697 : decode cL_law 697 = .ok (.iadd, 1) := by decide +kernel
theorem dL_law_698 : decode cL_law 698 = .ok (.iaload, 1) := by decide +kernel
theorem dL_law_699 : decode cL_law 699 = .ok (.aload_n 3, 1) := by decide +kernel
theorem dL_law_700 : decode cL_law 700 = .ok (.invokestatic 154, 3) := by decide +kernel
theorem dL_law_703 : decode cL_law 703 = .ok (.istore 5, 2) := by decide +kernel
theorem dL_law_705 : decode cL_law 705 = .ok (.aload_n 2, 1) := by decide +kernel
theorem dL_law_706 : decode cL_law 706 = .ok (.aload_n 0, 1) := by decide +kernel
theorem dL_law_707 : decode cL_law 707 = .ok (.iload 4, 2) := by decide +kernel
theorem dL_law_709 : decode cL_law 709 = .ok (.iconst 1, 1) := by decide +kernel
theorem dL_law_710 : decode cL_law 710 = .ok (.iadd, 1) := by decide +kernel
theorem dL_law_711 : decode cL_law 711 = .ok (.iaload, 1) := by decide +kernel
theorem dL_law_712 : decode cL_law 712 = .ok (.invokevirtual 156, 3) := by decide +kernel
theorem dL_law_715 : decode cL_law 715 = .ok (.istore 6, 2) := by decide +kernel
theorem dL_law_717 : decode cL_law 717 = .ok (.aload_n 2, 1) := by decide +kernel
theorem dL_law_718 : decode cL_law 718 = .ok (.invokevirtual 133, 3) := by decide +kernel
theorem dL_law_721 : decode cL_law 721 = .ok (.iload 5, 2) := by decide +kernel
theorem dL_law_723 : decode cL_law 723 = .ok (.if_icmp .eq 5, 3) := by decide +kernel
theorem dL_law_726 : decode cL_law 726 = .ok (.iconst 0, 1) := by decide +kernel
theorem dL_law_727 : decode cL_law 727 = .ok (.ireturn, 1) := by decide +kernel
theorem dL_law_728 : decode cL_law 728 = .ok (.iload 5, 2) := by decide +kernel
theorem dL_law_730 : decode cL_law 730 = .ok (.ifCond .ne 15, 3) := by decide +kernel
theorem dL_law_733 : decode cL_law 733 = .ok (.aload_n 3, 1) := by decide +kernel
theorem dL_law_734 : decode cL_law 734 = .ok (.iconst 0, 1) := by decide +kernel
theorem dL_law_735 : decode cL_law 735 = .ok (.laload, 1) := by decide +kernel
theorem dL_law_736 : decode cL_law 736 = .ok (.iload 6, 2) := by decide +kernel
theorem dL_law_738 : decode cL_law 738 = .ok (.i2l, 1) := by decide +kernel
theorem dL_law_739 : decode cL_law 739 = .ok (.lcmp, 1) := by decide +kernel
theorem dL_law_740 : decode cL_law 740 = .ok (.ifCond .eq 5, 3) := by decide +kernel
theorem dL_law_743 : decode cL_law 743 = .ok (.iconst 0, 1) := by decide +kernel
theorem dL_law_744 : decode cL_law 744 = .ok (.ireturn, 1) := by decide +kernel
theorem dL_law_745 : decode cL_law 745 = .ok (.goto 1847, 3) := by decide +kernel
theorem dL_law_748 : decode cL_law 748 = .ok (.aload_n 1, 1) := by decide +kernel
theorem dL_law_749 : decode cL_law 749 = .ok (.aload_n 3, 1) := by decide +kernel
theorem dL_law_750 : decode cL_law 750 = .ok (.invokestatic 157, 3) := by decide +kernel
theorem dL_law_753 : decode cL_law 753 = .ok (.istore 5, 2) := by decide +kernel
theorem dL_law_755 : decode cL_law 755 = .ok (.aload_n 2, 1) := by decide +kernel
theorem dL_law_756 : decode cL_law 756 = .ok (.invokevirtual 160, 3) := by decide +kernel
theorem dL_law_759 : decode cL_law 759 = .ok (.istore 6, 2) := by decide +kernel
theorem dL_law_761 : decode cL_law 761 = .ok (.aload_n 2, 1) := by decide +kernel
theorem dL_law_762 : decode cL_law 762 = .ok (.invokevirtual 133, 3) := by decide +kernel
theorem dL_law_765 : decode cL_law 765 = .ok (.iload 5, 2) := by decide +kernel
theorem dL_law_767 : decode cL_law 767 = .ok (.if_icmp .eq 5, 3) := by decide +kernel
theorem dL_law_770 : decode cL_law 770 = .ok (.iconst 0, 1) := by decide +kernel
theorem dL_law_771 : decode cL_law 771 = .ok (.ireturn, 1) := by decide +kernel
theorem dL_law_772 : decode cL_law 772 = .ok (.iload 5, 2) := by decide +kernel
theorem dL_law_774 : decode cL_law 774 = .ok (.ifCond .ne 15, 3) := by decide +kernel
theorem dL_law_777 : decode cL_law 777 = .ok (.aload_n 3, 1) := by decide +kernel
theorem dL_law_778 : decode cL_law 778 = .ok (.iconst 0, 1) := by decide +kernel
theorem dL_law_779 : decode cL_law 779 = .ok (.laload, 1) := by decide +kernel
theorem dL_law_780 : decode cL_law 780 = .ok (.iload 6, 2) := by decide +kernel
theorem dL_law_782 : decode cL_law 782 = .ok (.i2l, 1) := by decide +kernel
theorem dL_law_783 : decode cL_law 783 = .ok (.lcmp, 1) := by decide +kernel
theorem dL_law_784 : decode cL_law 784 = .ok (.ifCond .eq 5, 3) := by decide +kernel
theorem dL_law_787 : decode cL_law 787 = .ok (.iconst 0, 1) := by decide +kernel
theorem dL_law_788 : decode cL_law 788 = .ok (.ireturn, 1) := by decide +kernel
theorem dL_law_789 : decode cL_law 789 = .ok (.goto 1803, 3) := by decide +kernel
theorem dL_law_792 : decode cL_law 792 = .ok (.aload_n 1, 1) := by decide +kernel
theorem dL_law_793 : decode cL_law 793 = .ok (.aload_n 0, 1) := by decide +kernel
theorem dL_law_794 : decode cL_law 794 = .ok (.iload 4, 2) := by decide +kernel
theorem dL_law_796 : decode cL_law 796 = .ok (.iconst 1, 1) := by decide +kernel
theorem dL_law_797 : decode cL_law 797 = .ok (.iadd, 1) := by decide +kernel
theorem dL_law_798 : decode cL_law 798 = .ok (.iaload, 1) := by decide +kernel
theorem dL_law_799 : decode cL_law 799 = .ok (.aload_n 3, 1) := by decide +kernel
theorem dL_law_800 : decode cL_law 800 = .ok (.invokestatic 161, 3) := by decide +kernel
theorem dL_law_803 : decode cL_law 803 = .ok (.istore 5, 2) := by decide +kernel
theorem dL_law_805 : decode cL_law 805 = .ok (.aload_n 2, 1) := by decide +kernel
theorem dL_law_806 : decode cL_law 806 = .ok (.aload_n 0, 1) := by decide +kernel
theorem dL_law_807 : decode cL_law 807 = .ok (.iload 4, 2) := by decide +kernel
theorem dL_law_809 : decode cL_law 809 = .ok (.iconst 1, 1) := by decide +kernel
theorem dL_law_810 : decode cL_law 810 = .ok (.iadd, 1) := by decide +kernel
theorem dL_law_811 : decode cL_law 811 = .ok (.iaload, 1) := by decide +kernel
theorem dL_law_812 : decode cL_law 812 = .ok (.invokevirtual 163, 3) := by decide +kernel
theorem dL_law_815 : decode cL_law 815 = .ok (.istore 6, 2) := by decide +kernel
theorem dL_law_817 : decode cL_law 817 = .ok (.aload_n 2, 1) := by decide +kernel
theorem dL_law_818 : decode cL_law 818 = .ok (.invokevirtual 133, 3) := by decide +kernel
theorem dL_law_821 : decode cL_law 821 = .ok (.iload 5, 2) := by decide +kernel
theorem dL_law_823 : decode cL_law 823 = .ok (.if_icmp .eq 5, 3) := by decide +kernel
theorem dL_law_826 : decode cL_law 826 = .ok (.iconst 0, 1) := by decide +kernel
theorem dL_law_827 : decode cL_law 827 = .ok (.ireturn, 1) := by decide +kernel
theorem dL_law_828 : decode cL_law 828 = .ok (.iload 5, 2) := by decide +kernel
theorem dL_law_830 : decode cL_law 830 = .ok (.ifCond .ne 15, 3) := by decide +kernel
theorem dL_law_833 : decode cL_law 833 = .ok (.aload_n 3, 1) := by decide +kernel
theorem dL_law_834 : decode cL_law 834 = .ok (.iconst 0, 1) := by decide +kernel
theorem dL_law_835 : decode cL_law 835 = .ok (.laload, 1) := by decide +kernel
theorem dL_law_836 : decode cL_law 836 = .ok (.iload 6, 2) := by decide +kernel
theorem dL_law_838 : decode cL_law 838 = .ok (.i2l, 1) := by decide +kernel
theorem dL_law_839 : decode cL_law 839 = .ok (.lcmp, 1) := by decide +kernel
theorem dL_law_840 : decode cL_law 840 = .ok (.ifCond .eq 5, 3) := by decide +kernel
theorem dL_law_843 : decode cL_law 843 = .ok (.iconst 0, 1) := by decide +kernel
theorem dL_law_844 : decode cL_law 844 = .ok (.ireturn, 1) := by decide +kernel
theorem dL_law_845 : decode cL_law 845 = .ok (.goto 1747, 3) := by decide +kernel
theorem dL_law_848 : decode cL_law 848 = .ok (.aload_n 1, 1) := by decide +kernel
theorem dL_law_849 : decode cL_law 849 = .ok (.aload_n 3, 1) := by decide +kernel
theorem dL_law_850 : decode cL_law 850 = .ok (.invokestatic 164, 3) := by decide +kernel
theorem dL_law_853 : decode cL_law 853 = .ok (.istore 5, 2) := by decide +kernel
theorem dL_law_855 : decode cL_law 855 = .ok (.aload_n 2, 1) := by decide +kernel
theorem dL_law_856 : decode cL_law 856 = .ok (.invokevirtual 166, 3) := by decide +kernel
theorem dL_law_859 : decode cL_law 859 = .ok (.istore 6, 2) := by decide +kernel
theorem dL_law_861 : decode cL_law 861 = .ok (.aload_n 2, 1) := by decide +kernel
theorem dL_law_862 : decode cL_law 862 = .ok (.invokevirtual 133, 3) := by decide +kernel
theorem dL_law_865 : decode cL_law 865 = .ok (.iload 5, 2) := by decide +kernel
theorem dL_law_867 : decode cL_law 867 = .ok (.if_icmp .eq 5, 3) := by decide +kernel
theorem dL_law_870 : decode cL_law 870 = .ok (.iconst 0, 1) := by decide +kernel
theorem dL_law_871 : decode cL_law 871 = .ok (.ireturn, 1) := by decide +kernel
theorem dL_law_872 : decode cL_law 872 = .ok (.iload 5, 2) := by decide +kernel
theorem dL_law_874 : decode cL_law 874 = .ok (.ifCond .ne 15, 3) := by decide +kernel
theorem dL_law_877 : decode cL_law 877 = .ok (.aload_n 3, 1) := by decide +kernel
theorem dL_law_878 : decode cL_law 878 = .ok (.iconst 0, 1) := by decide +kernel
theorem dL_law_879 : decode cL_law 879 = .ok (.laload, 1) := by decide +kernel
theorem dL_law_880 : decode cL_law 880 = .ok (.iload 6, 2) := by decide +kernel
theorem dL_law_882 : decode cL_law 882 = .ok (.i2l, 1) := by decide +kernel
theorem dL_law_883 : decode cL_law 883 = .ok (.lcmp, 1) := by decide +kernel
theorem dL_law_884 : decode cL_law 884 = .ok (.ifCond .eq 5, 3) := by decide +kernel
theorem dL_law_887 : decode cL_law 887 = .ok (.iconst 0, 1) := by decide +kernel
theorem dL_law_888 : decode cL_law 888 = .ok (.ireturn, 1) := by decide +kernel
theorem dL_law_889 : decode cL_law 889 = .ok (.goto 1703, 3) := by decide +kernel
theorem dL_law_892 : decode cL_law 892 = .ok (.aload_n 1, 1) := by decide +kernel
theorem dL_law_893 : decode cL_law 893 = .ok (.aload_n 0, 1) := by decide +kernel
theorem dL_law_894 : decode cL_law 894 = .ok (.iload 4, 2) := by decide +kernel
theorem dL_law_896 : decode cL_law 896 = .ok (.iconst 1, 1) := by decide +kernel
theorem dL_law_897 : decode cL_law 897 = .ok (.iadd, 1) := by decide +kernel
theorem dL_law_898 : decode cL_law 898 = .ok (.iaload, 1) := by decide +kernel
theorem dL_law_899 : decode cL_law 899 = .ok (.aload_n 3, 1) := by decide +kernel
theorem dL_law_900 : decode cL_law 900 = .ok (.invokestatic 167, 3) := by decide +kernel
theorem dL_law_903 : decode cL_law 903 = .ok (.istore 5, 2) := by decide +kernel
theorem dL_law_905 : decode cL_law 905 = .ok (.aload_n 2, 1) := by decide +kernel
theorem dL_law_906 : decode cL_law 906 = .ok (.aload_n 0, 1) := by decide +kernel
theorem dL_law_907 : decode cL_law 907 = .ok (.iload 4, 2) := by decide +kernel
theorem dL_law_909 : decode cL_law 909 = .ok (.iconst 1, 1) := by decide +kernel
theorem dL_law_910 : decode cL_law 910 = .ok (.iadd, 1) := by decide +kernel
theorem dL_law_911 : decode cL_law 911 = .ok (.iaload, 1) := by decide +kernel
theorem dL_law_912 : decode cL_law 912 = .ok (.invokevirtual 169, 3) := by decide +kernel
theorem dL_law_915 : decode cL_law 915 = .ok (.istore 6, 2) := by decide +kernel
theorem dL_law_917 : decode cL_law 917 = .ok (.aload_n 2, 1) := by decide +kernel
theorem dL_law_918 : decode cL_law 918 = .ok (.invokevirtual 133, 3) := by decide +kernel
theorem dL_law_921 : decode cL_law 921 = .ok (.iload 5, 2) := by decide +kernel
theorem dL_law_923 : decode cL_law 923 = .ok (.if_icmp .eq 5, 3) := by decide +kernel
theorem dL_law_926 : decode cL_law 926 = .ok (.iconst 0, 1) := by decide +kernel
theorem dL_law_927 : decode cL_law 927 = .ok (.ireturn, 1) := by decide +kernel
theorem dL_law_928 : decode cL_law 928 = .ok (.iload 5, 2) := by decide +kernel
theorem dL_law_930 : decode cL_law 930 = .ok (.ifCond .ne 15, 3) := by decide +kernel
theorem dL_law_933 : decode cL_law 933 = .ok (.aload_n 3, 1) := by decide +kernel
theorem dL_law_934 : decode cL_law 934 = .ok (.iconst 0, 1) := by decide +kernel
theorem dL_law_935 : decode cL_law 935 = .ok (.laload, 1) := by decide +kernel
theorem dL_law_936 : decode cL_law 936 = .ok (.iload 6, 2) := by decide +kernel
theorem dL_law_938 : decode cL_law 938 = .ok (.i2l, 1) := by decide +kernel
theorem dL_law_939 : decode cL_law 939 = .ok (.lcmp, 1) := by decide +kernel
theorem dL_law_940 : decode cL_law 940 = .ok (.ifCond .eq 5, 3) := by decide +kernel
theorem dL_law_943 : decode cL_law 943 = .ok (.iconst 0, 1) := by decide +kernel
theorem dL_law_944 : decode cL_law 944 = .ok (.ireturn, 1) := by decide +kernel
theorem dL_law_945 : decode cL_law 945 = .ok (.goto 1647, 3) := by decide +kernel
theorem dL_law_948 : decode cL_law 948 = .ok (.aload_n 1, 1) := by decide +kernel
theorem dL_law_949 : decode cL_law 949 = .ok (.aload_n 0, 1) := by decide +kernel
theorem dL_law_950 : decode cL_law 950 = .ok (.iload 4, 2) := by decide +kernel
theorem dL_law_952 : decode cL_law 952 = .ok (.iconst 1, 1) := by decide +kernel
theorem dL_law_953 : decode cL_law 953 = .ok (.iadd, 1) := by decide +kernel
theorem dL_law_954 : decode cL_law 954 = .ok (.iaload, 1) := by decide +kernel
theorem dL_law_955 : decode cL_law 955 = .ok (.aload_n 0, 1) := by decide +kernel
theorem dL_law_956 : decode cL_law 956 = .ok (.iload 4, 2) := by decide +kernel
theorem dL_law_958 : decode cL_law 958 = .ok (.iconst 2, 1) := by decide +kernel
theorem dL_law_959 : decode cL_law 959 = .ok (.iadd, 1) := by decide +kernel
theorem dL_law_960 : decode cL_law 960 = .ok (.iaload, 1) := by decide +kernel
theorem dL_law_961 : decode cL_law 961 = .ok (.aload_n 3, 1) := by decide +kernel
theorem dL_law_962 : decode cL_law 962 = .ok (.invokestatic 170, 3) := by decide +kernel
theorem dL_law_965 : decode cL_law 965 = .ok (.istore 5, 2) := by decide +kernel
theorem dL_law_967 : decode cL_law 967 = .ok (.aload_n 2, 1) := by decide +kernel
theorem dL_law_968 : decode cL_law 968 = .ok (.aload_n 0, 1) := by decide +kernel
theorem dL_law_969 : decode cL_law 969 = .ok (.iload 4, 2) := by decide +kernel
theorem dL_law_971 : decode cL_law 971 = .ok (.iconst 1, 1) := by decide +kernel
theorem dL_law_972 : decode cL_law 972 = .ok (.iadd, 1) := by decide +kernel
theorem dL_law_973 : decode cL_law 973 = .ok (.iaload, 1) := by decide +kernel
theorem dL_law_974 : decode cL_law 974 = .ok (.aload_n 0, 1) := by decide +kernel
theorem dL_law_975 : decode cL_law 975 = .ok (.iload 4, 2) := by decide +kernel
theorem dL_law_977 : decode cL_law 977 = .ok (.iconst 2, 1) := by decide +kernel
theorem dL_law_978 : decode cL_law 978 = .ok (.iadd, 1) := by decide +kernel
theorem dL_law_979 : decode cL_law 979 = .ok (.iaload, 1) := by decide +kernel
theorem dL_law_980 : decode cL_law 980 = .ok (.invokevirtual 172, 3) := by decide +kernel
theorem dL_law_983 : decode cL_law 983 = .ok (.istore 6, 2) := by decide +kernel
theorem dL_law_985 : decode cL_law 985 = .ok (.aload_n 2, 1) := by decide +kernel
theorem dL_law_986 : decode cL_law 986 = .ok (.invokevirtual 133, 3) := by decide +kernel
theorem dL_law_989 : decode cL_law 989 = .ok (.iload 5, 2) := by decide +kernel
theorem dL_law_991 : decode cL_law 991 = .ok (.if_icmp .eq 5, 3) := by decide +kernel
theorem dL_law_994 : decode cL_law 994 = .ok (.iconst 0, 1) := by decide +kernel
theorem dL_law_995 : decode cL_law 995 = .ok (.ireturn, 1) := by decide +kernel
theorem dL_law_996 : decode cL_law 996 = .ok (.iload 5, 2) := by decide +kernel
theorem dL_law_998 : decode cL_law 998 = .ok (.ifCond .ne 15, 3) := by decide +kernel
theorem dL_law_1001 : decode cL_law 1001 = .ok (.aload_n 3, 1) := by decide +kernel
theorem dL_law_1002 : decode cL_law 1002 = .ok (.iconst 0, 1) := by decide +kernel
theorem dL_law_1003 : decode cL_law 1003 = .ok (.laload, 1) := by decide +kernel
theorem dL_law_1004 : decode cL_law 1004 = .ok (.iload 6, 2) := by decide +kernel
theorem dL_law_1006 : decode cL_law 1006 = .ok (.i2l, 1) := by decide +kernel
theorem dL_law_1007 : decode cL_law 1007 = .ok (.lcmp, 1) := by decide +kernel
theorem dL_law_1008 : decode cL_law 1008 = .ok (.ifCond .eq 5, 3) := by decide +kernel
theorem dL_law_1011 : decode cL_law 1011 = .ok (.iconst 0, 1) := by decide +kernel
theorem dL_law_1012 : decode cL_law 1012 = .ok (.ireturn, 1) := by decide +kernel
theorem dL_law_1013 : decode cL_law 1013 = .ok (.goto 1579, 3) := by decide +kernel
theorem dL_law_1016 : decode cL_law 1016 = .ok (.aload_n 1, 1) := by decide +kernel
theorem dL_law_1017 : decode cL_law 1017 = .ok (.invokevirtual 173, 3) := by decide +kernel
theorem dL_law_1020 : decode cL_law 1020 = .ok (.aload_n 2, 1) := by decide +kernel
theorem dL_law_1021 : decode cL_law 1021 = .ok (.invokevirtual 176, 3) := by decide +kernel
theorem dL_law_1024 : decode cL_law 1024 = .ok (.if_icmp .eq 1568, 3) := by decide +kernel
theorem dL_law_1027 : decode cL_law 1027 = .ok (.iconst 0, 1) := by decide +kernel
theorem dL_law_1028 : decode cL_law 1028 = .ok (.ireturn, 1) := by decide +kernel
theorem dL_law_1029 : decode cL_law 1029 = .ok (.aload_n 1, 1) := by decide +kernel
theorem dL_law_1030 : decode cL_law 1030 = .ok (.invokevirtual 177, 3) := by decide +kernel
theorem dL_law_1033 : decode cL_law 1033 = .ok (.aload_n 2, 1) := by decide +kernel
theorem dL_law_1034 : decode cL_law 1034 = .ok (.invokevirtual 180, 3) := by decide +kernel
theorem dL_law_1037 : decode cL_law 1037 = .ok (.if_icmp .eq 1555, 3) := by decide +kernel
theorem dL_law_1040 : decode cL_law 1040 = .ok (.iconst 0, 1) := by decide +kernel
theorem dL_law_1041 : decode cL_law 1041 = .ok (.ireturn, 1) := by decide +kernel
theorem dL_law_1042 : decode cL_law 1042 = .ok (.aload_n 1, 1) := by decide +kernel
theorem dL_law_1043 : decode cL_law 1043 = .ok (.invokevirtual 181, 3) := by decide +kernel
theorem dL_law_1046 : decode cL_law 1046 = .ok (.aload_n 2, 1) := by decide +kernel
theorem dL_law_1047 : decode cL_law 1047 = .ok (.invokevirtual 184, 3) := by decide +kernel
theorem dL_law_1050 : decode cL_law 1050 = .ok (.if_icmp .eq 1542, 3) := by decide +kernel
theorem dL_law_1053 : decode cL_law 1053 = .ok (.iconst 0, 1) := by decide +kernel
theorem dL_law_1054 : decode cL_law 1054 = .ok (.ireturn, 1) := by decide +kernel
theorem dL_law_1055 : decode cL_law 1055 = .ok (.aload_n 1, 1) := by decide +kernel
theorem dL_law_1056 : decode cL_law 1056 = .ok (.invokevirtual 185, 3) := by decide +kernel
theorem dL_law_1059 : decode cL_law 1059 = .ok (.aload_n 2, 1) := by decide +kernel
theorem dL_law_1060 : decode cL_law 1060 = .ok (.invokevirtual 188, 3) := by decide +kernel
theorem dL_law_1063 : decode cL_law 1063 = .ok (.if_icmp .eq 1529, 3) := by decide +kernel
theorem dL_law_1066 : decode cL_law 1066 = .ok (.iconst 0, 1) := by decide +kernel
theorem dL_law_1067 : decode cL_law 1067 = .ok (.ireturn, 1) := by decide +kernel
theorem dL_law_1068 : decode cL_law 1068 = .ok (.aload_n 1, 1) := by decide +kernel
theorem dL_law_1069 : decode cL_law 1069 = .ok (.aload_n 0, 1) := by decide +kernel
theorem dL_law_1070 : decode cL_law 1070 = .ok (.iload 4, 2) := by decide +kernel
theorem dL_law_1072 : decode cL_law 1072 = .ok (.iconst 1, 1) := by decide +kernel
theorem dL_law_1073 : decode cL_law 1073 = .ok (.iadd, 1) := by decide +kernel
theorem dL_law_1074 : decode cL_law 1074 = .ok (.iaload, 1) := by decide +kernel
theorem dL_law_1075 : decode cL_law 1075 = .ok (.aload_n 3, 1) := by decide +kernel
theorem dL_law_1076 : decode cL_law 1076 = .ok (.invokestatic 189, 3) := by decide +kernel
theorem dL_law_1079 : decode cL_law 1079 = .ok (.istore 5, 2) := by decide +kernel
theorem dL_law_1081 : decode cL_law 1081 = .ok (.aload_n 2, 1) := by decide +kernel
theorem dL_law_1082 : decode cL_law 1082 = .ok (.aload_n 0, 1) := by decide +kernel
theorem dL_law_1083 : decode cL_law 1083 = .ok (.iload 4, 2) := by decide +kernel
theorem dL_law_1085 : decode cL_law 1085 = .ok (.iconst 1, 1) := by decide +kernel
theorem dL_law_1086 : decode cL_law 1086 = .ok (.iadd, 1) := by decide +kernel
theorem dL_law_1087 : decode cL_law 1087 = .ok (.iaload, 1) := by decide +kernel
theorem dL_law_1088 : decode cL_law 1088 = .ok (.invokevirtual 191, 3) := by decide +kernel
theorem dL_law_1091 : decode cL_law 1091 = .ok (.istore 6, 2) := by decide +kernel
theorem dL_law_1093 : decode cL_law 1093 = .ok (.aload_n 2, 1) := by decide +kernel
theorem dL_law_1094 : decode cL_law 1094 = .ok (.invokevirtual 133, 3) := by decide +kernel
theorem dL_law_1097 : decode cL_law 1097 = .ok (.iload 5, 2) := by decide +kernel
theorem dL_law_1099 : decode cL_law 1099 = .ok (.if_icmp .eq 5, 3) := by decide +kernel
theorem dL_law_1102 : decode cL_law 1102 = .ok (.iconst 0, 1) := by decide +kernel
theorem dL_law_1103 : decode cL_law 1103 = .ok (.ireturn, 1) := by decide +kernel
theorem dL_law_1104 : decode cL_law 1104 = .ok (.iload 5, 2) := by decide +kernel
theorem dL_law_1106 : decode cL_law 1106 = .ok (.ifCond .ne 15, 3) := by decide +kernel
theorem dL_law_1109 : decode cL_law 1109 = .ok (.aload_n 3, 1) := by decide +kernel
theorem dL_law_1110 : decode cL_law 1110 = .ok (.iconst 0, 1) := by decide +kernel
theorem dL_law_1111 : decode cL_law 1111 = .ok (.laload, 1) := by decide +kernel
theorem dL_law_1112 : decode cL_law 1112 = .ok (.iload 6, 2) := by decide +kernel
theorem dL_law_1114 : decode cL_law 1114 = .ok (.i2l, 1) := by decide +kernel
theorem dL_law_1115 : decode cL_law 1115 = .ok (.lcmp, 1) := by decide +kernel
theorem dL_law_1116 : decode cL_law 1116 = .ok (.ifCond .eq 5, 3) := by decide +kernel
theorem dL_law_1119 : decode cL_law 1119 = .ok (.iconst 0, 1) := by decide +kernel
theorem dL_law_1120 : decode cL_law 1120 = .ok (.ireturn, 1) := by decide +kernel
theorem dL_law_1121 : decode cL_law 1121 = .ok (.goto 1471, 3) := by decide +kernel
theorem dL_law_1124 : decode cL_law 1124 = .ok (.aload_n 1, 1) := by decide +kernel
theorem dL_law_1125 : decode cL_law 1125 = .ok (.invokevirtual 192, 3) := by decide +kernel
theorem dL_law_1128 : decode cL_law 1128 = .ok (.aload_n 2, 1) := by decide +kernel
theorem dL_law_1129 : decode cL_law 1129 = .ok (.invokevirtual 195, 3) := by decide +kernel
theorem dL_law_1132 : decode cL_law 1132 = .ok (.if_icmp .eq 1460, 3) := by decide +kernel
theorem dL_law_1135 : decode cL_law 1135 = .ok (.iconst 0, 1) := by decide +kernel
theorem dL_law_1136 : decode cL_law 1136 = .ok (.ireturn, 1) := by decide +kernel
theorem dL_law_1137 : decode cL_law 1137 = .ok (.aload_n 1, 1) := by decide +kernel
theorem dL_law_1138 : decode cL_law 1138 = .ok (.invokevirtual 196, 3) := by decide +kernel
theorem dL_law_1141 : decode cL_law 1141 = .ok (.aload_n 2, 1) := by decide +kernel
theorem dL_law_1142 : decode cL_law 1142 = .ok (.invokevirtual 199, 3) := by decide +kernel
theorem dL_law_1145 : decode cL_law 1145 = .ok (.if_icmp .eq 1447, 3) := by decide +kernel
theorem dL_law_1148 : decode cL_law 1148 = .ok (.iconst 0, 1) := by decide +kernel
theorem dL_law_1149 : decode cL_law 1149 = .ok (.ireturn, 1) := by decide +kernel
theorem dL_law_1150 : decode cL_law 1150 = .ok (.aload_n 1, 1) := by decide +kernel
theorem dL_law_1151 : decode cL_law 1151 = .ok (.invokevirtual 200, 3) := by decide +kernel
theorem dL_law_1154 : decode cL_law 1154 = .ok (.aload_n 2, 1) := by decide +kernel
theorem dL_law_1155 : decode cL_law 1155 = .ok (.invokevirtual 204, 3) := by decide +kernel
theorem dL_law_1158 : decode cL_law 1158 = .ok (.lcmp, 1) := by decide +kernel
theorem dL_law_1159 : decode cL_law 1159 = .ok (.ifCond .eq 1433, 3) := by decide +kernel
theorem dL_law_1162 : decode cL_law 1162 = .ok (.iconst 0, 1) := by decide +kernel
theorem dL_law_1163 : decode cL_law 1163 = .ok (.ireturn, 1) := by decide +kernel
theorem dL_law_1164 : decode cL_law 1164 = .ok (.aload_n 1, 1) := by decide +kernel
theorem dL_law_1165 : decode cL_law 1165 = .ok (.aload_n 0, 1) := by decide +kernel
theorem dL_law_1166 : decode cL_law 1166 = .ok (.iload 4, 2) := by decide +kernel
theorem dL_law_1168 : decode cL_law 1168 = .ok (.iconst 1, 1) := by decide +kernel
theorem dL_law_1169 : decode cL_law 1169 = .ok (.iadd, 1) := by decide +kernel
theorem dL_law_1170 : decode cL_law 1170 = .ok (.iaload, 1) := by decide +kernel
theorem dL_law_1171 : decode cL_law 1171 = .ok (.aload_n 0, 1) := by decide +kernel
theorem dL_law_1172 : decode cL_law 1172 = .ok (.iload 4, 2) := by decide +kernel
theorem dL_law_1174 : decode cL_law 1174 = .ok (.iconst 2, 1) := by decide +kernel
theorem dL_law_1175 : decode cL_law 1175 = .ok (.iadd, 1) := by decide +kernel
theorem dL_law_1176 : decode cL_law 1176 = .ok (.iaload, 1) := by decide +kernel
theorem dL_law_1177 : decode cL_law 1177 = .ok (.aload_n 3, 1) := by decide +kernel
theorem dL_law_1178 : decode cL_law 1178 = .ok (.invokestatic 205, 3) := by decide +kernel
theorem dL_law_1181 : decode cL_law 1181 = .ok (.istore 5, 2) := by decide +kernel
theorem dL_law_1183 : decode cL_law 1183 = .ok (.aload_n 2, 1) := by decide +kernel
theorem dL_law_1184 : decode cL_law 1184 = .ok (.aload_n 0, 1) := by decide +kernel
theorem dL_law_1185 : decode cL_law 1185 = .ok (.iload 4, 2) := by decide +kernel
theorem dL_law_1187 : decode cL_law 1187 = .ok (.iconst 1, 1) := by decide +kernel
theorem dL_law_1188 : decode cL_law 1188 = .ok (.iadd, 1) := by decide +kernel
theorem dL_law_1189 : decode cL_law 1189 = .ok (.iaload, 1) := by decide +kernel
theorem dL_law_1190 : decode cL_law 1190 = .ok (.aload_n 0, 1) := by decide +kernel
theorem dL_law_1191 : decode cL_law 1191 = .ok (.iload 4, 2) := by decide +kernel
theorem dL_law_1193 : decode cL_law 1193 = .ok (.iconst 2, 1) := by decide +kernel
theorem dL_law_1194 : decode cL_law 1194 = .ok (.iadd, 1) := by decide +kernel
theorem dL_law_1195 : decode cL_law 1195 = .ok (.iaload, 1) := by decide +kernel
theorem dL_law_1196 : decode cL_law 1196 = .ok (.invokevirtual 207, 3) := by decide +kernel
theorem dL_law_1199 : decode cL_law 1199 = .ok (.istore 6, 2) := by decide +kernel
theorem dL_law_1201 : decode cL_law 1201 = .ok (.aload_n 2, 1) := by decide +kernel
theorem dL_law_1202 : decode cL_law 1202 = .ok (.invokevirtual 133, 3) := by decide +kernel
theorem dL_law_1205 : decode cL_law 1205 = .ok (.iload 5, 2) := by decide +kernel
theorem dL_law_1207 : decode cL_law 1207 = .ok (.if_icmp .eq 5, 3) := by decide +kernel
theorem dL_law_1210 : decode cL_law 1210 = .ok (.iconst 0, 1) := by decide +kernel
theorem dL_law_1211 : decode cL_law 1211 = .ok (.ireturn, 1) := by decide +kernel
theorem dL_law_1212 : decode cL_law 1212 = .ok (.iload 5, 2) := by decide +kernel
theorem dL_law_1214 : decode cL_law 1214 = .ok (.ifCond .ne 15, 3) := by decide +kernel
theorem dL_law_1217 : decode cL_law 1217 = .ok (.aload_n 3, 1) := by decide +kernel
theorem dL_law_1218 : decode cL_law 1218 = .ok (.iconst 0, 1) := by decide +kernel
theorem dL_law_1219 : decode cL_law 1219 = .ok (.laload, 1) := by decide +kernel
theorem dL_law_1220 : decode cL_law 1220 = .ok (.iload 6, 2) := by decide +kernel
theorem dL_law_1222 : decode cL_law 1222 = .ok (.i2l, 1) := by decide +kernel
theorem dL_law_1223 : decode cL_law 1223 = .ok (.lcmp, 1) := by decide +kernel
theorem dL_law_1224 : decode cL_law 1224 = .ok (.ifCond .eq 5, 3) := by decide +kernel
theorem dL_law_1227 : decode cL_law 1227 = .ok (.iconst 0, 1) := by decide +kernel
theorem dL_law_1228 : decode cL_law 1228 = .ok (.ireturn, 1) := by decide +kernel
theorem dL_law_1229 : decode cL_law 1229 = .ok (.goto 1363, 3) := by decide +kernel
theorem dL_law_1232 : decode cL_law 1232 = .ok (.aload_n 1, 1) := by decide +kernel
theorem dL_law_1233 : decode cL_law 1233 = .ok (.aload_n 0, 1) := by decide +kernel
theorem dL_law_1234 : decode cL_law 1234 = .ok (.iload 4, 2) := by decide +kernel
theorem dL_law_1236 : decode cL_law 1236 = .ok (.iconst 1, 1) := by decide +kernel
theorem dL_law_1237 : decode cL_law 1237 = .ok (.iadd, 1) := by decide +kernel
theorem dL_law_1238 : decode cL_law 1238 = .ok (.iaload, 1) := by decide +kernel
theorem dL_law_1239 : decode cL_law 1239 = .ok (.aload_n 0, 1) := by decide +kernel
theorem dL_law_1240 : decode cL_law 1240 = .ok (.iload 4, 2) := by decide +kernel
theorem dL_law_1242 : decode cL_law 1242 = .ok (.iconst 2, 1) := by decide +kernel
theorem dL_law_1243 : decode cL_law 1243 = .ok (.iadd, 1) := by decide +kernel
theorem dL_law_1244 : decode cL_law 1244 = .ok (.iaload, 1) := by decide +kernel
theorem dL_law_1245 : decode cL_law 1245 = .ok (.aload_n 0, 1) := by decide +kernel
theorem dL_law_1246 : decode cL_law 1246 = .ok (.iload 4, 2) := by decide +kernel
theorem dL_law_1248 : decode cL_law 1248 = .ok (.iconst 3, 1) := by decide +kernel
theorem dL_law_1249 : decode cL_law 1249 = .ok (.iadd, 1) := by decide +kernel
theorem dL_law_1250 : decode cL_law 1250 = .ok (.iaload, 1) := by decide +kernel
theorem dL_law_1251 : decode cL_law 1251 = .ok (.aload_n 0, 1) := by decide +kernel
theorem dL_law_1252 : decode cL_law 1252 = .ok (.iload 4, 2) := by decide +kernel
theorem dL_law_1254 : decode cL_law 1254 = .ok (.iconst 4, 1) := by decide +kernel
theorem dL_law_1255 : decode cL_law 1255 = .ok (.iadd, 1) := by decide +kernel
theorem dL_law_1256 : decode cL_law 1256 = .ok (.iaload, 1) := by decide +kernel
theorem dL_law_1257 : decode cL_law 1257 = .ok (.aload_n 3, 1) := by decide +kernel
theorem dL_law_1258 : decode cL_law 1258 = .ok (.invokestatic 208, 3) := by decide +kernel
theorem dL_law_1261 : decode cL_law 1261 = .ok (.istore 5, 2) := by decide +kernel
theorem dL_law_1263 : decode cL_law 1263 = .ok (.aload_n 2, 1) := by decide +kernel
theorem dL_law_1264 : decode cL_law 1264 = .ok (.aload_n 0, 1) := by decide +kernel
theorem dL_law_1265 : decode cL_law 1265 = .ok (.iload 4, 2) := by decide +kernel
theorem dL_law_1267 : decode cL_law 1267 = .ok (.iconst 1, 1) := by decide +kernel
theorem dL_law_1268 : decode cL_law 1268 = .ok (.iadd, 1) := by decide +kernel
theorem dL_law_1269 : decode cL_law 1269 = .ok (.iaload, 1) := by decide +kernel
theorem dL_law_1270 : decode cL_law 1270 = .ok (.aload_n 0, 1) := by decide +kernel
theorem dL_law_1271 : decode cL_law 1271 = .ok (.iload 4, 2) := by decide +kernel
theorem dL_law_1273 : decode cL_law 1273 = .ok (.iconst 2, 1) := by decide +kernel
theorem dL_law_1274 : decode cL_law 1274 = .ok (.iadd, 1) := by decide +kernel
theorem dL_law_1275 : decode cL_law 1275 = .ok (.iaload, 1) := by decide +kernel
theorem dL_law_1276 : decode cL_law 1276 = .ok (.aload_n 0, 1) := by decide +kernel
theorem dL_law_1277 : decode cL_law 1277 = .ok (.iload 4, 2) := by decide +kernel
theorem dL_law_1279 : decode cL_law 1279 = .ok (.iconst 3, 1) := by decide +kernel
theorem dL_law_1280 : decode cL_law 1280 = .ok (.iadd, 1) := by decide +kernel
theorem dL_law_1281 : decode cL_law 1281 = .ok (.iaload, 1) := by decide +kernel
theorem dL_law_1282 : decode cL_law 1282 = .ok (.aload_n 0, 1) := by decide +kernel
theorem dL_law_1283 : decode cL_law 1283 = .ok (.iload 4, 2) := by decide +kernel
theorem dL_law_1285 : decode cL_law 1285 = .ok (.iconst 4, 1) := by decide +kernel
theorem dL_law_1286 : decode cL_law 1286 = .ok (.iadd, 1) := by decide +kernel
theorem dL_law_1287 : decode cL_law 1287 = .ok (.iaload, 1) := by decide +kernel
theorem dL_law_1288 : decode cL_law 1288 = .ok (.invokevirtual 211, 3) := by decide +kernel
theorem dL_law_1291 : decode cL_law 1291 = .ok (.lstore 6, 2) := by decide +kernel
theorem dL_law_1293 : decode cL_law 1293 = .ok (.aload_n 2, 1) := by decide +kernel
theorem dL_law_1294 : decode cL_law 1294 = .ok (.invokevirtual 133, 3) := by decide +kernel
theorem dL_law_1297 : decode cL_law 1297 = .ok (.iload 5, 2) := by decide +kernel
theorem dL_law_1299 : decode cL_law 1299 = .ok (.if_icmp .eq 5, 3) := by decide +kernel
theorem dL_law_1302 : decode cL_law 1302 = .ok (.iconst 0, 1) := by decide +kernel
theorem dL_law_1303 : decode cL_law 1303 = .ok (.ireturn, 1) := by decide +kernel
theorem dL_law_1304 : decode cL_law 1304 = .ok (.iload 5, 2) := by decide +kernel
theorem dL_law_1306 : decode cL_law 1306 = .ok (.ifCond .ne 14, 3) := by decide +kernel
theorem dL_law_1309 : decode cL_law 1309 = .ok (.aload_n 3, 1) := by decide +kernel
theorem dL_law_1310 : decode cL_law 1310 = .ok (.iconst 0, 1) := by decide +kernel
theorem dL_law_1311 : decode cL_law 1311 = .ok (.laload, 1) := by decide +kernel
theorem dL_law_1312 : decode cL_law 1312 = .ok (.lload 6, 2) := by decide +kernel
theorem dL_law_1314 : decode cL_law 1314 = .ok (.lcmp, 1) := by decide +kernel
theorem dL_law_1315 : decode cL_law 1315 = .ok (.ifCond .eq 5, 3) := by decide +kernel
theorem dL_law_1318 : decode cL_law 1318 = .ok (.iconst 0, 1) := by decide +kernel
theorem dL_law_1319 : decode cL_law 1319 = .ok (.ireturn, 1) := by decide +kernel
theorem dL_law_1320 : decode cL_law 1320 = .ok (.goto 1272, 3) := by decide +kernel
theorem dL_law_1323 : decode cL_law 1323 = .ok (.aload_n 1, 1) := by decide +kernel
theorem dL_law_1324 : decode cL_law 1324 = .ok (.aload_n 0, 1) := by decide +kernel
theorem dL_law_1325 : decode cL_law 1325 = .ok (.iload 4, 2) := by decide +kernel
theorem dL_law_1327 : decode cL_law 1327 = .ok (.iconst 1, 1) := by decide +kernel
theorem dL_law_1328 : decode cL_law 1328 = .ok (.iadd, 1) := by decide +kernel
theorem dL_law_1329 : decode cL_law 1329 = .ok (.iaload, 1) := by decide +kernel
theorem dL_law_1330 : decode cL_law 1330 = .ok (.aload_n 0, 1) := by decide +kernel
theorem dL_law_1331 : decode cL_law 1331 = .ok (.iload 4, 2) := by decide +kernel
theorem dL_law_1333 : decode cL_law 1333 = .ok (.iconst 2, 1) := by decide +kernel
theorem dL_law_1334 : decode cL_law 1334 = .ok (.iadd, 1) := by decide +kernel
theorem dL_law_1335 : decode cL_law 1335 = .ok (.iaload, 1) := by decide +kernel
theorem dL_law_1336 : decode cL_law 1336 = .ok (.aload_n 3, 1) := by decide +kernel
theorem dL_law_1337 : decode cL_law 1337 = .ok (.invokestatic 212, 3) := by decide +kernel
theorem dL_law_1340 : decode cL_law 1340 = .ok (.istore 5, 2) := by decide +kernel
theorem dL_law_1342 : decode cL_law 1342 = .ok (.aload_n 2, 1) := by decide +kernel
theorem dL_law_1343 : decode cL_law 1343 = .ok (.aload_n 0, 1) := by decide +kernel
theorem dL_law_1344 : decode cL_law 1344 = .ok (.iload 4, 2) := by decide +kernel
theorem dL_law_1346 : decode cL_law 1346 = .ok (.iconst 1, 1) := by decide +kernel
theorem dL_law_1347 : decode cL_law 1347 = .ok (.iadd, 1) := by decide +kernel
theorem dL_law_1348 : decode cL_law 1348 = .ok (.iaload, 1) := by decide +kernel
theorem dL_law_1349 : decode cL_law 1349 = .ok (.aload_n 0, 1) := by decide +kernel
theorem dL_law_1350 : decode cL_law 1350 = .ok (.iload 4, 2) := by decide +kernel
theorem dL_law_1352 : decode cL_law 1352 = .ok (.iconst 2, 1) := by decide +kernel
theorem dL_law_1353 : decode cL_law 1353 = .ok (.iadd, 1) := by decide +kernel
theorem dL_law_1354 : decode cL_law 1354 = .ok (.iaload, 1) := by decide +kernel
theorem dL_law_1355 : decode cL_law 1355 = .ok (.invokevirtual 214, 3) := by decide +kernel
theorem dL_law_1358 : decode cL_law 1358 = .ok (.lstore 6, 2) := by decide +kernel
theorem dL_law_1360 : decode cL_law 1360 = .ok (.aload_n 2, 1) := by decide +kernel
theorem dL_law_1361 : decode cL_law 1361 = .ok (.invokevirtual 133, 3) := by decide +kernel
theorem dL_law_1364 : decode cL_law 1364 = .ok (.iload 5, 2) := by decide +kernel
theorem dL_law_1366 : decode cL_law 1366 = .ok (.if_icmp .eq 5, 3) := by decide +kernel
theorem dL_law_1369 : decode cL_law 1369 = .ok (.iconst 0, 1) := by decide +kernel
theorem dL_law_1370 : decode cL_law 1370 = .ok (.ireturn, 1) := by decide +kernel
theorem dL_law_1371 : decode cL_law 1371 = .ok (.iload 5, 2) := by decide +kernel
theorem dL_law_1373 : decode cL_law 1373 = .ok (.ifCond .ne 14, 3) := by decide +kernel
theorem dL_law_1376 : decode cL_law 1376 = .ok (.aload_n 3, 1) := by decide +kernel
theorem dL_law_1377 : decode cL_law 1377 = .ok (.iconst 0, 1) := by decide +kernel
theorem dL_law_1378 : decode cL_law 1378 = .ok (.laload, 1) := by decide +kernel
theorem dL_law_1379 : decode cL_law 1379 = .ok (.lload 6, 2) := by decide +kernel
theorem dL_law_1381 : decode cL_law 1381 = .ok (.lcmp, 1) := by decide +kernel
theorem dL_law_1382 : decode cL_law 1382 = .ok (.ifCond .eq 5, 3) := by decide +kernel
theorem dL_law_1385 : decode cL_law 1385 = .ok (.iconst 0, 1) := by decide +kernel
theorem dL_law_1386 : decode cL_law 1386 = .ok (.ireturn, 1) := by decide +kernel
theorem dL_law_1387 : decode cL_law 1387 = .ok (.goto 1205, 3) := by decide +kernel
theorem dL_law_1390 : decode cL_law 1390 = .ok (.aload_n 1, 1) := by decide +kernel
theorem dL_law_1391 : decode cL_law 1391 = .ok (.aload_n 0, 1) := by decide +kernel
theorem dL_law_1392 : decode cL_law 1392 = .ok (.iload 4, 2) := by decide +kernel
theorem dL_law_1394 : decode cL_law 1394 = .ok (.iconst 1, 1) := by decide +kernel
theorem dL_law_1395 : decode cL_law 1395 = .ok (.iadd, 1) := by decide +kernel
theorem dL_law_1396 : decode cL_law 1396 = .ok (.iaload, 1) := by decide +kernel
theorem dL_law_1397 : decode cL_law 1397 = .ok (.aload_n 3, 1) := by decide +kernel
theorem dL_law_1398 : decode cL_law 1398 = .ok (.invokestatic 215, 3) := by decide +kernel
theorem dL_law_1401 : decode cL_law 1401 = .ok (.istore 5, 2) := by decide +kernel
theorem dL_law_1403 : decode cL_law 1403 = .ok (.aload_n 2, 1) := by decide +kernel
theorem dL_law_1404 : decode cL_law 1404 = .ok (.aload_n 0, 1) := by decide +kernel
theorem dL_law_1405 : decode cL_law 1405 = .ok (.iload 4, 2) := by decide +kernel
theorem dL_law_1407 : decode cL_law 1407 = .ok (.iconst 1, 1) := by decide +kernel
theorem dL_law_1408 : decode cL_law 1408 = .ok (.iadd, 1) := by decide +kernel
theorem dL_law_1409 : decode cL_law 1409 = .ok (.iaload, 1) := by decide +kernel
theorem dL_law_1410 : decode cL_law 1410 = .ok (.invokevirtual 217, 3) := by decide +kernel
theorem dL_law_1413 : decode cL_law 1413 = .ok (.lstore 6, 2) := by decide +kernel
theorem dL_law_1415 : decode cL_law 1415 = .ok (.aload_n 2, 1) := by decide +kernel
theorem dL_law_1416 : decode cL_law 1416 = .ok (.invokevirtual 133, 3) := by decide +kernel
theorem dL_law_1419 : decode cL_law 1419 = .ok (.iload 5, 2) := by decide +kernel
theorem dL_law_1421 : decode cL_law 1421 = .ok (.if_icmp .eq 5, 3) := by decide +kernel
theorem dL_law_1424 : decode cL_law 1424 = .ok (.iconst 0, 1) := by decide +kernel
theorem dL_law_1425 : decode cL_law 1425 = .ok (.ireturn, 1) := by decide +kernel
theorem dL_law_1426 : decode cL_law 1426 = .ok (.iload 5, 2) := by decide +kernel
theorem dL_law_1428 : decode cL_law 1428 = .ok (.ifCond .ne 14, 3) := by decide +kernel
theorem dL_law_1431 : decode cL_law 1431 = .ok (.aload_n 3, 1) := by decide +kernel
theorem dL_law_1432 : decode cL_law 1432 = .ok (.iconst 0, 1) := by decide +kernel
theorem dL_law_1433 : decode cL_law 1433 = .ok (.laload, 1) := by decide +kernel
theorem dL_law_1434 : decode cL_law 1434 = .ok (.lload 6, 2) := by decide +kernel
theorem dL_law_1436 : decode cL_law 1436 = .ok (.lcmp, 1) := by decide +kernel
theorem dL_law_1437 : decode cL_law 1437 = .ok (.ifCond .eq 5, 3) := by decide +kernel
theorem dL_law_1440 : decode cL_law 1440 = .ok (.iconst 0, 1) := by decide +kernel
theorem dL_law_1441 : decode cL_law 1441 = .ok (.ireturn, 1) := by decide +kernel
theorem dL_law_1442 : decode cL_law 1442 = .ok (.goto 1150, 3) := by decide +kernel
theorem dL_law_1445 : decode cL_law 1445 = .ok (.aload_n 1, 1) := by decide +kernel
theorem dL_law_1446 : decode cL_law 1446 = .ok (.aload_n 0, 1) := by decide +kernel
theorem dL_law_1447 : decode cL_law 1447 = .ok (.iload 4, 2) := by decide +kernel
theorem dL_law_1449 : decode cL_law 1449 = .ok (.iconst 1, 1) := by decide +kernel
theorem dL_law_1450 : decode cL_law 1450 = .ok (.iadd, 1) := by decide +kernel
theorem dL_law_1451 : decode cL_law 1451 = .ok (.iaload, 1) := by decide +kernel
theorem dL_law_1452 : decode cL_law 1452 = .ok (.aload_n 3, 1) := by decide +kernel
theorem dL_law_1453 : decode cL_law 1453 = .ok (.invokestatic 218, 3) := by decide +kernel
theorem dL_law_1456 : decode cL_law 1456 = .ok (.istore 5, 2) := by decide +kernel
theorem dL_law_1458 : decode cL_law 1458 = .ok (.aload_n 2, 1) := by decide +kernel
theorem dL_law_1459 : decode cL_law 1459 = .ok (.aload_n 0, 1) := by decide +kernel
theorem dL_law_1460 : decode cL_law 1460 = .ok (.iload 4, 2) := by decide +kernel
theorem dL_law_1462 : decode cL_law 1462 = .ok (.iconst 1, 1) := by decide +kernel
theorem dL_law_1463 : decode cL_law 1463 = .ok (.iadd, 1) := by decide +kernel
theorem dL_law_1464 : decode cL_law 1464 = .ok (.iaload, 1) := by decide +kernel
theorem dL_law_1465 : decode cL_law 1465 = .ok (.invokevirtual 220, 3) := by decide +kernel
theorem dL_law_1468 : decode cL_law 1468 = .ok (.lstore 6, 2) := by decide +kernel
theorem dL_law_1470 : decode cL_law 1470 = .ok (.aload_n 2, 1) := by decide +kernel
theorem dL_law_1471 : decode cL_law 1471 = .ok (.invokevirtual 133, 3) := by decide +kernel
theorem dL_law_1474 : decode cL_law 1474 = .ok (.iload 5, 2) := by decide +kernel
theorem dL_law_1476 : decode cL_law 1476 = .ok (.if_icmp .eq 5, 3) := by decide +kernel
theorem dL_law_1479 : decode cL_law 1479 = .ok (.iconst 0, 1) := by decide +kernel
theorem dL_law_1480 : decode cL_law 1480 = .ok (.ireturn, 1) := by decide +kernel
theorem dL_law_1481 : decode cL_law 1481 = .ok (.iload 5, 2) := by decide +kernel
theorem dL_law_1483 : decode cL_law 1483 = .ok (.ifCond .ne 14, 3) := by decide +kernel
theorem dL_law_1486 : decode cL_law 1486 = .ok (.aload_n 3, 1) := by decide +kernel
theorem dL_law_1487 : decode cL_law 1487 = .ok (.iconst 0, 1) := by decide +kernel
theorem dL_law_1488 : decode cL_law 1488 = .ok (.laload, 1) := by decide +kernel
theorem dL_law_1489 : decode cL_law 1489 = .ok (.lload 6, 2) := by decide +kernel
theorem dL_law_1491 : decode cL_law 1491 = .ok (.lcmp, 1) := by decide +kernel
theorem dL_law_1492 : decode cL_law 1492 = .ok (.ifCond .eq 5, 3) := by decide +kernel
theorem dL_law_1495 : decode cL_law 1495 = .ok (.iconst 0, 1) := by decide +kernel
theorem dL_law_1496 : decode cL_law 1496 = .ok (.ireturn, 1) := by decide +kernel
theorem dL_law_1497 : decode cL_law 1497 = .ok (.goto 1095, 3) := by decide +kernel
theorem dL_law_1500 : decode cL_law 1500 = .ok (.aload_n 1, 1) := by decide +kernel
theorem dL_law_1501 : decode cL_law 1501 = .ok (.invokevirtual 221, 3) := by decide +kernel
theorem dL_law_1504 : decode cL_law 1504 = .ok (.aload_n 2, 1) := by decide +kernel
theorem dL_law_1505 : decode cL_law 1505 = .ok (.invokevirtual 224, 3) := by decide +kernel
theorem dL_law_1508 : decode cL_law 1508 = .ok (.lcmp, 1) := by decide +kernel
theorem dL_law_1509 : decode cL_law 1509 = .ok (.ifCond .eq 1083, 3) := by decide +kernel
theorem dL_law_1512 : decode cL_law 1512 = .ok (.iconst 0, 1) := by decide +kernel
theorem dL_law_1513 : decode cL_law 1513 = .ok (.ireturn, 1) := by decide +kernel
theorem dL_law_1514 : decode cL_law 1514 = .ok (.aload_n 1, 1) := by decide +kernel
theorem dL_law_1515 : decode cL_law 1515 = .ok (.aload_n 0, 1) := by decide +kernel
theorem dL_law_1516 : decode cL_law 1516 = .ok (.iload 4, 2) := by decide +kernel
theorem dL_law_1518 : decode cL_law 1518 = .ok (.iconst 1, 1) := by decide +kernel
theorem dL_law_1519 : decode cL_law 1519 = .ok (.iadd, 1) := by decide +kernel
theorem dL_law_1520 : decode cL_law 1520 = .ok (.iaload, 1) := by decide +kernel
theorem dL_law_1521 : decode cL_law 1521 = .ok (.aload_n 0, 1) := by decide +kernel
theorem dL_law_1522 : decode cL_law 1522 = .ok (.iload 4, 2) := by decide +kernel
theorem dL_law_1524 : decode cL_law 1524 = .ok (.iconst 2, 1) := by decide +kernel
theorem dL_law_1525 : decode cL_law 1525 = .ok (.iadd, 1) := by decide +kernel
theorem dL_law_1526 : decode cL_law 1526 = .ok (.iaload, 1) := by decide +kernel
theorem dL_law_1527 : decode cL_law 1527 = .ok (.aload_n 3, 1) := by decide +kernel
theorem dL_law_1528 : decode cL_law 1528 = .ok (.invokestatic 225, 3) := by decide +kernel
theorem dL_law_1531 : decode cL_law 1531 = .ok (.istore 5, 2) := by decide +kernel
theorem dL_law_1533 : decode cL_law 1533 = .ok (.aload_n 2, 1) := by decide +kernel
theorem dL_law_1534 : decode cL_law 1534 = .ok (.aload_n 0, 1) := by decide +kernel
theorem dL_law_1535 : decode cL_law 1535 = .ok (.iload 4, 2) := by decide +kernel
theorem dL_law_1537 : decode cL_law 1537 = .ok (.iconst 1, 1) := by decide +kernel
theorem dL_law_1538 : decode cL_law 1538 = .ok (.iadd, 1) := by decide +kernel
theorem dL_law_1539 : decode cL_law 1539 = .ok (.iaload, 1) := by decide +kernel
theorem dL_law_1540 : decode cL_law 1540 = .ok (.aload_n 0, 1) := by decide +kernel
theorem dL_law_1541 : decode cL_law 1541 = .ok (.iload 4, 2) := by decide +kernel
theorem dL_law_1543 : decode cL_law 1543 = .ok (.iconst 2, 1) := by decide +kernel
theorem dL_law_1544 : decode cL_law 1544 = .ok (.iadd, 1) := by decide +kernel
theorem dL_law_1545 : decode cL_law 1545 = .ok (.iaload, 1) := by decide +kernel
theorem dL_law_1546 : decode cL_law 1546 = .ok (.invokevirtual 227, 3) := by decide +kernel
theorem dL_law_1549 : decode cL_law 1549 = .ok (.istore 6, 2) := by decide +kernel
theorem dL_law_1551 : decode cL_law 1551 = .ok (.aload_n 2, 1) := by decide +kernel
theorem dL_law_1552 : decode cL_law 1552 = .ok (.invokevirtual 133, 3) := by decide +kernel
theorem dL_law_1555 : decode cL_law 1555 = .ok (.iload 5, 2) := by decide +kernel
theorem dL_law_1557 : decode cL_law 1557 = .ok (.if_icmp .eq 5, 3) := by decide +kernel
theorem dL_law_1560 : decode cL_law 1560 = .ok (.iconst 0, 1) := by decide +kernel
theorem dL_law_1561 : decode cL_law 1561 = .ok (.ireturn, 1) := by decide +kernel
theorem dL_law_1562 : decode cL_law 1562 = .ok (.iload 5, 2) := by decide +kernel
theorem dL_law_1564 : decode cL_law 1564 = .ok (.ifCond .ne 15, 3) := by decide +kernel
theorem dL_law_1567 : decode cL_law 1567 = .ok (.aload_n 3, 1) := by decide +kernel
theorem dL_law_1568 : decode cL_law 1568 = .ok (.iconst 0, 1) := by decide +kernel
theorem dL_law_1569 : decode cL_law 1569 = .ok (.laload, 1) := by decide +kernel
theorem dL_law_1570 : decode cL_law 1570 = .ok (.iload 6, 2) := by decide +kernel
theorem dL_law_1572 : decode cL_law 1572 = .ok (.i2l, 1) := by decide +kernel
theorem dL_law_1573 : decode cL_law 1573 = .ok (.lcmp, 1) := by decide +kernel
theorem dL_law_1574 : decode cL_law 1574 = .ok (.ifCond .eq 5, 3) := by decide +kernel
theorem dL_law_1577 : decode cL_law 1577 = .ok (.iconst 0, 1) := by decide +kernel
theorem dL_law_1578 : decode cL_law 1578 = .ok (.ireturn, 1) := by decide +kernel
theorem dL_law_1579 : decode cL_law 1579 = .ok (.goto 1013, 3) := by decide +kernel
theorem dL_law_1582 : decode cL_law 1582 = .ok (.aload_n 1, 1) := by decide +kernel
theorem dL_law_1583 : decode cL_law 1583 = .ok (.aload_n 0, 1) := by decide +kernel
theorem dL_law_1584 : decode cL_law 1584 = .ok (.iload 4, 2) := by decide +kernel
theorem dL_law_1586 : decode cL_law 1586 = .ok (.iconst 1, 1) := by decide +kernel
theorem dL_law_1587 : decode cL_law 1587 = .ok (.iadd, 1) := by decide +kernel
theorem dL_law_1588 : decode cL_law 1588 = .ok (.iaload, 1) := by decide +kernel
theorem dL_law_1589 : decode cL_law 1589 = .ok (.aload_n 3, 1) := by decide +kernel
theorem dL_law_1590 : decode cL_law 1590 = .ok (.invokestatic 228, 3) := by decide +kernel
theorem dL_law_1593 : decode cL_law 1593 = .ok (.istore 5, 2) := by decide +kernel
theorem dL_law_1595 : decode cL_law 1595 = .ok (.aload_n 2, 1) := by decide +kernel
theorem dL_law_1596 : decode cL_law 1596 = .ok (.aload_n 0, 1) := by decide +kernel
theorem dL_law_1597 : decode cL_law 1597 = .ok (.iload 4, 2) := by decide +kernel
theorem dL_law_1599 : decode cL_law 1599 = .ok (.iconst 1, 1) := by decide +kernel
theorem dL_law_1600 : decode cL_law 1600 = .ok (.iadd, 1) := by decide +kernel
theorem dL_law_1601 : decode cL_law 1601 = .ok (.iaload, 1) := by decide +kernel
theorem dL_law_1602 : decode cL_law 1602 = .ok (.invokevirtual 230, 3) := by decide +kernel
theorem dL_law_1605 : decode cL_law 1605 = .ok (.lstore 6, 2) := by decide +kernel
theorem dL_law_1607 : decode cL_law 1607 = .ok (.aload_n 2, 1) := by decide +kernel
theorem dL_law_1608 : decode cL_law 1608 = .ok (.invokevirtual 133, 3) := by decide +kernel
theorem dL_law_1611 : decode cL_law 1611 = .ok (.iload 5, 2) := by decide +kernel
theorem dL_law_1613 : decode cL_law 1613 = .ok (.if_icmp .eq 5, 3) := by decide +kernel
theorem dL_law_1616 : decode cL_law 1616 = .ok (.iconst 0, 1) := by decide +kernel
theorem dL_law_1617 : decode cL_law 1617 = .ok (.ireturn, 1) := by decide +kernel
theorem dL_law_1618 : decode cL_law 1618 = .ok (.iload 5, 2) := by decide +kernel
theorem dL_law_1620 : decode cL_law 1620 = .ok (.ifCond .ne 14, 3) := by decide +kernel
theorem dL_law_1623 : decode cL_law 1623 = .ok (.aload_n 3, 1) := by decide +kernel
theorem dL_law_1624 : decode cL_law 1624 = .ok (.iconst 0, 1) := by decide +kernel
theorem dL_law_1625 : decode cL_law 1625 = .ok (.laload, 1) := by decide +kernel
theorem dL_law_1626 : decode cL_law 1626 = .ok (.lload 6, 2) := by decide +kernel
theorem dL_law_1628 : decode cL_law 1628 = .ok (.lcmp, 1) := by decide +kernel
theorem dL_law_1629 : decode cL_law 1629 = .ok (.ifCond .eq 5, 3) := by decide +kernel
theorem dL_law_1632 : decode cL_law 1632 = .ok (.iconst 0, 1) := by decide +kernel
theorem dL_law_1633 : decode cL_law 1633 = .ok (.ireturn, 1) := by decide +kernel
theorem dL_law_1634 : decode cL_law 1634 = .ok (.goto 958, 3) := by decide +kernel
theorem dL_law_1637 : decode cL_law 1637 = .ok (.aload_n 1, 1) := by decide +kernel
theorem dL_law_1638 : decode cL_law 1638 = .ok (.aload_n 0, 1) := by decide +kernel
theorem dL_law_1639 : decode cL_law 1639 = .ok (.iload 4, 2) := by decide +kernel
theorem dL_law_1641 : decode cL_law 1641 = .ok (.iconst 1, 1) := by decide +kernel
theorem dL_law_1642 : decode cL_law 1642 = .ok (.iadd, 1) := by decide +kernel
theorem dL_law_1643 : decode cL_law 1643 = .ok (.iaload, 1) := by decide +kernel
theorem dL_law_1644 : decode cL_law 1644 = .ok (.aload_n 0, 1) := by decide +kernel
theorem dL_law_1645 : decode cL_law 1645 = .ok (.iload 4, 2) := by decide +kernel
theorem dL_law_1647 : decode cL_law 1647 = .ok (.iconst 2, 1) := by decide +kernel
theorem dL_law_1648 : decode cL_law 1648 = .ok (.iadd, 1) := by decide +kernel
theorem dL_law_1649 : decode cL_law 1649 = .ok (.iaload, 1) := by decide +kernel
theorem dL_law_1650 : decode cL_law 1650 = .ok (.aload_n 0, 1) := by decide +kernel
theorem dL_law_1651 : decode cL_law 1651 = .ok (.iload 4, 2) := by decide +kernel
theorem dL_law_1653 : decode cL_law 1653 = .ok (.iconst 3, 1) := by decide +kernel
theorem dL_law_1654 : decode cL_law 1654 = .ok (.iadd, 1) := by decide +kernel
theorem dL_law_1655 : decode cL_law 1655 = .ok (.iaload, 1) := by decide +kernel
theorem dL_law_1656 : decode cL_law 1656 = .ok (.aload_n 0, 1) := by decide +kernel
theorem dL_law_1657 : decode cL_law 1657 = .ok (.iload 4, 2) := by decide +kernel
theorem dL_law_1659 : decode cL_law 1659 = .ok (.iconst 4, 1) := by decide +kernel
theorem dL_law_1660 : decode cL_law 1660 = .ok (.iadd, 1) := by decide +kernel
theorem dL_law_1661 : decode cL_law 1661 = .ok (.iaload, 1) := by decide +kernel
theorem dL_law_1662 : decode cL_law 1662 = .ok (.aload_n 3, 1) := by decide +kernel
theorem dL_law_1663 : decode cL_law 1663 = .ok (.invokestatic 231, 3) := by decide +kernel
theorem dL_law_1666 : decode cL_law 1666 = .ok (.istore 5, 2) := by decide +kernel
theorem dL_law_1668 : decode cL_law 1668 = .ok (.aload_n 2, 1) := by decide +kernel
theorem dL_law_1669 : decode cL_law 1669 = .ok (.aload_n 0, 1) := by decide +kernel
theorem dL_law_1670 : decode cL_law 1670 = .ok (.iload 4, 2) := by decide +kernel
theorem dL_law_1672 : decode cL_law 1672 = .ok (.iconst 1, 1) := by decide +kernel
theorem dL_law_1673 : decode cL_law 1673 = .ok (.iadd, 1) := by decide +kernel
theorem dL_law_1674 : decode cL_law 1674 = .ok (.iaload, 1) := by decide +kernel
theorem dL_law_1675 : decode cL_law 1675 = .ok (.aload_n 0, 1) := by decide +kernel
theorem dL_law_1676 : decode cL_law 1676 = .ok (.iload 4, 2) := by decide +kernel
theorem dL_law_1678 : decode cL_law 1678 = .ok (.iconst 2, 1) := by decide +kernel
theorem dL_law_1679 : decode cL_law 1679 = .ok (.iadd, 1) := by decide +kernel
theorem dL_law_1680 : decode cL_law 1680 = .ok (.iaload, 1) := by decide +kernel
theorem dL_law_1681 : decode cL_law 1681 = .ok (.aload_n 0, 1) := by decide +kernel
theorem dL_law_1682 : decode cL_law 1682 = .ok (.iload 4, 2) := by decide +kernel
theorem dL_law_1684 : decode cL_law 1684 = .ok (.iconst 3, 1) := by decide +kernel
theorem dL_law_1685 : decode cL_law 1685 = .ok (.iadd, 1) := by decide +kernel
theorem dL_law_1686 : decode cL_law 1686 = .ok (.iaload, 1) := by decide +kernel
theorem dL_law_1687 : decode cL_law 1687 = .ok (.aload_n 0, 1) := by decide +kernel
theorem dL_law_1688 : decode cL_law 1688 = .ok (.iload 4, 2) := by decide +kernel
theorem dL_law_1690 : decode cL_law 1690 = .ok (.iconst 4, 1) := by decide +kernel
theorem dL_law_1691 : decode cL_law 1691 = .ok (.iadd, 1) := by decide +kernel
theorem dL_law_1692 : decode cL_law 1692 = .ok (.iaload, 1) := by decide +kernel
theorem dL_law_1693 : decode cL_law 1693 = .ok (.invokevirtual 233, 3) := by decide +kernel
theorem dL_law_1696 : decode cL_law 1696 = .ok (.istore 6, 2) := by decide +kernel
theorem dL_law_1698 : decode cL_law 1698 = .ok (.aload_n 2, 1) := by decide +kernel
theorem dL_law_1699 : decode cL_law 1699 = .ok (.invokevirtual 133, 3) := by decide +kernel
theorem dL_law_1702 : decode cL_law 1702 = .ok (.iload 5, 2) := by decide +kernel
theorem dL_law_1704 : decode cL_law 1704 = .ok (.if_icmp .eq 5, 3) := by decide +kernel
theorem dL_law_1707 : decode cL_law 1707 = .ok (.iconst 0, 1) := by decide +kernel
theorem dL_law_1708 : decode cL_law 1708 = .ok (.ireturn, 1) := by decide +kernel
theorem dL_law_1709 : decode cL_law 1709 = .ok (.iload 5, 2) := by decide +kernel
theorem dL_law_1711 : decode cL_law 1711 = .ok (.ifCond .ne 15, 3) := by decide +kernel
theorem dL_law_1714 : decode cL_law 1714 = .ok (.aload_n 3, 1) := by decide +kernel
theorem dL_law_1715 : decode cL_law 1715 = .ok (.iconst 0, 1) := by decide +kernel
theorem dL_law_1716 : decode cL_law 1716 = .ok (.laload, 1) := by decide +kernel
theorem dL_law_1717 : decode cL_law 1717 = .ok (.iload 6, 2) := by decide +kernel
theorem dL_law_1719 : decode cL_law 1719 = .ok (.i2l, 1) := by decide +kernel
theorem dL_law_1720 : decode cL_law 1720 = .ok (.lcmp, 1) := by decide +kernel
theorem dL_law_1721 : decode cL_law 1721 = .ok (.ifCond .eq 5, 3) := by decide +kernel
theorem dL_law_1724 : decode cL_law 1724 = .ok (.iconst 0, 1) := by decide +kernel
theorem dL_law_1725 : decode cL_law 1725 = .ok (.ireturn, 1) := by decide +kernel
theorem dL_law_1726 : decode cL_law 1726 = .ok (.goto 866, 3) := by decide +kernel
theorem dL_law_1729 : decode cL_law 1729 = .ok (.aload_n 1, 1) := by decide +kernel
theorem dL_law_1730 : decode cL_law 1730 = .ok (.invokevirtual 234, 3) := by decide +kernel
theorem dL_law_1733 : decode cL_law 1733 = .ok (.aload_n 2, 1) := by decide +kernel
theorem dL_law_1734 : decode cL_law 1734 = .ok (.invokevirtual 237, 3) := by decide +kernel
theorem dL_law_1737 : decode cL_law 1737 = .ok (.if_icmp .eq 855, 3) := by decide +kernel
theorem dL_law_1740 : decode cL_law 1740 = .ok (.iconst 0, 1) := by decide +kernel
theorem dL_law_1741 : decode cL_law 1741 = .ok (.ireturn, 1) := by decide +kernel
theorem dL_law_1742 : decode cL_law 1742 = .ok (.aload_n 1, 1) := by decide +kernel
theorem dL_law_1743 : decode cL_law 1743 = .ok (.aload_n 0, 1) := by decide +kernel
theorem dL_law_1744 : decode cL_law 1744 = .ok (.iload 4, 2) := by decide +kernel
theorem dL_law_1746 : decode cL_law 1746 = .ok (.iconst 1, 1) := by decide +kernel
theorem dL_law_1747 : decode cL_law 1747 = .ok (.iadd, 1) := by decide +kernel
theorem dL_law_1748 : decode cL_law 1748 = .ok (.iaload, 1) := by decide +kernel
theorem dL_law_1749 : decode cL_law 1749 = .ok (.aload_n 3, 1) := by decide +kernel
theorem dL_law_1750 : decode cL_law 1750 = .ok (.invokestatic 238, 3) := by decide +kernel
theorem dL_law_1753 : decode cL_law 1753 = .ok (.istore 5, 2) := by decide +kernel
theorem dL_law_1755 : decode cL_law 1755 = .ok (.aload_n 2, 1) := by decide +kernel
theorem dL_law_1756 : decode cL_law 1756 = .ok (.aload_n 0, 1) := by decide +kernel
theorem dL_law_1757 : decode cL_law 1757 = .ok (.iload 4, 2) := by decide +kernel
theorem dL_law_1759 : decode cL_law 1759 = .ok (.iconst 1, 1) := by decide +kernel
theorem dL_law_1760 : decode cL_law 1760 = .ok (.iadd, 1) := by decide +kernel
theorem dL_law_1761 : decode cL_law 1761 = .ok (.iaload, 1) := by decide +kernel
theorem dL_law_1762 : decode cL_law 1762 = .ok (.invokevirtual 240, 3) := by decide +kernel
theorem dL_law_1765 : decode cL_law 1765 = .ok (.istore 6, 2) := by decide +kernel
theorem dL_law_1767 : decode cL_law 1767 = .ok (.aload_n 2, 1) := by decide +kernel
theorem dL_law_1768 : decode cL_law 1768 = .ok (.invokevirtual 133, 3) := by decide +kernel
theorem dL_law_1771 : decode cL_law 1771 = .ok (.iload 5, 2) := by decide +kernel
theorem dL_law_1773 : decode cL_law 1773 = .ok (.if_icmp .eq 5, 3) := by decide +kernel
theorem dL_law_1776 : decode cL_law 1776 = .ok (.iconst 0, 1) := by decide +kernel
theorem dL_law_1777 : decode cL_law 1777 = .ok (.ireturn, 1) := by decide +kernel
theorem dL_law_1778 : decode cL_law 1778 = .ok (.iload 5, 2) := by decide +kernel
theorem dL_law_1780 : decode cL_law 1780 = .ok (.ifCond .ne 15, 3) := by decide +kernel
theorem dL_law_1783 : decode cL_law 1783 = .ok (.aload_n 3, 1) := by decide +kernel
theorem dL_law_1784 : decode cL_law 1784 = .ok (.iconst 0, 1) := by decide +kernel
theorem dL_law_1785 : decode cL_law 1785 = .ok (.laload, 1) := by decide +kernel
theorem dL_law_1786 : decode cL_law 1786 = .ok (.iload 6, 2) := by decide +kernel
theorem dL_law_1788 : decode cL_law 1788 = .ok (.i2l, 1) := by decide +kernel
theorem dL_law_1789 : decode cL_law 1789 = .ok (.lcmp, 1) := by decide +kernel
theorem dL_law_1790 : decode cL_law 1790 = .ok (.ifCond .eq 5, 3) := by decide +kernel
theorem dL_law_1793 : decode cL_law 1793 = .ok (.iconst 0, 1) := by decide +kernel
theorem dL_law_1794 : decode cL_law 1794 = .ok (.ireturn, 1) := by decide +kernel
theorem dL_law_1795 : decode cL_law 1795 = .ok (.goto 797, 3) := by decide +kernel
theorem dL_law_1798 : decode cL_law 1798 = .ok (.aload_n 1, 1) := by decide +kernel
theorem dL_law_1799 : decode cL_law 1799 = .ok (.aload_n 0, 1) := by decide +kernel
theorem dL_law_1800 : decode cL_law 1800 = .ok (.iload 4, 2) := by decide +kernel
theorem dL_law_1802 : decode cL_law 1802 = .ok (.iconst 1, 1) := by decide +kernel
theorem dL_law_1803 : decode cL_law 1803 = .ok (.iadd, 1) := by decide +kernel
theorem dL_law_1804 : decode cL_law 1804 = .ok (.iaload, 1) := by decide +kernel
theorem dL_law_1805 : decode cL_law 1805 = .ok (.aload_n 3, 1) := by decide +kernel
theorem dL_law_1806 : decode cL_law 1806 = .ok (.invokestatic 241, 3) := by decide +kernel
theorem dL_law_1809 : decode cL_law 1809 = .ok (.istore 5, 2) := by decide +kernel
theorem dL_law_1811 : decode cL_law 1811 = .ok (.aload_n 2, 1) := by decide +kernel
theorem dL_law_1812 : decode cL_law 1812 = .ok (.aload_n 0, 1) := by decide +kernel
theorem dL_law_1813 : decode cL_law 1813 = .ok (.iload 4, 2) := by decide +kernel
theorem dL_law_1815 : decode cL_law 1815 = .ok (.iconst 1, 1) := by decide +kernel
theorem dL_law_1816 : decode cL_law 1816 = .ok (.iadd, 1) := by decide +kernel
theorem dL_law_1817 : decode cL_law 1817 = .ok (.iaload, 1) := by decide +kernel
theorem dL_law_1818 : decode cL_law 1818 = .ok (.invokevirtual 243, 3) := by decide +kernel
theorem dL_law_1821 : decode cL_law 1821 = .ok (.istore 6, 2) := by decide +kernel
theorem dL_law_1823 : decode cL_law 1823 = .ok (.aload_n 2, 1) := by decide +kernel
theorem dL_law_1824 : decode cL_law 1824 = .ok (.invokevirtual 133, 3) := by decide +kernel
theorem dL_law_1827 : decode cL_law 1827 = .ok (.iload 5, 2) := by decide +kernel
theorem dL_law_1829 : decode cL_law 1829 = .ok (.if_icmp .eq 5, 3) := by decide +kernel
theorem dL_law_1832 : decode cL_law 1832 = .ok (.iconst 0, 1) := by decide +kernel
theorem dL_law_1833 : decode cL_law 1833 = .ok (.ireturn, 1) := by decide +kernel
theorem dL_law_1834 : decode cL_law 1834 = .ok (.iload 5, 2) := by decide +kernel
theorem dL_law_1836 : decode cL_law 1836 = .ok (.ifCond .ne 15, 3) := by decide +kernel
theorem dL_law_1839 : decode cL_law 1839 = .ok (.aload_n 3, 1) := by decide +kernel
theorem dL_law_1840 : decode cL_law 1840 = .ok (.iconst 0, 1) := by decide +kernel
theorem dL_law_1841 : decode cL_law 1841 = .ok (.laload, 1) := by decide +kernel
theorem dL_law_1842 : decode cL_law 1842 = .ok (.iload 6, 2) := by decide +kernel
theorem dL_law_1844 : decode cL_law 1844 = .ok (.i2l, 1) := by decide +kernel
theorem dL_law_1845 : decode cL_law 1845 = .ok (.lcmp, 1) := by decide +kernel
theorem dL_law_1846 : decode cL_law 1846 = .ok (.ifCond .eq 5, 3) := by decide +kernel
theorem dL_law_1849 : decode cL_law 1849 = .ok (.iconst 0, 1) := by decide +kernel
theorem dL_law_1850 : decode cL_law 1850 = .ok (.ireturn, 1) := by decide +kernel
theorem dL_law_1851 : decode cL_law 1851 = .ok (.goto 741, 3) := by decide +kernel
theorem dL_law_1854 : decode cL_law 1854 = .ok (.aload_n 1, 1) := by decide +kernel
theorem dL_law_1855 : decode cL_law 1855 = .ok (.invokevirtual 244, 3) := by decide +kernel
theorem dL_law_1858 : decode cL_law 1858 = .ok (.aload_n 2, 1) := by decide +kernel
theorem dL_law_1859 : decode cL_law 1859 = .ok (.invokevirtual 247, 3) := by decide +kernel
theorem dL_law_1862 : decode cL_law 1862 = .ok (.if_icmp .eq 730, 3) := by decide +kernel
theorem dL_law_1865 : decode cL_law 1865 = .ok (.iconst 0, 1) := by decide +kernel
theorem dL_law_1866 : decode cL_law 1866 = .ok (.ireturn, 1) := by decide +kernel
theorem dL_law_1867 : decode cL_law 1867 = .ok (.aload_n 1, 1) := by decide +kernel
theorem dL_law_1868 : decode cL_law 1868 = .ok (.aload_n 0, 1) := by decide +kernel
theorem dL_law_1869 : decode cL_law 1869 = .ok (.iload 4, 2) := by decide +kernel
theorem dL_law_1871 : decode cL_law 1871 = .ok (.iconst 1, 1) := by decide +kernel
theorem dL_law_1872 : decode cL_law 1872 = .ok (.iadd, 1) := by decide +kernel
theorem dL_law_1873 : decode cL_law 1873 = .ok (.iaload, 1) := by decide +kernel
theorem dL_law_1874 : decode cL_law 1874 = .ok (.aload_n 0, 1) := by decide +kernel
theorem dL_law_1875 : decode cL_law 1875 = .ok (.iload 4, 2) := by decide +kernel
theorem dL_law_1877 : decode cL_law 1877 = .ok (.iconst 2, 1) := by decide +kernel
theorem dL_law_1878 : decode cL_law 1878 = .ok (.iadd, 1) := by decide +kernel
theorem dL_law_1879 : decode cL_law 1879 = .ok (.iaload, 1) := by decide +kernel
theorem dL_law_1880 : decode cL_law 1880 = .ok (.aload_n 0, 1) := by decide +kernel
theorem dL_law_1881 : decode cL_law 1881 = .ok (.iload 4, 2) := by decide +kernel
theorem dL_law_1883 : decode cL_law 1883 = .ok (.iconst 3, 1) := by decide +kernel
theorem dL_law_1884 : decode cL_law 1884 = .ok (.iadd, 1) := by decide +kernel
theorem dL_law_1885 : decode cL_law 1885 = .ok (.iaload, 1) := by decide +kernel
theorem dL_law_1886 : decode cL_law 1886 = .ok (.aload_n 0, 1) := by decide +kernel
theorem dL_law_1887 : decode cL_law 1887 = .ok (.iload 4, 2) := by decide +kernel
theorem dL_law_1889 : decode cL_law 1889 = .ok (.iconst 4, 1) := by decide +kernel
theorem dL_law_1890 : decode cL_law 1890 = .ok (.iadd, 1) := by decide +kernel
theorem dL_law_1891 : decode cL_law 1891 = .ok (.iaload, 1) := by decide +kernel
theorem dL_law_1892 : decode cL_law 1892 = .ok (.aload_n 3, 1) := by decide +kernel
theorem dL_law_1893 : decode cL_law 1893 = .ok (.invokestatic 248, 3) := by decide +kernel
theorem dL_law_1896 : decode cL_law 1896 = .ok (.istore 5, 2) := by decide +kernel
theorem dL_law_1898 : decode cL_law 1898 = .ok (.aload_n 2, 1) := by decide +kernel
theorem dL_law_1899 : decode cL_law 1899 = .ok (.aload_n 0, 1) := by decide +kernel
theorem dL_law_1900 : decode cL_law 1900 = .ok (.iload 4, 2) := by decide +kernel
theorem dL_law_1902 : decode cL_law 1902 = .ok (.iconst 1, 1) := by decide +kernel
theorem dL_law_1903 : decode cL_law 1903 = .ok (.iadd, 1) := by decide +kernel
theorem dL_law_1904 : decode cL_law 1904 = .ok (.iaload, 1) := by decide +kernel
theorem dL_law_1905 : decode cL_law 1905 = .ok (.aload_n 0, 1) := by decide +kernel
theorem dL_law_1906 : decode cL_law 1906 = .ok (.iload 4, 2) := by decide +kernel
theorem dL_law_1908 : decode cL_law 1908 = .ok (.iconst 2, 1) := by decide +kernel
theorem dL_law_1909 : decode cL_law 1909 = .ok (.iadd, 1) := by decide +kernel
theorem dL_law_1910 : decode cL_law 1910 = .ok (.iaload, 1) := by decide +kernel
theorem dL_law_1911 : decode cL_law 1911 = .ok (.aload_n 0, 1) := by decide +kernel
theorem dL_law_1912 : decode cL_law 1912 = .ok (.iload 4, 2) := by decide +kernel
theorem dL_law_1914 : decode cL_law 1914 = .ok (.iconst 3, 1) := by decide +kernel
theorem dL_law_1915 : decode cL_law 1915 = .ok (.iadd, 1) := by decide +kernel
theorem dL_law_1916 : decode cL_law 1916 = .ok (.iaload, 1) := by decide +kernel
theorem dL_law_1917 : decode cL_law 1917 = .ok (.aload_n 0, 1) := by decide +kernel
theorem dL_law_1918 : decode cL_law 1918 = .ok (.iload 4, 2) := by decide +kernel
theorem dL_law_1920 : decode cL_law 1920 = .ok (.iconst 4, 1) := by decide +kernel
theorem dL_law_1921 : decode cL_law 1921 = .ok (.iadd, 1) := by decide +kernel
theorem dL_law_1922 : decode cL_law 1922 = .ok (.iaload, 1) := by decide +kernel
theorem dL_law_1923 : decode cL_law 1923 = .ok (.invokevirtual 250, 3) := by decide +kernel
theorem dL_law_1926 : decode cL_law 1926 = .ok (.istore 6, 2) := by decide +kernel
theorem dL_law_1928 : decode cL_law 1928 = .ok (.aload_n 2, 1) := by decide +kernel
theorem dL_law_1929 : decode cL_law 1929 = .ok (.invokevirtual 133, 3) := by decide +kernel
theorem dL_law_1932 : decode cL_law 1932 = .ok (.iload 5, 2) := by decide +kernel
theorem dL_law_1934 : decode cL_law 1934 = .ok (.if_icmp .eq 5, 3) := by decide +kernel
theorem dL_law_1937 : decode cL_law 1937 = .ok (.iconst 0, 1) := by decide +kernel
theorem dL_law_1938 : decode cL_law 1938 = .ok (.ireturn, 1) := by decide +kernel
theorem dL_law_1939 : decode cL_law 1939 = .ok (.iload 5, 2) := by decide +kernel
theorem dL_law_1941 : decode cL_law 1941 = .ok (.ifCond .ne 15, 3) := by decide +kernel
theorem dL_law_1944 : decode cL_law 1944 = .ok (.aload_n 3, 1) := by decide +kernel
theorem dL_law_1945 : decode cL_law 1945 = .ok (.iconst 0, 1) := by decide +kernel
theorem dL_law_1946 : decode cL_law 1946 = .ok (.laload, 1) := by decide +kernel
theorem dL_law_1947 : decode cL_law 1947 = .ok (.iload 6, 2) := by decide +kernel
theorem dL_law_1949 : decode cL_law 1949 = .ok (.i2l, 1) := by decide +kernel
theorem dL_law_1950 : decode cL_law 1950 = .ok (.lcmp, 1) := by decide +kernel
theorem dL_law_1951 : decode cL_law 1951 = .ok (.ifCond .eq 5, 3) := by decide +kernel
theorem dL_law_1954 : decode cL_law 1954 = .ok (.iconst 0, 1) := by decide +kernel
theorem dL_law_1955 : decode cL_law 1955 = .ok (.ireturn, 1) := by decide +kernel
theorem dL_law_1956 : decode cL_law 1956 = .ok (.goto 636, 3) := by decide +kernel
theorem dL_law_1959 : decode cL_law 1959 = .ok (.aload_n 1, 1) := by decide +kernel
theorem dL_law_1960 : decode cL_law 1960 = .ok (.aload_n 0, 1) := by decide +kernel
theorem dL_law_1961 : decode cL_law 1961 = .ok (.iload 4, 2) := by decide +kernel
theorem dL_law_1963 : decode cL_law 1963 = .ok (.iconst 1, 1) := by decide +kernel
theorem dL_law_1964 : decode cL_law 1964 = .ok (.iadd, 1) := by decide +kernel
theorem dL_law_1965 : decode cL_law 1965 = .ok (.iaload, 1) := by decide +kernel
theorem dL_law_1966 : decode cL_law 1966 = .ok (.aload_n 3, 1) := by decide +kernel
theorem dL_law_1967 : decode cL_law 1967 = .ok (.invokestatic 251, 3) := by decide +kernel
theorem dL_law_1970 : decode cL_law 1970 = .ok (.istore 5, 2) := by decide +kernel
theorem dL_law_1972 : decode cL_law 1972 = .ok (.aload_n 2, 1) := by decide +kernel
theorem dL_law_1973 : decode cL_law 1973 = .ok (.aload_n 0, 1) := by decide +kernel
theorem dL_law_1974 : decode cL_law 1974 = .ok (.iload 4, 2) := by decide +kernel
theorem dL_law_1976 : decode cL_law 1976 = .ok (.iconst 1, 1) := by decide +kernel
theorem dL_law_1977 : decode cL_law 1977 = .ok (.iadd, 1) := by decide +kernel
theorem dL_law_1978 : decode cL_law 1978 = .ok (.iaload, 1) := by decide +kernel
theorem dL_law_1979 : decode cL_law 1979 = .ok (.invokevirtual 253, 3) := by decide +kernel
theorem dL_law_1982 : decode cL_law 1982 = .ok (.istore 6, 2) := by decide +kernel
theorem dL_law_1984 : decode cL_law 1984 = .ok (.aload_n 2, 1) := by decide +kernel
theorem dL_law_1985 : decode cL_law 1985 = .ok (.invokevirtual 133, 3) := by decide +kernel
theorem dL_law_1988 : decode cL_law 1988 = .ok (.iload 5, 2) := by decide +kernel
theorem dL_law_1990 : decode cL_law 1990 = .ok (.if_icmp .eq 5, 3) := by decide +kernel
theorem dL_law_1993 : decode cL_law 1993 = .ok (.iconst 0, 1) := by decide +kernel
theorem dL_law_1994 : decode cL_law 1994 = .ok (.ireturn, 1) := by decide +kernel
theorem dL_law_1995 : decode cL_law 1995 = .ok (.iload 5, 2) := by decide +kernel
theorem dL_law_1997 : decode cL_law 1997 = .ok (.ifCond .ne 15, 3) := by decide +kernel
theorem dL_law_2000 : decode cL_law 2000 = .ok (.aload_n 3, 1) := by decide +kernel
theorem dL_law_2001 : decode cL_law 2001 = .ok (.iconst 0, 1) := by decide +kernel
theorem dL_law_2002 : decode cL_law 2002 = .ok (.laload, 1) := by decide +kernel
theorem dL_law_2003 : decode cL_law 2003 = .ok (.iload 6, 2) := by decide +kernel
theorem dL_law_2005 : decode cL_law 2005 = .ok (.i2l, 1) := by decide +kernel
theorem dL_law_2006 : decode cL_law 2006 = .ok (.lcmp, 1) := by decide +kernel
theorem dL_law_2007 : decode cL_law 2007 = .ok (.ifCond .eq 5, 3) := by decide +kernel
theorem dL_law_2010 : decode cL_law 2010 = .ok (.iconst 0, 1) := by decide +kernel
theorem dL_law_2011 : decode cL_law 2011 = .ok (.ireturn, 1) := by decide +kernel
theorem dL_law_2012 : decode cL_law 2012 = .ok (.goto 580, 3) := by decide +kernel
theorem dL_law_2015 : decode cL_law 2015 = .ok (.aload_n 1, 1) := by decide +kernel
theorem dL_law_2016 : decode cL_law 2016 = .ok (.aload_n 0, 1) := by decide +kernel
theorem dL_law_2017 : decode cL_law 2017 = .ok (.iload 4, 2) := by decide +kernel
theorem dL_law_2019 : decode cL_law 2019 = .ok (.iconst 1, 1) := by decide +kernel
theorem dL_law_2020 : decode cL_law 2020 = .ok (.iadd, 1) := by decide +kernel
theorem dL_law_2021 : decode cL_law 2021 = .ok (.iaload, 1) := by decide +kernel
theorem dL_law_2022 : decode cL_law 2022 = .ok (.invokevirtual 254, 3) := by decide +kernel
theorem dL_law_2025 : decode cL_law 2025 = .ok (.aload_n 2, 1) := by decide +kernel
theorem dL_law_2026 : decode cL_law 2026 = .ok (.aload_n 0, 1) := by decide +kernel
theorem dL_law_2027 : decode cL_law 2027 = .ok (.iload 4, 2) := by decide +kernel
theorem dL_law_2029 : decode cL_law 2029 = .ok (.iconst 1, 1) := by decide +kernel
theorem dL_law_2030 : decode cL_law 2030 = .ok (.iadd, 1) := by decide +kernel
theorem dL_law_2031 : decode cL_law 2031 = .ok (.iaload, 1) := by decide +kernel
theorem dL_law_2032 : decode cL_law 2032 = .ok (.invokevirtual 257, 3) := by decide +kernel
theorem dL_law_2035 : decode cL_law 2035 = .ok (.if_icmp .eq 557, 3) := by decide +kernel
theorem dL_law_2038 : decode cL_law 2038 = .ok (.iconst 0, 1) := by decide +kernel
theorem dL_law_2039 : decode cL_law 2039 = .ok (.ireturn, 1) := by decide +kernel
theorem dL_law_2040 : decode cL_law 2040 = .ok (.aload_n 1, 1) := by decide +kernel
theorem dL_law_2041 : decode cL_law 2041 = .ok (.aload_n 0, 1) := by decide +kernel
theorem dL_law_2042 : decode cL_law 2042 = .ok (.iload 4, 2) := by decide +kernel
theorem dL_law_2044 : decode cL_law 2044 = .ok (.iconst 1, 1) := by decide +kernel
theorem dL_law_2045 : decode cL_law 2045 = .ok (.iadd, 1) := by decide +kernel
theorem dL_law_2046 : decode cL_law 2046 = .ok (.iaload, 1) := by decide +kernel
theorem dL_law_2047 : decode cL_law 2047 = .ok (.aload_n 3, 1) := by decide +kernel
theorem dL_law_2048 : decode cL_law 2048 = .ok (.invokestatic 258, 3) := by decide +kernel
theorem dL_law_2051 : decode cL_law 2051 = .ok (.istore 5, 2) := by decide +kernel
theorem dL_law_2053 : decode cL_law 2053 = .ok (.aload_n 2, 1) := by decide +kernel
theorem dL_law_2054 : decode cL_law 2054 = .ok (.aload_n 0, 1) := by decide +kernel
theorem dL_law_2055 : decode cL_law 2055 = .ok (.iload 4, 2) := by decide +kernel
theorem dL_law_2057 : decode cL_law 2057 = .ok (.iconst 1, 1) := by decide +kernel
theorem dL_law_2058 : decode cL_law 2058 = .ok (.iadd, 1) := by decide +kernel
theorem dL_law_2059 : decode cL_law 2059 = .ok (.iaload, 1) := by decide +kernel
theorem dL_law_2060 : decode cL_law 2060 = .ok (.invokevirtual 260, 3) := by decide +kernel
theorem dL_law_2063 : decode cL_law 2063 = .ok (.istore 6, 2) := by decide +kernel
theorem dL_law_2065 : decode cL_law 2065 = .ok (.aload_n 2, 1) := by decide +kernel
theorem dL_law_2066 : decode cL_law 2066 = .ok (.invokevirtual 133, 3) := by decide +kernel
theorem dL_law_2069 : decode cL_law 2069 = .ok (.iload 5, 2) := by decide +kernel
theorem dL_law_2071 : decode cL_law 2071 = .ok (.if_icmp .eq 5, 3) := by decide +kernel
theorem dL_law_2074 : decode cL_law 2074 = .ok (.iconst 0, 1) := by decide +kernel
theorem dL_law_2075 : decode cL_law 2075 = .ok (.ireturn, 1) := by decide +kernel
theorem dL_law_2076 : decode cL_law 2076 = .ok (.iload 5, 2) := by decide +kernel
theorem dL_law_2078 : decode cL_law 2078 = .ok (.ifCond .ne 15, 3) := by decide +kernel
theorem dL_law_2081 : decode cL_law 2081 = .ok (.aload_n 3, 1) := by decide +kernel
theorem dL_law_2082 : decode cL_law 2082 = .ok (.iconst 0, 1) := by decide +kernel
theorem dL_law_2083 : decode cL_law 2083 = .ok (.laload, 1) := by decide +kernel
theorem dL_law_2084 : decode cL_law 2084 = .ok (.iload 6, 2) := by decide +kernel
theorem dL_law_2086 : decode cL_law 2086 = .ok (.i2l, 1) := by decide +kernel
theorem dL_law_2087 : decode cL_law 2087 = .ok (.lcmp, 1) := by decide +kernel
theorem dL_law_2088 : decode cL_law 2088 = .ok (.ifCond .eq 5, 3) := by decide +kernel
theorem dL_law_2091 : decode cL_law 2091 = .ok (.iconst 0, 1) := by decide +kernel
theorem dL_law_2092 : decode cL_law 2092 = .ok (.ireturn, 1) := by decide +kernel
theorem dL_law_2093 : decode cL_law 2093 = .ok (.goto 499, 3) := by decide +kernel
theorem dL_law_2096 : decode cL_law 2096 = .ok (.aload_n 1, 1) := by decide +kernel
theorem dL_law_2097 : decode cL_law 2097 = .ok (.invokevirtual 261, 3) := by decide +kernel
theorem dL_law_2100 : decode cL_law 2100 = .ok (.aload_n 2, 1) := by decide +kernel
theorem dL_law_2101 : decode cL_law 2101 = .ok (.invokevirtual 264, 3) := by decide +kernel
theorem dL_law_2104 : decode cL_law 2104 = .ok (.if_icmp .eq 488, 3) := by decide +kernel
theorem dL_law_2107 : decode cL_law 2107 = .ok (.iconst 0, 1) := by decide +kernel
theorem dL_law_2108 : decode cL_law 2108 = .ok (.ireturn, 1) := by decide +kernel
theorem dL_law_2109 : decode cL_law 2109 = .ok (.aload_n 1, 1) := by decide +kernel
theorem dL_law_2110 : decode cL_law 2110 = .ok (.aload_n 0, 1) := by decide +kernel
theorem dL_law_2111 : decode cL_law 2111 = .ok (.iload 4, 2) := by decide +kernel
theorem dL_law_2113 : decode cL_law 2113 = .ok (.iconst 1, 1) := by decide +kernel
theorem dL_law_2114 : decode cL_law 2114 = .ok (.iadd, 1) := by decide +kernel
theorem dL_law_2115 : decode cL_law 2115 = .ok (.iaload, 1) := by decide +kernel
theorem dL_law_2116 : decode cL_law 2116 = .ok (.aload_n 0, 1) := by decide +kernel
theorem dL_law_2117 : decode cL_law 2117 = .ok (.iload 4, 2) := by decide +kernel
theorem dL_law_2119 : decode cL_law 2119 = .ok (.iconst 2, 1) := by decide +kernel
theorem dL_law_2120 : decode cL_law 2120 = .ok (.iadd, 1) := by decide +kernel
theorem dL_law_2121 : decode cL_law 2121 = .ok (.iaload, 1) := by decide +kernel
theorem dL_law_2122 : decode cL_law 2122 = .ok (.aload_n 3, 1) := by decide +kernel
theorem dL_law_2123 : decode cL_law 2123 = .ok (.invokestatic 265, 3) := by decide +kernel
theorem dL_law_2126 : decode cL_law 2126 = .ok (.istore 5, 2) := by decide +kernel
theorem dL_law_2128 : decode cL_law 2128 = .ok (.aload_n 2, 1) := by decide +kernel
theorem dL_law_2129 : decode cL_law 2129 = .ok (.aload_n 0, 1) := by decide +kernel
theorem dL_law_2130 : decode cL_law 2130 = .ok (.iload 4, 2) := by decide +kernel
theorem dL_law_2132 : decode cL_law 2132 = .ok (.iconst 1, 1) := by decide +kernel
theorem dL_law_2133 : decode cL_law 2133 = .ok (.iadd, 1) := by decide +kernel
theorem dL_law_2134 : decode cL_law 2134 = .ok (.iaload, 1) := by decide +kernel
theorem dL_law_2135 : decode cL_law 2135 = .ok (.aload_n 0, 1) := by decide +kernel
theorem dL_law_2136 : decode cL_law 2136 = .ok (.iload 4, 2) := by decide +kernel
theorem dL_law_2138 : decode cL_law 2138 = .ok (.iconst 2, 1) := by decide +kernel
theorem dL_law_2139 : decode cL_law 2139 = .ok (.iadd, 1) := by decide +kernel
theorem dL_law_2140 : decode cL_law 2140 = .ok (.iaload, 1) := by decide +kernel
theorem dL_law_2141 : decode cL_law 2141 = .ok (.invokevirtual 267, 3) := by decide +kernel
theorem dL_law_2144 : decode cL_law 2144 = .ok (.istore 6, 2) := by decide +kernel
theorem dL_law_2146 : decode cL_law 2146 = .ok (.aload_n 2, 1) := by decide +kernel
theorem dL_law_2147 : decode cL_law 2147 = .ok (.invokevirtual 133, 3) := by decide +kernel
theorem dL_law_2150 : decode cL_law 2150 = .ok (.iload 5, 2) := by decide +kernel
theorem dL_law_2152 : decode cL_law 2152 = .ok (.if_icmp .eq 5, 3) := by decide +kernel
theorem dL_law_2155 : decode cL_law 2155 = .ok (.iconst 0, 1) := by decide +kernel
theorem dL_law_2156 : decode cL_law 2156 = .ok (.ireturn, 1) := by decide +kernel
theorem dL_law_2157 : decode cL_law 2157 = .ok (.iload 5, 2) := by decide +kernel
theorem dL_law_2159 : decode cL_law 2159 = .ok (.ifCond .ne 15, 3) := by decide +kernel
theorem dL_law_2162 : decode cL_law 2162 = .ok (.aload_n 3, 1) := by decide +kernel
theorem dL_law_2163 : decode cL_law 2163 = .ok (.iconst 0, 1) := by decide +kernel
theorem dL_law_2164 : decode cL_law 2164 = .ok (.laload, 1) := by decide +kernel
theorem dL_law_2165 : decode cL_law 2165 = .ok (.iload 6, 2) := by decide +kernel
theorem dL_law_2167 : decode cL_law 2167 = .ok (.i2l, 1) := by decide +kernel
theorem dL_law_2168 : decode cL_law 2168 = .ok (.lcmp, 1) := by decide +kernel
theorem dL_law_2169 : decode cL_law 2169 = .ok (.ifCond .eq 5, 3) := by decide +kernel
theorem dL_law_2172 : decode cL_law 2172 = .ok (.iconst 0, 1) := by decide +kernel
theorem dL_law_2173 : decode cL_law 2173 = .ok (.ireturn, 1) := by decide +kernel
theorem dL_law_2174 : decode cL_law 2174 = .ok (.goto 418, 3) := by decide +kernel
theorem dL_law_2177 : decode cL_law 2177 = .ok (.aload_n 1, 1) := by decide +kernel
theorem dL_law_2178 : decode cL_law 2178 = .ok (.aload_n 0, 1) := by decide +kernel
theorem dL_law_2179 : decode cL_law 2179 = .ok (.iload 4, 2) := by decide +kernel
theorem dL_law_2181 : decode cL_law 2181 = .ok (.iconst 1, 1) := by decide +kernel
theorem dL_law_2182 : decode cL_law 2182 = .ok (.iadd, 1) := by decide +kernel
theorem dL_law_2183 : decode cL_law 2183 = .ok (.iaload, 1) := by decide +kernel
theorem dL_law_2184 : decode cL_law 2184 = .ok (.aload_n 3, 1) := by decide +kernel
theorem dL_law_2185 : decode cL_law 2185 = .ok (.invokestatic 268, 3) := by decide +kernel
theorem dL_law_2188 : decode cL_law 2188 = .ok (.istore 5, 2) := by decide +kernel
theorem dL_law_2190 : decode cL_law 2190 = .ok (.aload_n 2, 1) := by decide +kernel
theorem dL_law_2191 : decode cL_law 2191 = .ok (.aload_n 0, 1) := by decide +kernel
theorem dL_law_2192 : decode cL_law 2192 = .ok (.iload 4, 2) := by decide +kernel
theorem dL_law_2194 : decode cL_law 2194 = .ok (.iconst 1, 1) := by decide +kernel
theorem dL_law_2195 : decode cL_law 2195 = .ok (.iadd, 1) := by decide +kernel
theorem dL_law_2196 : decode cL_law 2196 = .ok (.iaload, 1) := by decide +kernel
theorem dL_law_2197 : decode cL_law 2197 = .ok (.invokevirtual 270, 3) := by decide +kernel
theorem dL_law_2200 : decode cL_law 2200 = .ok (.istore 6, 2) := by decide +kernel
theorem dL_law_2202 : decode cL_law 2202 = .ok (.aload_n 2, 1) := by decide +kernel
theorem dL_law_2203 : decode cL_law 2203 = .ok (.invokevirtual 133, 3) := by decide +kernel
theorem dL_law_2206 : decode cL_law 2206 = .ok (.iload 5, 2) := by decide +kernel
theorem dL_law_2208 : decode cL_law 2208 = .ok (.if_icmp .eq 5, 3) := by decide +kernel
theorem dL_law_2211 : decode cL_law 2211 = .ok (.iconst 0, 1) := by decide +kernel
theorem dL_law_2212 : decode cL_law 2212 = .ok (.ireturn, 1) := by decide +kernel
theorem dL_law_2213 : decode cL_law 2213 = .ok (.iload 5, 2) := by decide +kernel
theorem dL_law_2215 : decode cL_law 2215 = .ok (.ifCond .ne 15, 3) := by decide +kernel
theorem dL_law_2218 : decode cL_law 2218 = .ok (.aload_n 3, 1) := by decide +kernel
theorem dL_law_2219 : decode cL_law 2219 = .ok (.iconst 0, 1) := by decide +kernel
theorem dL_law_2220 : decode cL_law 2220 = .ok (.laload, 1) := by decide +kernel
theorem dL_law_2221 : decode cL_law 2221 = .ok (.iload 6, 2) := by decide +kernel
theorem dL_law_2223 : decode cL_law 2223 = .ok (.i2l, 1) := by decide +kernel
theorem dL_law_2224 : decode cL_law 2224 = .ok (.lcmp, 1) := by decide +kernel
theorem dL_law_2225 : decode cL_law 2225 = .ok (.ifCond .eq 5, 3) := by decide +kernel
theorem dL_law_2228 : decode cL_law 2228 = .ok (.iconst 0, 1) := by decide +kernel
theorem dL_law_2229 : decode cL_law 2229 = .ok (.ireturn, 1) := by decide +kernel
theorem dL_law_2230 : decode cL_law 2230 = .ok (.goto 362, 3) := by decide +kernel
theorem dL_law_2233 : decode cL_law 2233 = .ok (.aload_n 1, 1) := by decide +kernel
theorem dL_law_2234 : decode cL_law 2234 = .ok (.aload_n 0, 1) := by decide +kernel
theorem dL_law_2235 : decode cL_law 2235 = .ok (.iload 4, 2) := by decide +kernel
theorem dL_law_2237 : decode cL_law 2237 = .ok (.iconst 1, 1) := by decide +kernel
theorem dL_law_2238 : decode cL_law 2238 = .ok (.iadd, 1) := by decide +kernel
theorem dL_law_2239 : decode cL_law 2239 = .ok (.iaload, 1) := by decide +kernel
theorem dL_law_2240 : decode cL_law 2240 = .ok (.aload_n 3, 1) := by decide +kernel
theorem dL_law_2241 : decode cL_law 2241 = .ok (.invokestatic 271, 3) := by decide +kernel
theorem dL_law_2244 : decode cL_law 2244 = .ok (.istore 5, 2) := by decide +kernel
theorem dL_law_2246 : decode cL_law 2246 = .ok (.aload_n 2, 1) := by decide +kernel
theorem dL_law_2247 : decode cL_law 2247 = .ok (.aload_n 0, 1) := by decide +kernel
theorem dL_law_2248 : decode cL_law 2248 = .ok (.iload 4, 2) := by decide +kernel
theorem dL_law_2250 : decode cL_law 2250 = .ok (.iconst 1, 1) := by decide +kernel
theorem dL_law_2251 : decode cL_law 2251 = .ok (.iadd, 1) := by decide +kernel
theorem dL_law_2252 : decode cL_law 2252 = .ok (.iaload, 1) := by decide +kernel
theorem dL_law_2253 : decode cL_law 2253 = .ok (.invokevirtual 273, 3) := by decide +kernel
theorem dL_law_2256 : decode cL_law 2256 = .ok (.lstore 6, 2) := by decide +kernel
theorem dL_law_2258 : decode cL_law 2258 = .ok (.aload_n 2, 1) := by decide +kernel
theorem dL_law_2259 : decode cL_law 2259 = .ok (.invokevirtual 133, 3) := by decide +kernel
theorem dL_law_2262 : decode cL_law 2262 = .ok (.iload 5, 2) := by decide +kernel
theorem dL_law_2264 : decode cL_law 2264 = .ok (.if_icmp .eq 5, 3) := by decide +kernel
theorem dL_law_2267 : decode cL_law 2267 = .ok (.iconst 0, 1) := by decide +kernel
theorem dL_law_2268 : decode cL_law 2268 = .ok (.ireturn, 1) := by decide +kernel
theorem dL_law_2269 : decode cL_law 2269 = .ok (.iload 5, 2) := by decide +kernel
theorem dL_law_2271 : decode cL_law 2271 = .ok (.ifCond .ne 14, 3) := by decide +kernel
theorem dL_law_2274 : decode cL_law 2274 = .ok (.aload_n 3, 1) := by decide +kernel
theorem dL_law_2275 : decode cL_law 2275 = .ok (.iconst 0, 1) := by decide +kernel
theorem dL_law_2276 : decode cL_law 2276 = .ok (.laload, 1) := by decide +kernel
theorem dL_law_2277 : decode cL_law 2277 = .ok (.lload 6, 2) := by decide +kernel
theorem dL_law_2279 : decode cL_law 2279 = .ok (.lcmp, 1) := by decide +kernel
theorem dL_law_2280 : decode cL_law 2280 = .ok (.ifCond .eq 5, 3) := by decide +kernel
theorem dL_law_2283 : decode cL_law 2283 = .ok (.iconst 0, 1) := by decide +kernel
theorem dL_law_2284 : decode cL_law 2284 = .ok (.ireturn, 1) := by decide +kernel
theorem dL_law_2285 : decode cL_law 2285 = .ok (.goto 307, 3) := by decide +kernel
theorem dL_law_2288 : decode cL_law 2288 = .ok (.aload_n 1, 1) := by decide +kernel
theorem dL_law_2289 : decode cL_law 2289 = .ok (.aload_n 0, 1) := by decide +kernel
theorem dL_law_2290 : decode cL_law 2290 = .ok (.iload 4, 2) := by decide +kernel
theorem dL_law_2292 : decode cL_law 2292 = .ok (.iconst 1, 1) := by decide +kernel
theorem dL_law_2293 : decode cL_law 2293 = .ok (.iadd, 1) := by decide +kernel
theorem dL_law_2294 : decode cL_law 2294 = .ok (.iaload, 1) := by decide +kernel
theorem dL_law_2295 : decode cL_law 2295 = .ok (.aload_n 3, 1) := by decide +kernel
theorem dL_law_2296 : decode cL_law 2296 = .ok (.invokestatic 274, 3) := by decide +kernel
theorem dL_law_2299 : decode cL_law 2299 = .ok (.istore 5, 2) := by decide +kernel
theorem dL_law_2301 : decode cL_law 2301 = .ok (.aload_n 2, 1) := by decide +kernel
theorem dL_law_2302 : decode cL_law 2302 = .ok (.aload_n 0, 1) := by decide +kernel
theorem dL_law_2303 : decode cL_law 2303 = .ok (.iload 4, 2) := by decide +kernel
theorem dL_law_2305 : decode cL_law 2305 = .ok (.iconst 1, 1) := by decide +kernel
theorem dL_law_2306 : decode cL_law 2306 = .ok (.iadd, 1) := by decide +kernel
theorem dL_law_2307 : decode cL_law 2307 = .ok (.iaload, 1) := by decide +kernel
theorem dL_law_2308 : decode cL_law 2308 = .ok (.invokevirtual 276, 3) := by decide +kernel
theorem dL_law_2311 : decode cL_law 2311 = .ok (.istore 6, 2) := by decide +kernel
theorem dL_law_2313 : decode cL_law 2313 = .ok (.aload_n 2, 1) := by decide +kernel
theorem dL_law_2314 : decode cL_law 2314 = .ok (.invokevirtual 133, 3) := by decide +kernel
theorem dL_law_2317 : decode cL_law 2317 = .ok (.iload 5, 2) := by decide +kernel
theorem dL_law_2319 : decode cL_law 2319 = .ok (.if_icmp .eq 5, 3) := by decide +kernel
theorem dL_law_2322 : decode cL_law 2322 = .ok (.iconst 0, 1) := by decide +kernel
theorem dL_law_2323 : decode cL_law 2323 = .ok (.ireturn, 1) := by decide +kernel
theorem dL_law_2324 : decode cL_law 2324 = .ok (.iload 5, 2) := by decide +kernel
theorem dL_law_2326 : decode cL_law 2326 = .ok (.ifCond .ne 15, 3) := by decide +kernel
theorem dL_law_2329 : decode cL_law 2329 = .ok (.aload_n 3, 1) := by decide +kernel
theorem dL_law_2330 : decode cL_law 2330 = .ok (.iconst 0, 1) := by decide +kernel
theorem dL_law_2331 : decode cL_law 2331 = .ok (.laload, 1) := by decide +kernel
theorem dL_law_2332 : decode cL_law 2332 = .ok (.iload 6, 2) := by decide +kernel
theorem dL_law_2334 : decode cL_law 2334 = .ok (.i2l, 1) := by decide +kernel
theorem dL_law_2335 : decode cL_law 2335 = .ok (.lcmp, 1) := by decide +kernel
theorem dL_law_2336 : decode cL_law 2336 = .ok (.ifCond .eq 5, 3) := by decide +kernel
theorem dL_law_2339 : decode cL_law 2339 = .ok (.iconst 0, 1) := by decide +kernel
theorem dL_law_2340 : decode cL_law 2340 = .ok (.ireturn, 1) := by decide +kernel
theorem dL_law_2341 : decode cL_law 2341 = .ok (.goto 251, 3) := by decide +kernel
theorem dL_law_2344 : decode cL_law 2344 = .ok (.aload_n 1, 1) := by decide +kernel
theorem dL_law_2345 : decode cL_law 2345 = .ok (.invokevirtual 277, 3) := by decide +kernel
theorem dL_law_2348 : decode cL_law 2348 = .ok (.aload_n 2, 1) := by decide +kernel
theorem dL_law_2349 : decode cL_law 2349 = .ok (.invokevirtual 280, 3) := by decide +kernel
theorem dL_law_2352 : decode cL_law 2352 = .ok (.if_icmp .eq 240, 3) := by decide +kernel
theorem dL_law_2355 : decode cL_law 2355 = .ok (.iconst 0, 1) := by decide +kernel
theorem dL_law_2356 : decode cL_law 2356 = .ok (.ireturn, 1) := by decide +kernel
theorem dL_law_2357 : decode cL_law 2357 = .ok (.aload_n 1, 1) := by decide +kernel
theorem dL_law_2358 : decode cL_law 2358 = .ok (.aload_n 0, 1) := by decide +kernel
theorem dL_law_2359 : decode cL_law 2359 = .ok (.iload 4, 2) := by decide +kernel
theorem dL_law_2361 : decode cL_law 2361 = .ok (.iconst 1, 1) := by decide +kernel
theorem dL_law_2362 : decode cL_law 2362 = .ok (.iadd, 1) := by decide +kernel
theorem dL_law_2363 : decode cL_law 2363 = .ok (.iaload, 1) := by decide +kernel
theorem dL_law_2364 : decode cL_law 2364 = .ok (.aload_n 3, 1) := by decide +kernel
theorem dL_law_2365 : decode cL_law 2365 = .ok (.invokestatic 281, 3) := by decide +kernel
theorem dL_law_2368 : decode cL_law 2368 = .ok (.istore 5, 2) := by decide +kernel
theorem dL_law_2370 : decode cL_law 2370 = .ok (.aload_n 2, 1) := by decide +kernel
theorem dL_law_2371 : decode cL_law 2371 = .ok (.aload_n 0, 1) := by decide +kernel
theorem dL_law_2372 : decode cL_law 2372 = .ok (.iload 4, 2) := by decide +kernel
theorem dL_law_2374 : decode cL_law 2374 = .ok (.iconst 1, 1) := by decide +kernel
theorem dL_law_2375 : decode cL_law 2375 = .ok (.iadd, 1) := by decide +kernel
theorem dL_law_2376 : decode cL_law 2376 = .ok (.iaload, 1) := by decide +kernel
theorem dL_law_2377 : decode cL_law 2377 = .ok (.invokevirtual 283, 3) := by decide +kernel
theorem dL_law_2380 : decode cL_law 2380 = .ok (.istore 6, 2) := by decide +kernel
theorem dL_law_2382 : decode cL_law 2382 = .ok (.aload_n 2, 1) := by decide +kernel
theorem dL_law_2383 : decode cL_law 2383 = .ok (.invokevirtual 133, 3) := by decide +kernel
theorem dL_law_2386 : decode cL_law 2386 = .ok (.iload 5, 2) := by decide +kernel
theorem dL_law_2388 : decode cL_law 2388 = .ok (.if_icmp .eq 5, 3) := by decide +kernel
theorem dL_law_2391 : decode cL_law 2391 = .ok (.iconst 0, 1) := by decide +kernel
theorem dL_law_2392 : decode cL_law 2392 = .ok (.ireturn, 1) := by decide +kernel
theorem dL_law_2393 : decode cL_law 2393 = .ok (.iload 5, 2) := by decide +kernel
theorem dL_law_2395 : decode cL_law 2395 = .ok (.ifCond .ne 15, 3) := by decide +kernel
theorem dL_law_2398 : decode cL_law 2398 = .ok (.aload_n 3, 1) := by decide +kernel
theorem dL_law_2399 : decode cL_law 2399 = .ok (.iconst 0, 1) := by decide +kernel
theorem dL_law_2400 : decode cL_law 2400 = .ok (.laload, 1) := by decide +kernel
theorem dL_law_2401 : decode cL_law 2401 = .ok (.iload 6, 2) := by decide +kernel
theorem dL_law_2403 : decode cL_law 2403 = .ok (.i2l, 1) := by decide +kernel
theorem dL_law_2404 : decode cL_law 2404 = .ok (.lcmp, 1) := by decide +kernel
theorem dL_law_2405 : decode cL_law 2405 = .ok (.ifCond .eq 5, 3) := by decide +kernel
theorem dL_law_2408 : decode cL_law 2408 = .ok (.iconst 0, 1) := by decide +kernel
theorem dL_law_2409 : decode cL_law 2409 = .ok (.ireturn, 1) := by decide +kernel
theorem dL_law_2410 : decode cL_law 2410 = .ok (.goto 182, 3) := by decide +kernel
theorem dL_law_2413 : decode cL_law 2413 = .ok (.aload_n 1, 1) := by decide +kernel
theorem dL_law_2414 : decode cL_law 2414 = .ok (.aload_n 0, 1) := by decide +kernel
theorem dL_law_2415 : decode cL_law 2415 = .ok (.iload 4, 2) := by decide +kernel
theorem dL_law_2417 : decode cL_law 2417 = .ok (.iconst 1, 1) := by decide +kernel
theorem dL_law_2418 : decode cL_law 2418 = .ok (.iadd, 1) := by decide +kernel
theorem dL_law_2419 : decode cL_law 2419 = .ok (.iaload, 1) := by decide +kernel
theorem dL_law_2420 : decode cL_law 2420 = .ok (.aload_n 0, 1) := by decide +kernel
theorem dL_law_2421 : decode cL_law 2421 = .ok (.iload 4, 2) := by decide +kernel
theorem dL_law_2423 : decode cL_law 2423 = .ok (.iconst 2, 1) := by decide +kernel
theorem dL_law_2424 : decode cL_law 2424 = .ok (.iadd, 1) := by decide +kernel
theorem dL_law_2425 : decode cL_law 2425 = .ok (.iaload, 1) := by decide +kernel
theorem dL_law_2426 : decode cL_law 2426 = .ok (.aload_n 3, 1) := by decide +kernel
theorem dL_law_2427 : decode cL_law 2427 = .ok (.invokestatic 284, 3) := by decide +kernel
theorem dL_law_2430 : decode cL_law 2430 = .ok (.istore 5, 2) := by decide +kernel
theorem dL_law_2432 : decode cL_law 2432 = .ok (.aload_n 2, 1) := by decide +kernel
theorem dL_law_2433 : decode cL_law 2433 = .ok (.aload_n 0, 1) := by decide +kernel
theorem dL_law_2434 : decode cL_law 2434 = .ok (.iload 4, 2) := by decide +kernel
theorem dL_law_2436 : decode cL_law 2436 = .ok (.iconst 1, 1) := by decide +kernel
theorem dL_law_2437 : decode cL_law 2437 = .ok (.iadd, 1) := by decide +kernel
theorem dL_law_2438 : decode cL_law 2438 = .ok (.iaload, 1) := by decide +kernel
theorem dL_law_2439 : decode cL_law 2439 = .ok (.aload_n 0, 1) := by decide +kernel
theorem dL_law_2440 : decode cL_law 2440 = .ok (.iload 4, 2) := by decide +kernel
theorem dL_law_2442 : decode cL_law 2442 = .ok (.iconst 2, 1) := by decide +kernel
theorem dL_law_2443 : decode cL_law 2443 = .ok (.iadd, 1) := by decide +kernel
theorem dL_law_2444 : decode cL_law 2444 = .ok (.iaload, 1) := by decide +kernel
theorem dL_law_2445 : decode cL_law 2445 = .ok (.invokevirtual 286, 3) := by decide +kernel
theorem dL_law_2448 : decode cL_law 2448 = .ok (.istore 6, 2) := by decide +kernel
theorem dL_law_2450 : decode cL_law 2450 = .ok (.aload_n 2, 1) := by decide +kernel
theorem dL_law_2451 : decode cL_law 2451 = .ok (.invokevirtual 133, 3) := by decide +kernel
theorem dL_law_2454 : decode cL_law 2454 = .ok (.iload 5, 2) := by decide +kernel
theorem dL_law_2456 : decode cL_law 2456 = .ok (.if_icmp .eq 5, 3) := by decide +kernel
theorem dL_law_2459 : decode cL_law 2459 = .ok (.iconst 0, 1) := by decide +kernel
theorem dL_law_2460 : decode cL_law 2460 = .ok (.ireturn, 1) := by decide +kernel
theorem dL_law_2461 : decode cL_law 2461 = .ok (.iload 5, 2) := by decide +kernel
theorem dL_law_2463 : decode cL_law 2463 = .ok (.ifCond .ne 15, 3) := by decide +kernel
theorem dL_law_2466 : decode cL_law 2466 = .ok (.aload_n 3, 1) := by decide +kernel
theorem dL_law_2467 : decode cL_law 2467 = .ok (.iconst 0, 1) := by decide +kernel
theorem dL_law_2468 : decode cL_law 2468 = .ok (.laload, 1) := by decide +kernel
theorem dL_law_2469 : decode cL_law 2469 = .ok (.iload 6, 2) := by decide +kernel
theorem dL_law_2471 : decode cL_law 2471 = .ok (.i2l, 1) := by decide +kernel
theorem dL_law_2472 : decode cL_law 2472 = .ok (.lcmp, 1) := by decide +kernel
theorem dL_law_2473 : decode cL_law 2473 = .ok (.ifCond .eq 5, 3) := by decide +kernel
theorem dL_law_2476 : decode cL_law 2476 = .ok (.iconst 0, 1) := by decide +kernel
theorem dL_law_2477 : decode cL_law 2477 = .ok (.ireturn, 1) := by decide +kernel
theorem dL_law_2478 : decode cL_law 2478 = .ok (.goto 114, 3) := by decide +kernel
theorem dL_law_2481 : decode cL_law 2481 = .ok (.aload_n 1, 1) := by decide +kernel
theorem dL_law_2482 : decode cL_law 2482 = .ok (.aload_n 0, 1) := by decide +kernel
theorem dL_law_2483 : decode cL_law 2483 = .ok (.iload 4, 2) := by decide +kernel
theorem dL_law_2485 : decode cL_law 2485 = .ok (.iconst 1, 1) := by decide +kernel
theorem dL_law_2486 : decode cL_law 2486 = .ok (.iadd, 1) := by decide +kernel
theorem dL_law_2487 : decode cL_law 2487 = .ok (.iaload, 1) := by decide +kernel
theorem dL_law_2488 : decode cL_law 2488 = .ok (.aload_n 3, 1) := by decide +kernel
theorem dL_law_2489 : decode cL_law 2489 = .ok (.invokestatic 287, 3) := by decide +kernel
theorem dL_law_2492 : decode cL_law 2492 = .ok (.istore 5, 2) := by decide +kernel
theorem dL_law_2494 : decode cL_law 2494 = .ok (.aload_n 2, 1) := by decide +kernel
theorem dL_law_2495 : decode cL_law 2495 = .ok (.aload_n 0, 1) := by decide +kernel
theorem dL_law_2496 : decode cL_law 2496 = .ok (.iload 4, 2) := by decide +kernel
theorem dL_law_2498 : decode cL_law 2498 = .ok (.iconst 1, 1) := by decide +kernel
theorem dL_law_2499 : decode cL_law 2499 = .ok (.iadd, 1) := by decide +kernel
theorem dL_law_2500 : decode cL_law 2500 = .ok (.iaload, 1) := by decide +kernel
theorem dL_law_2501 : decode cL_law 2501 = .ok (.invokevirtual 289, 3) := by decide +kernel
theorem dL_law_2504 : decode cL_law 2504 = .ok (.istore 6, 2) := by decide +kernel
theorem dL_law_2506 : decode cL_law 2506 = .ok (.aload_n 2, 1) := by decide +kernel
theorem dL_law_2507 : decode cL_law 2507 = .ok (.invokevirtual 133, 3) := by decide +kernel
theorem dL_law_2510 : decode cL_law 2510 = .ok (.iload 5, 2) := by decide +kernel
theorem dL_law_2512 : decode cL_law 2512 = .ok (.if_icmp .eq 5, 3) := by decide +kernel
theorem dL_law_2515 : decode cL_law 2515 = .ok (.iconst 0, 1) := by decide +kernel
theorem dL_law_2516 : decode cL_law 2516 = .ok (.ireturn, 1) := by decide +kernel
theorem dL_law_2517 : decode cL_law 2517 = .ok (.iload 5, 2) := by decide +kernel
theorem dL_law_2519 : decode cL_law 2519 = .ok (.ifCond .ne 15, 3) := by decide +kernel
theorem dL_law_2522 : decode cL_law 2522 = .ok (.aload_n 3, 1) := by decide +kernel
theorem dL_law_2523 : decode cL_law 2523 = .ok (.iconst 0, 1) := by decide +kernel
theorem dL_law_2524 : decode cL_law 2524 = .ok (.laload, 1) := by decide +kernel
theorem dL_law_2525 : decode cL_law 2525 = .ok (.iload 6, 2) := by decide +kernel
theorem dL_law_2527 : decode cL_law 2527 = .ok (.i2l, 1) := by decide +kernel
theorem dL_law_2528 : decode cL_law 2528 = .ok (.lcmp, 1) := by decide +kernel
theorem dL_law_2529 : decode cL_law 2529 = .ok (.ifCond .eq 5, 3) := by decide +kernel
theorem dL_law_2532 : decode cL_law 2532 = .ok (.iconst 0, 1) := by decide +kernel
theorem dL_law_2533 : decode cL_law 2533 = .ok (.ireturn, 1) := by decide +kernel
theorem dL_law_2534 : decode cL_law 2534 = .ok (.goto 58, 3) := by decide +kernel
theorem dL_law_2537 : decode cL_law 2537 = .ok (.aload_n 1, 1) := by decide +kernel
theorem dL_law_2538 : decode cL_law 2538 = .ok (.invokevirtual 290, 3) := by decide +kernel
theorem dL_law_2541 : decode cL_law 2541 = .ok (.dstore 5, 2) := by decide +kernel
theorem dL_law_2543 : decode cL_law 2543 = .ok (.aload_n 2, 1) := by decide +kernel
theorem dL_law_2544 : decode cL_law 2544 = .ok (.invokevirtual 294, 3) := by decide +kernel
theorem dL_law_2547 : decode cL_law 2547 = .ok (.dstore 7, 2) := by decide +kernel
theorem dL_law_2549 : decode cL_law 2549 = .ok (.dload 5, 2) := by decide +kernel
theorem dL_law_2551 : decode cL_law 2551 = .ok (.dload 7, 2) := by decide +kernel
theorem dL_law_2553 : decode cL_law 2553 = .ok (.dcmp .l, 1) := by decide +kernel
theorem dL_law_2554 : decode cL_law 2554 = .ok (.ifCond .eq 21, 3) := by decide +kernel
theorem dL_law_2557 : decode cL_law 2557 = .ok (.dload 5, 2) := by decide +kernel
theorem dL_law_2559 : decode cL_law 2559 = .ok (.dload 5, 2) := by decide +kernel
theorem dL_law_2561 : decode cL_law 2561 = .ok (.dcmp .l, 1) := by decide +kernel
theorem dL_law_2562 : decode cL_law 2562 = .ok (.ifCond .eq 11, 3) := by decide +kernel
theorem dL_law_2565 : decode cL_law 2565 = .ok (.dload 7, 2) := by decide +kernel
theorem dL_law_2567 : decode cL_law 2567 = .ok (.dload 7, 2) := by decide +kernel
theorem dL_law_2569 : decode cL_law 2569 = .ok (.dcmp .l, 1) := by decide +kernel
theorem dL_law_2570 : decode cL_law 2570 = .ok (.ifCond .ne 5, 3) := by decide +kernel
theorem dL_law_2573 : decode cL_law 2573 = .ok (.iconst 0, 1) := by decide +kernel
theorem dL_law_2574 : decode cL_law 2574 = .ok (.ireturn, 1) := by decide +kernel
theorem dL_law_2575 : decode cL_law 2575 = .ok (.goto 17, 3) := by decide +kernel
theorem dL_law_2578 : decode cL_law 2578 = .ok (.aload_n 1, 1) := by decide +kernel
theorem dL_law_2579 : decode cL_law 2579 = .ok (.invokevirtual 295, 3) := by decide +kernel
theorem dL_law_2582 : decode cL_law 2582 = .ok (.aload_n 2, 1) := by decide +kernel
theorem dL_law_2583 : decode cL_law 2583 = .ok (.invokevirtual 298, 3) := by decide +kernel
theorem dL_law_2586 : decode cL_law 2586 = .ok (.lcmp, 1) := by decide +kernel
theorem dL_law_2587 : decode cL_law 2587 = .ok (.ifCond .eq 5, 3) := by decide +kernel
theorem dL_law_2590 : decode cL_law 2590 = .ok (.iconst 0, 1) := by decide +kernel
theorem dL_law_2591 : decode cL_law 2591 = .ok (.ireturn, 1) := by decide +kernel
theorem dL_law_2592 : decode cL_law 2592 = .ok (.iinc 4 6, 3) := by decide +kernel
theorem dL_law_2595 : decode cL_law 2595 = .ok (.goto (-2572), 3) := by decide +kernel
theorem dL_law_2598 : decode cL_law 2598 = .ok (.iconst 1, 1) := by decide +kernel
theorem dL_law_2599 : decode cL_law 2599 = .ok (.ireturn, 1) := by decide +kernel
end
