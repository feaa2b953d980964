section
-- ===== PART A: goes FIRST, ahead of the names: the tables' words, and 'selects' of the private methods out of them =====
/-- a private method of a class that the tables say can be made, by its rows of tables_1 -/
def lw_okq (q : MethodName × Nat) : Prop := (q.1.cls ≠ "java/lang/invoke/MethodHandle" ∧ q.1.cls ≠ "java/lang/invoke/VarHandle") ∧ Cond.instantiable q.1.cls q.2 ∈ tables_1 ∧ Cond.privateMethod q.1 ∈ tables_1 ∧ Cond.instanceMethod q.1 ∈ tables_1
theorem lw_p0 : lw_okq (⟨"PuddleStairs$Water", "dryUp", "()V"⟩, 5) := ⟨⟨by decide +kernel, by decide +kernel⟩, List.mem_of_getElem? (i := 23) (by decide +kernel), List.mem_of_getElem? (i := 228) (by decide +kernel), List.mem_of_getElem? (i := 229) (by decide +kernel)⟩
theorem lw_p1 : lw_okq (⟨"PuddleStairs$Water", "runDown", "()I"⟩, 5) := ⟨⟨by decide +kernel, by decide +kernel⟩, List.mem_of_getElem? (i := 23) (by decide +kernel), List.mem_of_getElem? (i := 232) (by decide +kernel), List.mem_of_getElem? (i := 233) (by decide +kernel)⟩
theorem lw_p2 : lw_okq (⟨"java/lang/Throwable", "fillInStackTrace", "(I)Ljava/lang/Throwable;"⟩, 6) := ⟨⟨by decide +kernel, by decide +kernel⟩, List.mem_of_getElem? (i := 307) (by decide +kernel), List.mem_of_getElem? (i := 305) (by decide +kernel), List.mem_of_getElem? (i := 306) (by decide +kernel)⟩
theorem lw_p3 : lw_okq (⟨"PuddleStairs", "digestedFlights", "(J)J"⟩, 7) := ⟨⟨by decide +kernel, by decide +kernel⟩, List.mem_of_getElem? (i := 15) (by decide +kernel), List.mem_of_getElem? (i := 350) (by decide +kernel), List.mem_of_getElem? (i := 351) (by decide +kernel)⟩
theorem lw_p4 : lw_okq (⟨"PuddleStairs", "checkFlight", "(I)V"⟩, 7) := ⟨⟨by decide +kernel, by decide +kernel⟩, List.mem_of_getElem? (i := 15) (by decide +kernel), List.mem_of_getElem? (i := 358) (by decide +kernel), List.mem_of_getElem? (i := 359) (by decide +kernel)⟩
theorem lw_p5 : lw_okq (⟨"PuddleStairs", "digestedSteps", "(J)J"⟩, 7) := ⟨⟨by decide +kernel, by decide +kernel⟩, List.mem_of_getElem? (i := 15) (by decide +kernel), List.mem_of_getElem? (i := 406) (by decide +kernel), List.mem_of_getElem? (i := 407) (by decide +kernel)⟩
theorem lw_p6 : lw_okq (⟨"PuddleStairs", "checkStep", "(I)V"⟩, 7) := ⟨⟨by decide +kernel, by decide +kernel⟩, List.mem_of_getElem? (i := 15) (by decide +kernel), List.mem_of_getElem? (i := 414) (by decide +kernel), List.mem_of_getElem? (i := 415) (by decide +kernel)⟩
theorem lw_p7 : lw_okq (⟨"PuddleStairs", "digestedMarks", "(J)J"⟩, 7) := ⟨⟨by decide +kernel, by decide +kernel⟩, List.mem_of_getElem? (i := 15) (by decide +kernel), List.mem_of_getElem? (i := 422) (by decide +kernel), List.mem_of_getElem? (i := 423) (by decide +kernel)⟩
theorem lw_p8 : lw_okq (⟨"PuddleStairs", "checkMark", "(I)V"⟩, 7) := ⟨⟨by decide +kernel, by decide +kernel⟩, List.mem_of_getElem? (i := 15) (by decide +kernel), List.mem_of_getElem? (i := 430) (by decide +kernel), List.mem_of_getElem? (i := 431) (by decide +kernel)⟩
theorem lw_p9 : lw_okq (⟨"PuddleStairs", "checkPuddle", "(II)V"⟩, 7) := ⟨⟨by decide +kernel, by decide +kernel⟩, List.mem_of_getElem? (i := 15) (by decide +kernel), List.mem_of_getElem? (i := 462) (by decide +kernel), List.mem_of_getElem? (i := 463) (by decide +kernel)⟩
theorem lw_p10 : lw_okq (⟨"PuddleStairs", "keepDeed", "()V"⟩, 7) := ⟨⟨by decide +kernel, by decide +kernel⟩, List.mem_of_getElem? (i := 15) (by decide +kernel), List.mem_of_getElem? (i := 466) (by decide +kernel), List.mem_of_getElem? (i := 467) (by decide +kernel)⟩
theorem lw_p11 : lw_okq (⟨"PuddleStairs", "checkPart", "(IIII)V"⟩, 7) := ⟨⟨by decide +kernel, by decide +kernel⟩, List.mem_of_getElem? (i := 15) (by decide +kernel), List.mem_of_getElem? (i := 487) (by decide +kernel), List.mem_of_getElem? (i := 488) (by decide +kernel)⟩
theorem lw_p12 : lw_okq (⟨"PuddleStairsModel", "anew", "()V"⟩, 14) := ⟨⟨by decide +kernel, by decide +kernel⟩, List.mem_of_getElem? (i := 711) (by decide +kernel), List.mem_of_getElem? (i := 717) (by decide +kernel), List.mem_of_getElem? (i := 718) (by decide +kernel)⟩
theorem lw_p13 : lw_okq (⟨"PuddleStairsModel", "no", "(I)I"⟩, 14) := ⟨⟨by decide +kernel, by decide +kernel⟩, List.mem_of_getElem? (i := 711) (by decide +kernel), List.mem_of_getElem? (i := 775) (by decide +kernel), List.mem_of_getElem? (i := 776) (by decide +kernel)⟩
theorem lw_p14 : lw_okq (⟨"PuddleStairsModel", "all", "()I"⟩, 14) := ⟨⟨by decide +kernel, by decide +kernel⟩, List.mem_of_getElem? (i := 711) (by decide +kernel), List.mem_of_getElem? (i := 779) (by decide +kernel), List.mem_of_getElem? (i := 780) (by decide +kernel)⟩
theorem lw_p15 : lw_okq (⟨"PuddleStairsModel", "isFlight", "(I)Z"⟩, 14) := ⟨⟨by decide +kernel, by decide +kernel⟩, List.mem_of_getElem? (i := 711) (by decide +kernel), List.mem_of_getElem? (i := 787) (by decide +kernel), List.mem_of_getElem? (i := 788) (by decide +kernel)⟩
def lw_privs_1 : List (MethodName × Nat) := [(⟨"PuddleStairs$Water", "dryUp", "()V"⟩, 5), (⟨"PuddleStairs$Water", "runDown", "()I"⟩, 5), (⟨"java/lang/Throwable", "fillInStackTrace", "(I)Ljava/lang/Throwable;"⟩, 6), (⟨"PuddleStairs", "digestedFlights", "(J)J"⟩, 7), (⟨"PuddleStairs", "checkFlight", "(I)V"⟩, 7), (⟨"PuddleStairs", "digestedSteps", "(J)J"⟩, 7), (⟨"PuddleStairs", "checkStep", "(I)V"⟩, 7), (⟨"PuddleStairs", "digestedMarks", "(J)J"⟩, 7), (⟨"PuddleStairs", "checkMark", "(I)V"⟩, 7), (⟨"PuddleStairs", "checkPuddle", "(II)V"⟩, 7), (⟨"PuddleStairs", "keepDeed", "()V"⟩, 7), (⟨"PuddleStairs", "checkPart", "(IIII)V"⟩, 7), (⟨"PuddleStairsModel", "anew", "()V"⟩, 14), (⟨"PuddleStairsModel", "no", "(I)I"⟩, 14), (⟨"PuddleStairsModel", "all", "()I"⟩, 14), (⟨"PuddleStairsModel", "isFlight", "(I)Z"⟩, 14)]
theorem lw_r1 : ∀ q ∈ lw_privs_1, lw_okq q := List.forall_mem_cons.mpr ⟨lw_p0, List.forall_mem_cons.mpr ⟨lw_p1, List.forall_mem_cons.mpr ⟨lw_p2, List.forall_mem_cons.mpr ⟨lw_p3, List.forall_mem_cons.mpr ⟨lw_p4, List.forall_mem_cons.mpr ⟨lw_p5, List.forall_mem_cons.mpr ⟨lw_p6, List.forall_mem_cons.mpr ⟨lw_p7, List.forall_mem_cons.mpr ⟨lw_p8, List.forall_mem_cons.mpr ⟨lw_p9, List.forall_mem_cons.mpr ⟨lw_p10, List.forall_mem_cons.mpr ⟨lw_p11, List.forall_mem_cons.mpr ⟨lw_p12, List.forall_mem_cons.mpr ⟨lw_p13, List.forall_mem_cons.mpr ⟨lw_p14, List.forall_mem_cons.mpr ⟨lw_p15, fun _ h => absurd h List.not_mem_nil⟩⟩⟩⟩⟩⟩⟩⟩⟩⟩⟩⟩⟩⟩⟩⟩
theorem lw_p16 : lw_okq (⟨"PuddleStairsModel", "isStep", "(I)Z"⟩, 14) := ⟨⟨by decide +kernel, by decide +kernel⟩, List.mem_of_getElem? (i := 711) (by decide +kernel), List.mem_of_getElem? (i := 791) (by decide +kernel), List.mem_of_getElem? (i := 792) (by decide +kernel)⟩
theorem lw_p17 : lw_okq (⟨"PuddleStairsModel", "keep", "()V"⟩, 14) := ⟨⟨by decide +kernel, by decide +kernel⟩, List.mem_of_getElem? (i := 711) (by decide +kernel), List.mem_of_getElem? (i := 795) (by decide +kernel), List.mem_of_getElem? (i := 796) (by decide +kernel)⟩
theorem lw_p18 : lw_okq (⟨"PuddleStairsModel", "part", "(IIII)I"⟩, 14) := ⟨⟨by decide +kernel, by decide +kernel⟩, List.mem_of_getElem? (i := 711) (by decide +kernel), List.mem_of_getElem? (i := 806) (by decide +kernel), List.mem_of_getElem? (i := 807) (by decide +kernel)⟩
theorem lw_p19 : lw_okq (⟨"PuddleStairsModel", "change", "(II)I"⟩, 14) := ⟨⟨by decide +kernel, by decide +kernel⟩, List.mem_of_getElem? (i := 711) (by decide +kernel), List.mem_of_getElem? (i := 814) (by decide +kernel), List.mem_of_getElem? (i := 815) (by decide +kernel)⟩
theorem lw_p20 : lw_okq (⟨"PuddleStairsModel", "hourOn", "([II)I"⟩, 14) := ⟨⟨by decide +kernel, by decide +kernel⟩, List.mem_of_getElem? (i := 711) (by decide +kernel), List.mem_of_getElem? (i := 832) (by decide +kernel), List.mem_of_getElem? (i := 833) (by decide +kernel)⟩
theorem lw_p21 : lw_okq (⟨"PuddleStairsModel", "isMark", "(I)Z"⟩, 14) := ⟨⟨by decide +kernel, by decide +kernel⟩, List.mem_of_getElem? (i := 711) (by decide +kernel), List.mem_of_getElem? (i := 844) (by decide +kernel), List.mem_of_getElem? (i := 845) (by decide +kernel)⟩
theorem lw_p22 : lw_okq (⟨"PuddleStairsModel", "bring", "([II)I"⟩, 14) := ⟨⟨by decide +kernel, by decide +kernel⟩, List.mem_of_getElem? (i := 711) (by decide +kernel), List.mem_of_getElem? (i := 848) (by decide +kernel), List.mem_of_getElem? (i := 849) (by decide +kernel)⟩
theorem lw_p23 : lw_okq (⟨"PuddleStairsModel", "ok", "(I)I"⟩, 14) := ⟨⟨by decide +kernel, by decide +kernel⟩, List.mem_of_getElem? (i := 711) (by decide +kernel), List.mem_of_getElem? (i := 868) (by decide +kernel), List.mem_of_getElem? (i := 869) (by decide +kernel)⟩
theorem lw_p24 : lw_okq (⟨"PuddleStairsModel", "okay", "(J)J"⟩, 14) := ⟨⟨by decide +kernel, by decide +kernel⟩, List.mem_of_getElem? (i := 711) (by decide +kernel), List.mem_of_getElem? (i := 900) (by decide +kernel), List.mem_of_getElem? (i := 901) (by decide +kernel)⟩
theorem lw_p25 : lw_okq (⟨"PuddleStairsModel", "at", "(II)I"⟩, 14) := ⟨⟨by decide +kernel, by decide +kernel⟩, List.mem_of_getElem? (i := 711) (by decide +kernel), List.mem_of_getElem? (i := 908) (by decide +kernel), List.mem_of_getElem? (i := 909) (by decide +kernel)⟩
theorem lw_p26 : lw_okq (⟨"PuddleStairsModel", "added", "(IIII)J"⟩, 14) := ⟨⟨by decide +kernel, by decide +kernel⟩, List.mem_of_getElem? (i := 711) (by decide +kernel), List.mem_of_getElem? (i := 916) (by decide +kernel), List.mem_of_getElem? (i := 917) (by decide +kernel)⟩
theorem lw_p27 : lw_okq (⟨"PuddleStairsModel", "ofFlight", "(I)J"⟩, 14) := ⟨⟨by decide +kernel, by decide +kernel⟩, List.mem_of_getElem? (i := 711) (by decide +kernel), List.mem_of_getElem? (i := 928) (by decide +kernel), List.mem_of_getElem? (i := 929) (by decide +kernel)⟩
theorem lw_p28 : lw_okq (⟨"PuddleStairsModel", "ofStep", "(I)J"⟩, 14) := ⟨⟨by decide +kernel, by decide +kernel⟩, List.mem_of_getElem? (i := 711) (by decide +kernel), List.mem_of_getElem? (i := 936) (by decide +kernel), List.mem_of_getElem? (i := 937) (by decide +kernel)⟩
theorem lw_p29 : lw_okq (⟨"PuddleStairsModel", "sumOfAll", "()J"⟩, 14) := ⟨⟨by decide +kernel, by decide +kernel⟩, List.mem_of_getElem? (i := 711) (by decide +kernel), List.mem_of_getElem? (i := 944) (by decide +kernel), List.mem_of_getElem? (i := 945) (by decide +kernel)⟩
theorem lw_p30 : lw_okq (⟨"PuddleStairsModel", "reaching", "(II)I"⟩, 14) := ⟨⟨by decide +kernel, by decide +kernel⟩, List.mem_of_getElem? (i := 711) (by decide +kernel), List.mem_of_getElem? (i := 952) (by decide +kernel), List.mem_of_getElem? (i := 953) (by decide +kernel)⟩
theorem lw_p31 : lw_okq (⟨"PuddleStairsModel", "run", "(I)J"⟩, 14) := ⟨⟨by decide +kernel, by decide +kernel⟩, List.mem_of_getElem? (i := 711) (by decide +kernel), List.mem_of_getElem? (i := 960) (by decide +kernel), List.mem_of_getElem? (i := 961) (by decide +kernel)⟩
def lw_privs_2 : List (MethodName × Nat) := [(⟨"PuddleStairsModel", "isStep", "(I)Z"⟩, 14), (⟨"PuddleStairsModel", "keep", "()V"⟩, 14), (⟨"PuddleStairsModel", "part", "(IIII)I"⟩, 14), (⟨"PuddleStairsModel", "change", "(II)I"⟩, 14), (⟨"PuddleStairsModel", "hourOn", "([II)I"⟩, 14), (⟨"PuddleStairsModel", "isMark", "(I)Z"⟩, 14), (⟨"PuddleStairsModel", "bring", "([II)I"⟩, 14), (⟨"PuddleStairsModel", "ok", "(I)I"⟩, 14), (⟨"PuddleStairsModel", "okay", "(J)J"⟩, 14), (⟨"PuddleStairsModel", "at", "(II)I"⟩, 14), (⟨"PuddleStairsModel", "added", "(IIII)J"⟩, 14), (⟨"PuddleStairsModel", "ofFlight", "(I)J"⟩, 14), (⟨"PuddleStairsModel", "ofStep", "(I)J"⟩, 14), (⟨"PuddleStairsModel", "sumOfAll", "()J"⟩, 14), (⟨"PuddleStairsModel", "reaching", "(II)I"⟩, 14), (⟨"PuddleStairsModel", "run", "(I)J"⟩, 14)]
theorem lw_r2 : ∀ q ∈ lw_privs_2, lw_okq q := List.forall_mem_cons.mpr ⟨lw_p16, List.forall_mem_cons.mpr ⟨lw_p17, List.forall_mem_cons.mpr ⟨lw_p18, List.forall_mem_cons.mpr ⟨lw_p19, List.forall_mem_cons.mpr ⟨lw_p20, List.forall_mem_cons.mpr ⟨lw_p21, List.forall_mem_cons.mpr ⟨lw_p22, List.forall_mem_cons.mpr ⟨lw_p23, List.forall_mem_cons.mpr ⟨lw_p24, List.forall_mem_cons.mpr ⟨lw_p25, List.forall_mem_cons.mpr ⟨lw_p26, List.forall_mem_cons.mpr ⟨lw_p27, List.forall_mem_cons.mpr ⟨lw_p28, List.forall_mem_cons.mpr ⟨lw_p29, List.forall_mem_cons.mpr ⟨lw_p30, List.forall_mem_cons.mpr ⟨lw_p31, fun _ h => absurd h List.not_mem_nil⟩⟩⟩⟩⟩⟩⟩⟩⟩⟩⟩⟩⟩⟩⟩⟩
theorem lw_p32 : lw_okq (⟨"PuddleStairsModel", "dryPart", "(IIII)I"⟩, 14) := ⟨⟨by decide +kernel, by decide +kernel⟩, List.mem_of_getElem? (i := 711) (by decide +kernel), List.mem_of_getElem? (i := 969) (by decide +kernel), List.mem_of_getElem? (i := 970) (by decide +kernel)⟩
theorem lw_p33 : lw_okq (⟨"PuddleStairsModel", "dryNow", "()I"⟩, 14) := ⟨⟨by decide +kernel, by decide +kernel⟩, List.mem_of_getElem? (i := 711) (by decide +kernel), List.mem_of_getElem? (i := 977) (by decide +kernel), List.mem_of_getElem? (i := 978) (by decide +kernel)⟩
theorem lw_p34 : lw_okq (⟨"PuddleStairsModel", "longest", "(I)I"⟩, 14) := ⟨⟨by decide +kernel, by decide +kernel⟩, List.mem_of_getElem? (i := 711) (by decide +kernel), List.mem_of_getElem? (i := 989) (by decide +kernel), List.mem_of_getElem? (i := 990) (by decide +kernel)⟩
theorem lw_p35 : lw_okq (⟨"PuddleStairsModel", "driest", "()I"⟩, 14) := ⟨⟨by decide +kernel, by decide +kernel⟩, List.mem_of_getElem? (i := 711) (by decide +kernel), List.mem_of_getElem? (i := 997) (by decide +kernel), List.mem_of_getElem? (i := 998) (by decide +kernel)⟩
theorem lw_p36 : lw_okq (⟨"PuddleStairsModel", "highest", "(I)I"⟩, 14) := ⟨⟨by decide +kernel, by decide +kernel⟩, List.mem_of_getElem? (i := 711) (by decide +kernel), List.mem_of_getElem? (i := 1009) (by decide +kernel), List.mem_of_getElem? (i := 1010) (by decide +kernel)⟩
theorem lw_p37 : lw_okq (⟨"PuddleStairsModel", "below", "(I)I"⟩, 14) := ⟨⟨by decide +kernel, by decide +kernel⟩, List.mem_of_getElem? (i := 711) (by decide +kernel), List.mem_of_getElem? (i := 1017) (by decide +kernel), List.mem_of_getElem? (i := 1018) (by decide +kernel)⟩
theorem lw_p38 : lw_okq (⟨"PuddleStairsModel", "pairs", "()I"⟩, 14) := ⟨⟨by decide +kernel, by decide +kernel⟩, List.mem_of_getElem? (i := 711) (by decide +kernel), List.mem_of_getElem? (i := 1029) (by decide +kernel), List.mem_of_getElem? (i := 1030) (by decide +kernel)⟩
theorem lw_p39 : lw_okq (⟨"PuddleStairsModel", "changed", "(I)I"⟩, 14) := ⟨⟨by decide +kernel, by decide +kernel⟩, List.mem_of_getElem? (i := 711) (by decide +kernel), List.mem_of_getElem? (i := 1041) (by decide +kernel), List.mem_of_getElem? (i := 1042) (by decide +kernel)⟩
theorem lw_p40 : lw_okq (⟨"PuddleStairsModel", "later", "(I)J"⟩, 14) := ⟨⟨by decide +kernel, by decide +kernel⟩, List.mem_of_getElem? (i := 711) (by decide +kernel), List.mem_of_getElem? (i := 1049) (by decide +kernel), List.mem_of_getElem? (i := 1050) (by decide +kernel)⟩
theorem lw_p41 : lw_okq (⟨"PuddleStairsModel", "goneBehind", "(II)I"⟩, 14) := ⟨⟨by decide +kernel, by decide +kernel⟩, List.mem_of_getElem? (i := 711) (by decide +kernel), List.mem_of_getElem? (i := 1053) (by decide +kernel), List.mem_of_getElem? (i := 1054) (by decide +kernel)⟩
theorem lw_p42 : lw_okq (⟨"PuddleStairsModel", "look", "()V"⟩, 14) := ⟨⟨by decide +kernel, by decide +kernel⟩, List.mem_of_getElem? (i := 711) (by decide +kernel), List.mem_of_getElem? (i := 1057) (by decide +kernel), List.mem_of_getElem? (i := 1058) (by decide +kernel)⟩
theorem lw_p43 : lw_okq (⟨"PuddleStairsModel", "untilDry", "()I"⟩, 14) := ⟨⟨by decide +kernel, by decide +kernel⟩, List.mem_of_getElem? (i := 711) (by decide +kernel), List.mem_of_getElem? (i := 1069) (by decide +kernel), List.mem_of_getElem? (i := 1070) (by decide +kernel)⟩
theorem lw_p44 : lw_okq (⟨"PuddleStairsModel", "isDry", "([I)Z"⟩, 14) := ⟨⟨by decide +kernel, by decide +kernel⟩, List.mem_of_getElem? (i := 711) (by decide +kernel), List.mem_of_getElem? (i := 1073) (by decide +kernel), List.mem_of_getElem? (i := 1074) (by decide +kernel)⟩
theorem lw_p45 : lw_okq (⟨"PuddleStairsModel", "wanted", "(I)I"⟩, 14) := ⟨⟨by decide +kernel, by decide +kernel⟩, List.mem_of_getElem? (i := 711) (by decide +kernel), List.mem_of_getElem? (i := 1081) (by decide +kernel), List.mem_of_getElem? (i := 1082) (by decide +kernel)⟩
theorem lw_p46 : lw_okq (⟨"PuddleStairsModel", "swapFor", "(I)I"⟩, 14) := ⟨⟨by decide +kernel, by decide +kernel⟩, List.mem_of_getElem? (i := 711) (by decide +kernel), List.mem_of_getElem? (i := 1093) (by decide +kernel), List.mem_of_getElem? (i := 1094) (by decide +kernel)⟩
def lw_privs_3 : List (MethodName × Nat) := [(⟨"PuddleStairsModel", "dryPart", "(IIII)I"⟩, 14), (⟨"PuddleStairsModel", "dryNow", "()I"⟩, 14), (⟨"PuddleStairsModel", "longest", "(I)I"⟩, 14), (⟨"PuddleStairsModel", "driest", "()I"⟩, 14), (⟨"PuddleStairsModel", "highest", "(I)I"⟩, 14), (⟨"PuddleStairsModel", "below", "(I)I"⟩, 14), (⟨"PuddleStairsModel", "pairs", "()I"⟩, 14), (⟨"PuddleStairsModel", "changed", "(I)I"⟩, 14), (⟨"PuddleStairsModel", "later", "(I)J"⟩, 14), (⟨"PuddleStairsModel", "goneBehind", "(II)I"⟩, 14), (⟨"PuddleStairsModel", "look", "()V"⟩, 14), (⟨"PuddleStairsModel", "untilDry", "()I"⟩, 14), (⟨"PuddleStairsModel", "isDry", "([I)Z"⟩, 14), (⟨"PuddleStairsModel", "wanted", "(I)I"⟩, 14), (⟨"PuddleStairsModel", "swapFor", "(I)I"⟩, 14)]
theorem lw_r3 : ∀ q ∈ lw_privs_3, lw_okq q := List.forall_mem_cons.mpr ⟨lw_p32, List.forall_mem_cons.mpr ⟨lw_p33, List.forall_mem_cons.mpr ⟨lw_p34, List.forall_mem_cons.mpr ⟨lw_p35, List.forall_mem_cons.mpr ⟨lw_p36, List.forall_mem_cons.mpr ⟨lw_p37, List.forall_mem_cons.mpr ⟨lw_p38, List.forall_mem_cons.mpr ⟨lw_p39, List.forall_mem_cons.mpr ⟨lw_p40, List.forall_mem_cons.mpr ⟨lw_p41, List.forall_mem_cons.mpr ⟨lw_p42, List.forall_mem_cons.mpr ⟨lw_p43, List.forall_mem_cons.mpr ⟨lw_p44, List.forall_mem_cons.mpr ⟨lw_p45, List.forall_mem_cons.mpr ⟨lw_p46, fun _ h => absurd h List.not_mem_nil⟩⟩⟩⟩⟩⟩⟩⟩⟩⟩⟩⟩⟩⟩⟩
def lw_privs : List (MethodName × Nat) := lw_privs_1 ++ (lw_privs_2 ++ (lw_privs_3))
def lw_tbl : List Cond := k2_sels lw_privs ++ tables_1
theorem lw_privs_ok : ∀ q ∈ lw_privs, lw_okq q := by
  show ∀ q ∈ lw_privs_1 ++ (lw_privs_2 ++ (lw_privs_3)), lw_okq q
  exact List.forall_mem_append.mpr ⟨lw_r1, List.forall_mem_append.mpr ⟨lw_r2, lw_r3⟩⟩
/-- the streams that the claim lets the run draw from -/
abbrev lw_cs : List Choice := [Jvm.Choice.named "NaN.bits"]
theorem lw_bits : nanBits ∈ lw_cs := by first | decide | exact List.mem_cons_self | simp [lw_cs, nanBits]
def va_AOA (t : FieldType) (U : State) : Prop := (Cond.arrayOver (.array t)).before #[] U = true
theorem va_AOA.of {t : FieldType} {A : Array Value} {U : State} (h : (Cond.arrayOver (.array t)).before A U = true) : va_AOA t U := h
theorem va_AOA.use {t : FieldType} {A : Array Value} {U : State} (h : va_AOA t U) : (Cond.arrayOver (.array t)).before A U = true := h
/-! ===== BEGIN words of one list among another's, by their places ===== -/
theorem goodIn_r {big : List Cond} (ws : List Cond) (ps : List Nat) (hp : ws = ps.filterMap (fun i => big[i]?)) (h : ws.all goodWord = true) : GoodIn big ws := by
  intro w hw
  have h1 := List.all_eq_true.mp h w hw
  rw [hp] at hw
  obtain ⟨i, -, hi⟩ := List.mem_filterMap.mp hw
  have hm : w ∈ big := by first | exact List.mem_of_getElem? hi | exact List.getElem?_mem hi
  exact ⟨hm, good_of_word h1⟩
theorem goodIn_app {big a b : List Cond} (ha : GoodIn big a) (hb : GoodIn big b) : GoodIn big (a ++ b) := fun w h => (List.mem_append.mp h).elim (ha w) (hb w)
theorem goodIn_ca {big a b : List Cond} {c : Cond} (ha : GoodIn big (c :: a)) (hb : GoodIn big b) : GoodIn big (c :: (a ++ b)) := fun w h => (List.mem_cons.mp h).elim (fun e => ha w (List.mem_cons.mpr (Or.inl e))) (fun h => (List.mem_append.mp h).elim (fun h => ha w (List.mem_cons.mpr (Or.inr h))) (hb w))
theorem goodIn_sub {big ws : List Cond} (hm : ∀ w ∈ ws, w ∈ big) (h : ws.all goodWord = true) : GoodIn big ws := fun w hw => ⟨hm w hw, good_of_word (List.all_eq_true.mp h w hw)⟩
/-! ===== END ===== -/

/-! ===== BEGIN new T[n][m]: the outer array a place, the inner ones among the pooled ===== -/
/-- f, but v at every address of l -/
def vr_up {α : Type} (f : Nat → α) (l : List Nat) (v : α) : Nat → α := fun a => if a ∈ l then v else f a
theorem vr_up_in {α : Type} {f : Nat → α} {l : List Nat} {v : α} {a : Nat} (h : a ∈ l) : vr_up f l v a = v := if_pos h
theorem vr_up_ne {α : Type} {f : Nat → α} {l : List Nat} {v : α} {a : Nat} (h : a ∉ l) : vr_up f l v a = f a := if_neg h
theorem vr_rows {L l : List Nat} {f : Nat → va_E} {e : va_E} (h : ∀ a, a ∈ l → a ∉ L) : va_pl L f ++ l.map (fun a => (a, e)) = va_pl (L ++ l) (vr_up f l e) := by
  unfold va_pl
  rw [List.map_append]
  congr 1
  · apply List.map_congr_left
    intro a ha
    rw [vr_up_ne (fun q => h a q ha)]
  · apply List.map_congr_left
    intro a ha
    rw [vr_up_in ha]
theorem vr_lay {X rows : va_W} {x : Nat × va_E} {pl : va_W} {D : va_G} {cl : List vw_C} {H : Heap} (hP : va_P D cl (((X ++ pl) ++ [x]) ++ rows) H) : va_P D cl ((X ++ [x]) ++ (pl ++ rows)) H := by
  rw [List.append_assoc (X ++ pl)] at hP
  have h := va_P.swap hP
  rw [← List.append_assoc X] at h
  have h2 := va_P.swap h
  rw [List.append_assoc (X ++ [x])] at h2
  exact h2
theorem vr_layD {X rows : va_W} {x : Nat × va_E} {pl : va_W} {A : Nat → Prop} (hD : va_D A (((X ++ pl) ++ [x]) ++ rows)) : va_D A ((X ++ [x]) ++ (pl ++ rows)) := by
  rw [List.append_assoc (X ++ pl)] at hD
  have h := va_D.swap hD
  rw [← List.append_assoc X] at h
  have h2 := va_D.swap h
  rw [List.append_assoc (X ++ [x])] at h2
  exact h2
theorem vr_outer (c : ClassId) (N h0 : Nat) : ∀ i : Nat, Jvm.Free.Multi.outerC c N h0 i = arrV c N (fun j => va_rf (if j < i then some (h0 + 1 + j) else none))
  | 0 => by
    show ({ cls := c, slots := Array.replicate N .null, vm := .none } : Cell) = _
    rw [arrV_new]
    refine congrArg (arrV c N) (funext fun j => ?_)
    simp [va_rf]
  | i + 1 => by
    show (Jvm.Free.Multi.outerC c N h0 i).setSlot i (.ref (h0 + 1 + i)) = _
    rw [vr_outer c N h0 i, arrV_store]
    refine congrArg (arrV c N) (funext fun j => ?_)
    by_cases e : j = i
    · subst e
      simp [updV, va_rf]
    · by_cases h : j < i
      · simp [updV, e, h, Nat.lt_succ_of_lt h]
      · simp [updV, e, h, show ¬ j < i + 1 by omega]
section VGM
variable {p : Program} {l : Launch} {e : Env} {R : Room} {s : State} {m : MethodId} {args : Array Value} {below : List Frame} {meth : Method} {c : Code} {H : Heap} {locs : List Loc} {cells slots : Nat} {Q : State → Prop}
variable {cc : ByteArray} {pc : Nat} {ls : Array Slot} {rest : List Value} {D : va_G} {cl : List vw_C} {A : Nat → Prop} {a : Nat} {tys : List (ClassId × FieldType)} {ws : va_W} {H0 : Heap}
theorem va_mna {X : va_W} {L : List Nat} {f : Nat → va_E} {cc : ByteArray} (hexec : p.tables.exec = Jvm.exec) (hb : c.code = cc) {own : String} {index : Nat} {ty : FieldType} {cy : ClassId} (hown : s.vm.findClass own = some m.cls) (hclink : (Cond.classLink own index ("[" ++ (FieldType.array ty).toString)).before args s = true) (hover : va_AOA ty s) (harr : (Cond.arrayClass ty).before args s = true) (hcy : s.vm.findClass (FieldType.array ty).toString = some cy)
    (hK : va_K D cl tys s) (hP : va_P D cl (X ++ va_pl L f) H) (hD : va_D A (X ++ va_pl L f)) (hS : va_S A H0 H locs) (hA : ∀ q, H0.size ≤ q → A q) {n k : Int32} {N' K' : Nat} {z : vp_A} (hn : ¬ n < 0) (hk : ¬ k < 0) (hN : n.toNatClampNeg = N') (hM : k.toNatClampNeg = K')
    (hb1 : N' * 4 ≤ 536870912) (hb2 : K' * componentBytes ty ≤ 536870912) (hb3 : K' ≤ 536870912) (hdf : fits ty (defaultValue ty) = true) (hdd : (defaultValue ty).isDefault = true) (hcells : cells + (1 + N') ≤ R.cells) (hslots : slots + (N' + N' * K') ≤ R.slots) (hz : ∀ c : ClassId, Jvm.Free.Multi.innerC c K' (defaultValue ty) = vp_cell c z) (hdg : decode cc pc = .ok (.multianewarray index 2, 4))
    (kk : ∀ (q : Nat) (r : Nat → Nat) (cA : ClassId) (H1 : Heap), (∀ i j : Nat, i < N' → j < N' → r i = r j → i = j) → (∀ i : Nat, i < N' → r i ∉ L) → va_K D cl (tys ++ [(cA, .array ty)]) s →
      va_P D cl ((X ++ [(q, .inl (cA, N', .inr (.inr (.inr (.inr (fun i => if i < N' then some (r i) else none))))))]) ++ va_pl (L ++ (List.range N').map r) (vr_up f ((List.range N').map r) (.inl (cy, z)))) H1 → va_D A ((X ++ [(q, .inl (cA, N', .inr (.inr (.inr (.inr (fun i => if i < N' then some (r i) else none))))))]) ++ va_pl (L ++ (List.range N').map r) (vr_up f ((List.range N').map r) (.inl (cy, z)))) → va_S A H0 H1 locs →
      W p l e R s m args below meth c H1 locs (cells + 1 + N') (slots + N' + N' * K') Q (F0 m (pc + 4) ls (.ref q :: rest))) : W p l e R s m args below meth c H locs cells slots Q (F0 m pc ls (.int k :: .int n :: rest)) := by
  subst hN
  subst hM
  intro T hT Xs
  obtain ⟨vm₁, cA, comp, -, fA, fC, hO, -, X', step⟩ := Xs.multianewarray2F hexec hown hclink (va_AOA.use hover) harr (g := F0 m pc ls (.int k :: .int n :: rest)) rfl (by rw [hb]; exact hdg) rfl hn hk hb1 hb2 hb3 hdf hdd hcells hslots
  have ec : some cy = some comp := hcy.symm.trans fC
  cases ec
  generalize hF : Jvm.Free.Multi.fill (T.setVm vm₁) cA cy n.toNatClampNeg k.toNatClampNeg (defaultValue ty) n.toNatClampNeg = F at X' step
  have hTh : (T.setVm vm₁).heap = H := hT
  obtain ⟨f1, f2, -, -⟩ := Jvm.Free.Multi.fill_facts (T.setVm vm₁) cA cy n.toNatClampNeg k.toNatClampNeg (defaultValue ty) n.toNatClampNeg
  rw [hF, hTh] at f1 f2
  have hold : ∀ x : Nat, x < H.size → F.heap[x]? = H[x]? := fun x hx => by
    have := Jvm.Free.Multi.fill_old (T.setVm vm₁) cA cy n.toNatClampNeg k.toNatClampNeg (defaultValue ty) (a := x) (by rw [hTh]; exact hx) n.toNatClampNeg
    rw [hF, hTh] at this
    exact this
  have hrow : ∀ j : Nat, j < n.toNatClampNeg → F.heap[H.size + 1 + j]? = some (vp_cell cy z) := fun j hj => by
    have := Jvm.Free.Multi.fill_inner (T.setVm vm₁) cA cy n.toNatClampNeg k.toNatClampNeg (defaultValue ty) n.toNatClampNeg j hj
    rw [hF, hTh, hz] at this
    exact this
  have hout : Jvm.Free.Multi.outerC cA n.toNatClampNeg H.size n.toNatClampNeg = vp_cell cA (n.toNatClampNeg, .inr (.inr (.inr (.inr (fun i => if i < n.toNatClampNeg then some (H.size + 1 + i) else none))))) := by
    rw [vp_cell_q]
    exact vr_outer cA n.toNatClampNeg H.size n.toNatClampNeg
  rw [hout] at f2
  have hlt : ∀ a, a ∈ L → a < H.size := fun a ha => by
    obtain ⟨k9, hk9⟩ := va_pl_get (X := X) (f := f) ha
    exact (hP k9 _ hk9).lt
  have hnl : ∀ i : Nat, i < n.toNatClampNeg → H.size + 1 + i ∉ L := fun i _ h => by
    have := hlt _ h
    omega
  have hnm : ∀ a, a ∈ (List.range n.toNatClampNeg).map (fun i => H.size + 1 + i) → a ∉ L := fun a ha h => by
    obtain ⟨i, -, rfl⟩ := List.mem_map.mp ha
    have := hlt _ h
    omega
  have hP0 : va_P D cl (X ++ va_pl L f) F.heap := hP.kept (fun k9 x hx => hold x.1 ((hP k9 x hx).lt))
  have hP1 : va_P D cl ((X ++ va_pl L f) ++ [(H.size, .inl (cA, n.toNatClampNeg, .inr (.inr (.inr (.inr (fun i => if i < n.toNatClampNeg then some (H.size + 1 + i) else none))))))]) F.heap := hP0.app (fun k9 x hx => by
    have h0 : k9 < 1 := (List.getElem?_eq_some_iff.mp hx).1
    rw [show k9 = 0 by omega] at hx
    cases hx
    exact f2)
  have hP2 : va_P D cl (((X ++ va_pl L f) ++ [(H.size, .inl (cA, n.toNatClampNeg, .inr (.inr (.inr (.inr (fun i => if i < n.toNatClampNeg then some (H.size + 1 + i) else none))))))]) ++ ((List.range n.toNatClampNeg).map (fun i => H.size + 1 + i)).map (fun a => (a, .inl (cy, z)))) F.heap := hP1.app (fun k9 x hx => by
    obtain ⟨a, ha, rfl⟩ := List.mem_map.mp (List.mem_of_getElem? hx)
    obtain ⟨i, hi, rfl⟩ := List.mem_map.mp ha
    exact hrow i (List.mem_range.mp hi))
  have hD2 : va_D A (((X ++ va_pl L f) ++ [(H.size, .inl (cA, n.toNatClampNeg, .inr (.inr (.inr (.inr (fun i => if i < n.toNatClampNeg then some (H.size + 1 + i) else none))))))]) ++ ((List.range n.toNatClampNeg).map (fun i => H.size + 1 + i)).map (fun a => (a, .inl (cy, z)))) := by
    have hD1 := hD.push (e := .inl (cA, n.toNatClampNeg, .inr (.inr (.inr (.inr (fun i => if i < n.toNatClampNeg then some (H.size + 1 + i) else none)))))) hP rfl (hA _ hS.1)
    generalize hW1 : (X ++ va_pl L f) ++ [(H.size, .inl (cA, n.toNatClampNeg, .inr (.inr (.inr (.inr (fun i => if i < n.toNatClampNeg then some (H.size + 1 + i) else none))))))] = W1 at hD1 hP1 ⊢
    have hle : ∀ (k9 : Nat) (x : Nat × va_E), W1[k9]? = some x → x.1 ≤ H.size := fun k9 x hx => by
      rw [← hW1] at hx
      by_cases hl : k9 < (X ++ va_pl L f).length
      · rw [List.getElem?_append_left hl] at hx
        exact Nat.le_of_lt ((hP k9 x hx).lt)
      · rw [List.getElem?_append_right (by omega)] at hx
        have h0 : k9 - (X ++ va_pl L f).length < 1 := (List.getElem?_eq_some_iff.mp hx).1
        rw [show k9 - (X ++ va_pl L f).length = 0 by omega] at hx
        cases hx
        exact Nat.le_refl _
    have hr : ∀ (k9 : Nat) (x : Nat × va_E), (((List.range n.toNatClampNeg).map (fun i => H.size + 1 + i)).map (fun a => ((a, .inl (cy, z)) : Nat × va_E)))[k9]? = some x → x.1 = H.size + 1 + k9 := fun k9 x hx => by
      rw [List.getElem?_map, List.getElem?_map] at hx
      by_cases h9 : k9 < n.toNatClampNeg
      · rw [List.getElem?_range h9] at hx
        cases hx
        rfl
      · have hn0 : (List.range n.toNatClampNeg)[k9]? = none := List.getElem?_eq_none (by rw [List.length_range]; omega)
        rw [hn0] at hx
        cases hx
    refine ⟨fun i j x y hi hj hxy => ?_, fun k9 x hx => ?_⟩
    · by_cases h1 : i < W1.length <;> by_cases h2 : j < W1.length
      · rw [List.getElem?_append_left h1] at hi
        rw [List.getElem?_append_left h2] at hj
        exact hD1.1 i j x y hi hj hxy
      · rw [List.getElem?_append_left h1] at hi
        rw [List.getElem?_append_right (by omega)] at hj
        have := hle _ _ hi
        have := hr _ _ hj
        omega
      · rw [List.getElem?_append_right (by omega)] at hi
        rw [List.getElem?_append_left h2] at hj
        have := hle _ _ hj
        have := hr _ _ hi
        omega
      · rw [List.getElem?_append_right (by omega)] at hi hj
        have := hr _ _ hi
        have := hr _ _ hj
        omega
    · by_cases h1 : k9 < W1.length
      · rw [List.getElem?_append_left h1] at hx
        exact hD1.2 k9 x hx
      · rw [List.getElem?_append_right (by omega)] at hx
        have := hr _ _ hx
        exact hA _ (by have := hS.1; omega)
  have hAr : ArrOfT s cA (.array ty) := fun N9 z9 => by
    obtain ⟨-, k9, hk9, cm9, hkk9⟩ := (hO 0 0 0).1
    exact ⟨(fun q hq => by cases hq), k9, hk9, cm9, hkk9⟩
  have hK2 : va_K D cl (tys ++ [(cA, .array ty)]) s := ⟨hK.1, fun k9 x hx => by
    by_cases hl : k9 < tys.length
    · rw [List.getElem?_append_left hl] at hx
      exact hK.2 k9 x hx
    · rw [List.getElem?_append_right (by omega)] at hx
      have h0 : k9 - tys.length < 1 := (List.getElem?_eq_some_iff.mp hx).1
      rw [show k9 - tys.length = 0 by omega] at hx
      cases hx
      exact ⟨hAr, fA⟩⟩
  obtain ⟨t, a1, b1⟩ := kk H.size (fun i => H.size + 1 + i) cA F.heap (fun i j _ _ h => by have h9 : H.size + 1 + i = H.size + 1 + j := h; omega) hnl hK2 (by rw [← vr_rows hnm]; exact vr_lay hP2) (by rw [← vr_rows hnm]; exact vr_layD hD2) ⟨by rw [f1]; have := hS.1; omega, fun x h1 h2 => (hold x (Nat.lt_of_lt_of_le h1 hS.1)).trans (hS.2.1 x h1 h2), hS.2.2⟩ F rfl X'
  refine ⟨t, step t ?_, b1⟩
  have e : T.heap.size = H.size := by rw [hT]
  rw [e]
  exact a1
end VGM
/-! ===== END ===== -/

/-! ===== BEGIN exceptions that leave a method, and their catching by the caller (launches without stack traces) ===== -/
section VXA
/-! The laws vx_back, vx_callV, vx_callS, vx_callSW, vx_throw0, vx_throwS follow proofs of the library, with one case more: JvmDerived/Free/Laws.lean (Back.of_free), Shelf42/LK1.lean (callV, callS), Shelf/KitTraced.lean (throwNew0V, throwNewS). -/
/-- where a method has thrown q: the class by its name, the cell, what was written, the world -/
def vx_T (XC : String → State → State → Prop) (st : State) (q : Addr) (t : State) (mc ms : Nat) (free : Addr → Prop) : Prop :=
  ∃ (E : String) (ce : Cell) (L : List Loc), XC E st t ∧ t.heap[q]? = some ce ∧ ce.vm = .none ∧ st.vm.findClass E = some ce.cls ∧ st.WarmedH t.vm ∧ st.sameButNew ({ t with vm := st.vm } : State) L mc ms ∧ ∀ z ∈ L, free z.base
def vx_Q (Qc : Array Value → State → Outcome → State → Prop) (XC : String → State → State → Prop) (mc ms : Nat) (free : Addr → Prop) : Array Value → State → Outcome → State → Prop := fun a st o t =>
  (Qc a st o t ∧ ∃ L, FrameEnd st o t L mc ms ∧ ∀ q ∈ L, free q.base) ∨ ∃ q, o = .threw q ∧ vx_T XC st q t mc ms free
/-- a callee that returns or throws -/
def vx_Met (l : Launch) (y : MethodName) (ws : List Cond) (rm : Room) (Pc : Array Value → State → Prop) (Qc : Array Value → State → Outcome → State → Prop) (XC : String → State → State → Prop) (mc ms : Nat) (free : Addr → Prop) : Prop :=
  MetFree l y (headSpec ws rm) Pc (fun _ _ _ _ _ => True) (vx_Q Qc XC mc ms free)
def vx_Post (XC : String → State → State → Prop) (mc ms : Nat) (free : Addr → Prop) : Pt → Array Value → Addr → Pt → Prop := fun A a q B =>
  ∃ (g : JFrame) (mk : MethodId) (t : State) (L : List Loc) (E : String) (ce : Cell), B.U.heap = t.heap ∧ B.U.vm = t.vm ∧ XC E (A.U.calling g mk a) t ∧ t.heap[q]? = some ce ∧ ce.vm = .none ∧ A.U.vm.findClass E = some ce.cls ∧ B.locs = A.locs ++ L ∧ (∀ z ∈ L, free z.base) ∧ B.cells = A.cells + mc ∧ B.slots = A.slots + ms
def vx_Back (l : Launch) (R : Room) (p : Program) (e : Env) (below : List Frame) (s : State) (sargs : Array Value) (y : MethodName) (len W9 : Nat)
    (Pre : Pt → Array Value → Prop) (Post : Pt → Array Value → Option Value → Pt → Prop) (PostX : Pt → Array Value → Addr → Pt → Prop) : Prop :=
  ∀ (m : MethodId) (meth : Method) (c : Code) (A : Pt) (g : JFrame) (ig : Instr) (mk : MethodId) (a : Array Value),
    Stand p l e R s m sargs below meth c A.U A.locs A.cells A.slots → g.method = m → g.locals.size = c.maxLocals → decode c.code g.pc = .ok (ig, len) →
    2 * g.monitorRoom + (g.stack.map fun v => v.category).sum ≤ W9 → A.U.methodNamed? y = some mk → Pre A a →
    (∃ (v : Option Value) (B : Pt), Stand p l e R s m sargs below meth c B.U B.locs B.cells B.slots ∧ Post A a v B ∧
      Steps p.tables e below (doInvoke e (A.U.setTop g) [] mk a).1 (B.U.setTop { g with pc := g.pc + len, stack := v.toList ++ g.stack })) ∨
    (∃ (q : Addr) (B : Pt), Stand p l e R s m sargs below meth c B.U B.locs B.cells B.slots ∧ PostX A a q B ∧
      Steps p.tables e below (doInvoke e (A.U.setTop g) [] mk a).1 ((B.U.setTop g).pushFrame (.throwing q)))
section Payer
variable {l : Launch} {R : Room} {p : Program} {e : Env} {below : List Frame} {s : State} {sargs : Array Value} {y : MethodName} {len W9 : Nat}
theorem vx_back {ws : List Cond} {rm : Room} {Pc : Array Value → State → Prop} {Qc : Array Value → State → Outcome → State → Prop} {XC : String → State → State → Prop} {mc ms : Nat} {free : Addr → Prop} {bytes : ByteArray} {maxL : Nat} {ret : Option FieldType}
    (hM : vx_Met l y ws rm Pc Qc XC mc ms free) (hblind : FrameBlind Pc) (hrc : rm.cells = mc) (hrs : rm.slots = ms)
    (hframes : rm.frames + 1 ≤ R.frames) (hlocals : W9 + (maxL + 11) + rm.locals ≤ R.locals)
    (hws : ∀ w ∈ ws, ∀ a' U, s.WarmedH U.vm → w.before a' U = true) (hcode : Cond.code y bytes maxL ret ∈ ws) (hinit : ∀ a' U, s.WarmedH U.vm → (Cond.initialized y.cls).before a' U = true) :
    vx_Back l R p e below s sargs y len W9 (PreOf R mc ms Pc) (PostOf Qc mc ms free) (vx_Post XC mc ms free) := by
  intro m meth c A g ig mk a X hg hsize hdg hW hn hp
  have h1 : (headSpec ws rm).pre.before a A.U = true := atoms_intro fun w hw => hws w hw _ _ X.warmed
  have h2 : (Cond.code y bytes maxL ret).before a A.U = true := hws _ hcode _ _ X.warmed
  have h3 : (Cond.initialized y.cls).before a A.U = true := hinit _ _ X.warmed
  have h4 : A.cells + (headSpec ws rm).room.cells ≤ R.cells := by rw [show (headSpec ws rm).room.cells = mc from hrc]; exact hp.1
  have h5 : A.slots + (headSpec ws rm).room.slots ≤ R.slots := by rw [show (headSpec ws rm).room.slots = ms from hrs]; exact hp.2.1
  have hPc : Pc a (A.U.calling g mk a) := hblind _ _ _ _ hp.2.2
  obtain ⟨U, Ls, c0, s0⟩ := A
  dsimp only [Pt.U, Pt.locs, Pt.cells, Pt.slots] at h1 h2 h3 h4 h5 X hn hPc ⊢
  obtain ⟨methY, cY, hmY, hcY, -, hlY, -, -, -, -⟩ := Cond.code_spec hn h2
  obtain ⟨kY, hkY, -⟩ := className_of_methodNamed hn
  have hinitY : kY.init = .initialized := Cond.initialized_spec (findClass_of_methodNamed hn) hkY h3
  have h : At U g.method c below := by rw [hg]; exact X.here
  have hlocals9 : W9 + (maxL + 11) + (headSpec ws rm).room.locals ≤ R.locals := hlocals
  have happ : (headSpec ws rm).appliesLoose y e.platform (U.calling g mk a) = true :=
    Spec.appliesLoose_calling (g := g) h hdg hn hkY hinitY
      (X.room_calling (g := g) (R' := (headSpec ws rm).room) hsize hmY hcY hframes (by rw [hlY]; omega) h4 h5) h1
  obtain ⟨mid, hmid⟩ := h.above
  have hfr : (U.setTop g).frames = (.java g :: mid) ++ below := by rw [State.frames_setTop' g h.top, hmid]; rfl
  obtain ⟨o, s₂, hsteps, -, hend, hq⟩ := Steps.callFree hM p X.admits X.cas X.clock (acts := []) hfr happ hPc trivial
  have hq' : vx_Q Qc XC mc ms free a (U.calling g mk a) o s₂ := hq
  rw [State.frames_setTop' g h.top] at hend
  obtain ⟨g₀, hg0⟩ := Option.isSome_iff_exists.mp h.top
  obtain ⟨r, hr⟩ := State.topJava?_eq_some.mp hg0
  have hr' : (({ U with heap := s₂.heap, slotsUsed := s₂.slotsUsed } : State).setVm s₂.vm).frames = .java g₀ :: r := hr
  rcases hq' with ⟨hqc, L, hfe, hL⟩ | ⟨q, rfl, E, ce, L, hx, hce, hcv, hcl, hW₂, hsm, hL⟩
  · obtain ⟨⟨v, rfl⟩, hW₂, e2, q2, q3, q4, q5, q6⟩ := id hfe
    have e3 : s₂ = ({ (U.calling g mk a).setFrames s₂.frames with heap := s₂.heap, slotsUsed := s₂.slotsUsed } : State).setVm s₂.vm := by
      have : s₂ = ({ s₂ with vm := (U.calling g mk a).vm } : State).setVm s₂.vm := rfl
      rw [e2] at this
      exact this
    obtain ⟨c₂, i₂, len₂, hc₂, hd₂, hf₂⟩ := hend
    have hW' : U.WarmedH s₂.vm := hW₂
    have hcc : c₂ = c := by
      have h1 : s₂.code? g.method = U.code? g.method := by
        rw [State.code?_eq, State.code?_eq, hW'.alike.method?]
      exact Option.some.inj (hc₂.symm.trans (h1.trans h.code))
    subst hcc
    have hlen : len₂ = len := by rw [hdg] at hd₂; cases hd₂; rfl
    subst hlen
    have hs₂ : s₂ = (({ U with heap := s₂.heap, slotsUsed := s₂.slotsUsed } : State).setVm s₂.vm).setTop { g with pc := g.pc + len₂, stack := v.toList ++ g.stack } := by
      refine e3.trans ?_
      rw [hf₂, State.calling_eq h.top, State.setFrames_setFrames, State.setTop_of_frames _ hr', hr]
      rfl
    have hsame : U.sameButNew ({ U with heap := s₂.heap, slotsUsed := s₂.slotsUsed } : State) L mc ms := by
      refine ⟨?_, q2, q3, q4, q5, q6⟩
      obtain ⟨t, ht, -⟩ := State.frames_cons hr
      show ({ U with heap := s₂.heap, slotsUsed := s₂.slotsUsed } : State) = { U.setFrames U.frames with heap := s₂.heap, slotsUsed := s₂.slotsUsed }
      rw [State.setFrames_self ht]
    subst hg
    refine Or.inl ⟨v, ⟨(({ U with heap := s₂.heap, slotsUsed := s₂.slotsUsed } : State).setVm s₂.vm), Ls ++ L, c0 + mc, s0 + ms⟩,
      ⟨X.admits, X.cas, X.clock, X.frames, X.room, X.hears, X.method, X.code, (X.here.setHeapUsed s₂.heap s₂.slotsUsed).setVm hW'.alike, X.tail, State.WarmedH.trans X.warmed hW', X.limits, X.bytes, X.same.trans (hsame.setVm s.vm)⟩,
      ⟨g, mk, s₂, L, rfl, rfl, hqc, rfl, hL, rfl, rfl⟩, ?_⟩
    show Steps p.tables e below _ ((({ U with heap := s₂.heap, slotsUsed := s₂.slotsUsed } : State).setVm s₂.vm).setTop { g with pc := g.pc + len₂, stack := v.toList ++ g.stack })
    rw [← hs₂]
    exact hsteps
  · obtain ⟨e2, q2, q3, q4, q5, q6⟩ := id hsm
    have e3 : s₂ = ({ (U.calling g mk a).setFrames s₂.frames with heap := s₂.heap, slotsUsed := s₂.slotsUsed } : State).setVm s₂.vm := by
      have : s₂ = ({ s₂ with vm := (U.calling g mk a).vm } : State).setVm s₂.vm := rfl
      rw [e2] at this
      exact this
    have hf₂ : s₂.frames = .throwing q :: .java g :: U.frames.tail := hend
    have hW' : U.WarmedH s₂.vm := hW₂
    have hs₂ : s₂ = ((({ U with heap := s₂.heap, slotsUsed := s₂.slotsUsed } : State).setVm s₂.vm).setTop g).pushFrame (.throwing q) := by
      refine e3.trans ?_
      rw [hf₂, State.calling_eq h.top, State.setFrames_setFrames, State.pushFrame, State.frames_setTop _ hr', State.setTop_of_frames _ hr', State.setFrames_setFrames, hr]
      rfl
    have hsame : U.sameButNew ({ U with heap := s₂.heap, slotsUsed := s₂.slotsUsed } : State) L mc ms := by
      refine ⟨?_, q2, q3, q4, q5, q6⟩
      obtain ⟨t, ht, -⟩ := State.frames_cons hr
      show ({ U with heap := s₂.heap, slotsUsed := s₂.slotsUsed } : State) = { U.setFrames U.frames with heap := s₂.heap, slotsUsed := s₂.slotsUsed }
      rw [State.setFrames_self ht]
    subst hg
    refine Or.inr ⟨q, ⟨(({ U with heap := s₂.heap, slotsUsed := s₂.slotsUsed } : State).setVm s₂.vm), Ls ++ L, c0 + mc, s0 + ms⟩,
      ⟨X.admits, X.cas, X.clock, X.frames, X.room, X.hears, X.method, X.code, (X.here.setHeapUsed s₂.heap s₂.slotsUsed).setVm hW'.alike, X.tail, State.WarmedH.trans X.warmed hW', X.limits, X.bytes, X.same.trans (hsame.setVm s.vm)⟩,
      ⟨g, mk, s₂, L, E, ce, rfl, rfl, hx, hce, hcv, hcl, rfl, hL, rfl, rfl⟩, ?_⟩
    show Steps p.tables e below _ (((({ U with heap := s₂.heap, slotsUsed := s₂.slotsUsed } : State).setVm s₂.vm).setTop g).pushFrame (.throwing q))
    rw [← hs₂]
    exact hsteps
end Payer
section Calls
variable {p : Program} {l : Launch} {e : Env} {R : Room} {s : State} {m : MethodId} {args : Array Value} {below : List Frame} {meth : Method} {c : Code} {T : State} {locs : List Loc} {cells slots : Nat}
theorem vx_callV (X : Stand p l e R s m args below meth c T locs cells slots) (hexec : p.tables.exec = Jvm.exec) {own C : String} {index : Nat} {y : MethodName} {bytes : ByteArray} {maxL : Nat} {ret : Option FieldType}
    (hown : s.vm.findClass own = some m.cls) (hlink : (Cond.methodLink own index y).before args s = true) (hinst : (Cond.instanceMethod y).before args s = true) (hsel : (Cond.selects C y y).before args s = true)
    (hcode : (Cond.code y bytes maxL ret).before args s = true) (hy : y.cls ≠ "java/lang/invoke/MethodHandle" ∧ y.cls ≠ "java/lang/invoke/VarHandle")
    {W9 : Nat} {Pre : Pt → Array Value → Prop} {Post : Pt → Array Value → Option Value → Pt → Prop} {PostX : Pt → Array Value → Addr → Pt → Prop} (hK : vx_Back l R p e below s args y 3 W9 Pre Post PostX)
    {b : Addr} {cellB : Cell} (hcell : T.heap[b]? = some cellB) (hobj : cellB.vm.isStatics = false) (hcls : s.vm.findClass C = some cellB.cls)
    {g : JFrame} (hg : g.method = m) (hsize : g.locals.size = c.maxLocals) {argsL rest : List Value} (hlen : ∀ sig, parseMethodDescriptor y.desc = some sig → argsL.length = sig.parameters.length)
    (hstack : g.stack = argsL.reverse ++ .ref b :: rest) (hW : 2 * g.monitorRoom + (rest.map fun v => v.category).sum ≤ W9) (hdg : decode c.code g.pc = .ok (.invokevirtual index, 3))
    (hpre : ∀ vm₁, s.WarmedH vm₁ → Pre ⟨T.setVm vm₁, locs, cells, slots⟩ (Value.ref b :: argsL).toArray) :
    (∃ (v : Option Value) (vm₁ : Vm) (B : Pt), s.WarmedH vm₁ ∧ Stand p l e R s m args below meth c B.U B.locs B.cells B.slots ∧ Post ⟨T.setVm vm₁, locs, cells, slots⟩ (Value.ref b :: argsL).toArray v B ∧
      ∀ target, Steps p.tables e below (B.U.setTop { g with pc := g.pc + 3, stack := v.toList ++ rest }) target → Steps p.tables e below (T.setTop g) target) ∨
    (∃ (q : Addr) (vm₁ : Vm) (B : Pt), s.WarmedH vm₁ ∧ Stand p l e R s m args below meth c B.U B.locs B.cells B.slots ∧ PostX ⟨T.setVm vm₁, locs, cells, slots⟩ (Value.ref b :: argsL).toArray q B ∧
      Steps p.tables e below (T.setTop g) ((B.U.setTop { g with stack := rest }).pushFrame (.throwing q))) := by
  obtain ⟨mk, methM, hnamed, hmethM, hstM, habM⟩ := Cond.instanceMethod_spec hinst
  obtain ⟨methM', cM, hmethM', -, -, -, -, -, -, hsigM⟩ := Cond.code_spec hnamed hcode
  cases hmethM.symm.trans hmethM'
  obtain ⟨c2, r2, m2, q1, q2, q3, q4, kP, hkP, hkPi⟩ := Cond.selects_spec hsel
  cases hcls.symm.trans q1
  cases (State.methodFound?_of_named hnamed hy).symm.trans q2
  cases hnamed.symm.trans q3
  have hselP : selectMethod e.platform s.vm cellB.cls mk = .method mk := by rw [Launch.admits_selectMethod X.admits]; exact q4
  obtain ⟨vm₁, X₁, hstep₁⟩ := X.invokevirtual hexec hown hlink hnamed hmethM hstM hkP hkPi hy (a := b) (cell := cellB) hcell
    (fun z h => by rw [h] at hobj; cases hobj) hselP hmethM habM hkP hkPi (g := g) hg (argsL := argsL) (rest := rest) (hlen _ hsigM) hstack hdg
  rcases hK m meth c ⟨T.setVm vm₁, locs, cells, slots⟩ { g with stack := rest } (.invokevirtual index) mk (Value.ref b :: argsL).toArray X₁ hg hsize hdg hW (X₁.named hnamed) (hpre vm₁ X₁.warmed) with ⟨v, B, X', hpost, hsteps⟩ | ⟨q, B, X', hpost, hsteps⟩
  · exact Or.inl ⟨v, vm₁, B, X₁.warmed, X', hpost, fun target h => hstep₁ _ fun acts => by rw [doInvoke_state]; exact hsteps.trans h⟩
  · exact Or.inr ⟨q, vm₁, B, X₁.warmed, X', hpost, hstep₁ _ fun acts => by rw [doInvoke_state]; exact hsteps⟩
theorem vx_callS (X : Stand p l e R s m args below meth c T locs cells slots) (hexec : p.tables.exec = Jvm.exec) {own : String} {index : Nat} {y : MethodName} {bytes : ByteArray} {maxL : Nat} {ret : Option FieldType}
    (hown : s.vm.findClass own = some m.cls) (hlink : (Cond.methodLink own index y).before args s = true) (hstat : (Cond.static y).before args s = true) (hinit : (Cond.initialized y.cls).before args s = true)
    (hcode : (Cond.code y bytes maxL ret).before args s = true) (hy : y.cls ≠ "java/lang/invoke/MethodHandle" ∧ y.cls ≠ "java/lang/invoke/VarHandle")
    {W9 : Nat} {Pre : Pt → Array Value → Prop} {Post : Pt → Array Value → Option Value → Pt → Prop} {PostX : Pt → Array Value → Addr → Pt → Prop} (hK : vx_Back l R p e below s args y 3 W9 Pre Post PostX)
    {g : JFrame} (hg : g.method = m) (hsize : g.locals.size = c.maxLocals) {argsL rest : List Value} (hlen : ∀ sig, parseMethodDescriptor y.desc = some sig → argsL.length = sig.parameters.length)
    (hstack : g.stack = argsL.reverse ++ rest) (hW : 2 * g.monitorRoom + (rest.map fun v => v.category).sum ≤ W9) (hdg : decode c.code g.pc = .ok (.invokestatic index, 3))
    (hpre : ∀ vm₁, s.WarmedH vm₁ → Pre ⟨T.setVm vm₁, locs, cells, slots⟩ argsL.toArray) :
    (∃ (v : Option Value) (vm₁ : Vm) (B : Pt), s.WarmedH vm₁ ∧ Stand p l e R s m args below meth c B.U B.locs B.cells B.slots ∧ Post ⟨T.setVm vm₁, locs, cells, slots⟩ argsL.toArray v B ∧
      ∀ target, Steps p.tables e below (B.U.setTop { g with pc := g.pc + 3, stack := v.toList ++ rest }) target → Steps p.tables e below (T.setTop g) target) ∨
    (∃ (q : Addr) (vm₁ : Vm) (B : Pt), s.WarmedH vm₁ ∧ Stand p l e R s m args below meth c B.U B.locs B.cells B.slots ∧ PostX ⟨T.setVm vm₁, locs, cells, slots⟩ argsL.toArray q B ∧
      Steps p.tables e below (T.setTop g) ((B.U.setTop { g with stack := rest }).pushFrame (.throwing q))) := by
  obtain ⟨mk, hnamed⟩ := Cond.code_named hcode
  obtain ⟨methM, cM, hmethM, -, -, -, -, -, -, hsigM⟩ := Cond.code_spec hnamed hcode
  have hstatic : methM.isStatic = true := Cond.static_spec hnamed hmethM hstat
  obtain ⟨kP, hkP, -⟩ := className_of_methodNamed hnamed
  have hinitP : kP.init = .initialized := Cond.initialized_spec (findClass_of_methodNamed hnamed) hkP hinit
  obtain ⟨vm₁, X₁, hstep₁⟩ := X.invokestatic hexec hown hlink hnamed hmethM hstatic hkP hinitP hy (g := g) hg (argsL := argsL) (rest := rest) (hlen _ hsigM) hstack hdg
  rcases hK m meth c ⟨T.setVm vm₁, locs, cells, slots⟩ { g with stack := rest } (.invokestatic index) mk argsL.toArray X₁ hg hsize hdg hW (X₁.named hnamed) (hpre vm₁ X₁.warmed) with ⟨v, B, X', hpost, hsteps⟩ | ⟨q, B, X', hpost, hsteps⟩
  · exact Or.inl ⟨v, vm₁, B, X₁.warmed, X', hpost, fun target h => hstep₁ _ fun acts => by rw [doInvoke_state]; exact hsteps.trans h⟩
  · exact Or.inr ⟨q, vm₁, B, X₁.warmed, X', hpost, hstep₁ _ fun acts => by rw [doInvoke_state]; exact hsteps⟩
end Calls
theorem vx_cls {s : State} {T : State} {vm₁ : Vm} {E : String} {k : ClassId} (hW : s.WarmedH vm₁) (h : (T.setVm vm₁).vm.findClass E = some k) : s.vm.findClass E = some k := by
  have h1 : vm₁.findClass E = some k := h
  rw [hW.alike.findClass] at h1
  exact h1
/-- the method's frame g, with q thrown over it -/
def vx_W (p : Program) (l : Launch) (e : Env) (R : Room) (s : State) (m : MethodId) (args : Array Value) (below : List Frame) (meth : Method) (c : Code) (H : Heap) (locs : List Loc) (cells slots : Nat) (Q : State → Prop) (g : JFrame) (q : Addr) : Prop :=
  ∀ T : State, T.heap = H → Stand p l e R s m args below meth c T locs cells slots → ∃ t, Steps p.tables e below ((T.setTop g).pushFrame (.throwing q)) t ∧ Q t
def vx_Run (p : Program) (l : Launch) (e : Env) (R : Room) (s : State) (m : MethodId) (args : Array Value) (below : List Frame) (meth : Method) (c : Code) (H : Heap) (locs : List Loc) (cells slots mc ms : Nat) (g : JFrame) (rest : List Value) (Qa : State → Outcome → State → Prop) (XC : String → State → State → Prop) (free : Addr → Prop) : Prop :=
  ∀ T : State, T.heap = H → Stand p l e R s m args below meth c T locs cells slots →
    (∃ (v : Option Value) (st₀ t T' : State) (L : List Loc), st₀.heap = H ∧ Stand p l e R s m args below meth c T' (locs ++ L) (cells + mc) (slots + ms) ∧ (∀ q ∈ L, free q.base) ∧ T'.heap = t.heap ∧ T'.vm = t.vm ∧ Qa st₀ (.returned v) t ∧
      Goes p e below T g T' { g with pc := g.pc + 3, stack := v.toList ++ rest }) ∨
    (∃ (q : Addr) (st₀ t T' : State) (L : List Loc) (E : String) (ce : Cell), st₀.heap = H ∧ Stand p l e R s m args below meth c T' (locs ++ L) (cells + mc) (slots + ms) ∧ (∀ z ∈ L, free z.base) ∧ T'.heap = t.heap ∧ T'.vm = t.vm ∧ XC E st₀ t ∧ t.heap[q]? = some ce ∧ ce.vm = .none ∧ s.vm.findClass E = some ce.cls ∧
      Steps p.tables e below (T.setTop g) ((T'.setTop { g with stack := rest }).pushFrame (.throwing q)))
def vx_X {S : Type} (px : S → Prop) (B : String → S → State → Prop) (A : Nat → Prop) : String → State → State → Prop := fun E st t => ∃ u : S, px u ∧ B E u t ∧ va_F A st t
section Runs
variable {p : Program} {l : Launch} {e : Env} {R : Room} {s : State} {m : MethodId} {args : Array Value} {below : List Frame} {meth : Method} {c : Code} {H : Heap} {locs : List Loc} {cells slots : Nat}
variable {y : MethodName} {bytes cc : ByteArray} {maxL nL mc ms n index : Nat} {ret : Option FieldType} {ws : List Cond} {rm : Room} {Pc : Array Value → State → Prop} {Qc : Array Value → State → Outcome → State → Prop} {XC : String → State → State → Prop} {free : Addr → Prop} {Ts : List Cond} {own C : String} {b : Addr} {As rest : List Value} {g : JFrame}
theorem vx_callBack (cb : CallB R s args own index y bytes maxL ret ws rm mc ms n) (hM : vx_Met l y ws rm Pc Qc XC mc ms free) (hbl : FrameBlind Pc) : vx_Back l R p e below s args y 3 8 (PreOf R mc ms Pc) (PostOf Qc mc ms free) (vx_Post XC mc ms free) := by
  obtain ⟨hrc, hrs, hfr, hlo, hws, hcw, -, hini, -⟩ := cb
  exact vx_back (bytes := bytes) (maxL := maxL) (ret := ret) hM hbl hrc hrs hfr hlo hws hcw (fun a' U hW => word_at hW (Or.inl (by first | rfl | simp [Cond.onTables, Cond.keeps, Cond.steady])) hini)
theorem vx_runV (S : CallFix p m c cc nL s args Ts own) (hM : vx_Met l y ws rm Pc Qc XC mc ms free) (cw : CallW R s args own C index y bytes maxL ret ws rm mc ms n) (hp : PreV s H C b Pc As)
    (hg : g.method = m) (hn : As.length = n) (hsize : g.locals.size = nL) (hstack : g.stack = As.reverse ++ .ref b :: rest) (hW : 2 * g.monitorRoom + (rest.map fun v => v.category).sum ≤ 8) (hdg : decode cc g.pc = .ok (.invokevirtual index, 3)) (hf : cells + mc ≤ R.cells ∧ slots + ms ≤ R.slots) :
    vx_Run p l e R s m args below meth c H locs cells slots mc ms g rest (Qc (Value.ref b :: As).toArray) XC free := by
  have hK : vx_Back l R p e below s args y 3 8 (PreOf R mc ms Pc) (PostOf Qc mc ms free) (vx_Post XC mc ms free) := vx_callBack cw.1 hM hp.1
  obtain ⟨⟨-, -, -, -, -, -, hcode, -, hy, hlen, hl⟩, hin, hse⟩ := cw
  obtain ⟨hx, hb, hml, ho, -⟩ := S
  obtain ⟨-, ⟨cellB, hcB, hoB, hclB⟩, hPc⟩ := hp
  intro T hT X
  rcases vx_callV X hx (C := C) (bytes := bytes) (maxL := maxL) (ret := ret) ho hl hin hse hcode hy hK (by rw [hT]; exact hcB) hoB hclB hg (hsize.trans hml.symm) (argsL := As) (rest := rest) (fun sig h => hn.trans (hlen sig h)) hstack hW (by rw [hb]; exact hdg)
    (fun vm₁ hW₁ => ⟨hf.1, hf.2, hPc (T.setVm vm₁) hT hW₁⟩) with ⟨v, vm₁, ⟨U', l2, c2, s2⟩, hW₁, X', ⟨g', mk, t, L, e1, e2, hq, h1, hL, h2, h3⟩, st⟩ | ⟨q, vm₁, ⟨U', l2, c2, s2⟩, hW₁, X', ⟨g', mk, t, L, E, ce, e1, e2, hq, hce, hcv, hcl, h1, hL, h2, h3⟩, st⟩
  · dsimp only [Pt.U, Pt.locs, Pt.cells, Pt.slots] at X' e1 e2 h1 h2 h3 st
    subst h1; subst h2; subst h3
    exact Or.inl ⟨v, (T.setVm vm₁).calling g' mk (Value.ref b :: As).toArray, t, U', L, hT, X', hL, e1, e2, hq, st⟩
  · dsimp only [Pt.U, Pt.locs, Pt.cells, Pt.slots] at X' e1 e2 h1 h2 h3 st hcl
    subst h1; subst h2; subst h3
    exact Or.inr ⟨q, (T.setVm vm₁).calling g' mk (Value.ref b :: As).toArray, t, U', L, E, ce, hT, X', hL, e1, e2, hq, hce, hcv, vx_cls hW₁ hcl, st⟩
theorem vx_runS (S : CallFix p m c cc nL s args Ts own) (hM : vx_Met l y ws rm Pc Qc XC mc ms free) (cw : CallB R s args own index y bytes maxL ret ws rm mc ms n ∧ (Cond.static y).before args s = true) (hp : PreS s H Pc As)
    (hg : g.method = m) (hn : As.length = n) (hsize : g.locals.size = nL) (hstack : g.stack = As.reverse ++ rest) (hW : 2 * g.monitorRoom + (rest.map fun v => v.category).sum ≤ 8) (hdg : decode cc g.pc = .ok (.invokestatic index, 3)) (hf : cells + mc ≤ R.cells ∧ slots + ms ≤ R.slots) :
    vx_Run p l e R s m args below meth c H locs cells slots mc ms g rest (Qc As.toArray) XC free := by
  have hK : vx_Back l R p e below s args y 3 8 (PreOf R mc ms Pc) (PostOf Qc mc ms free) (vx_Post XC mc ms free) := vx_callBack cw.1 hM hp.1
  obtain ⟨⟨-, -, -, -, -, -, hcode, hini, hy, hlen, hl⟩, hstt⟩ := cw
  obtain ⟨hx, hb, hml, ho, -⟩ := S
  intro T hT X
  rcases vx_callS X hx (bytes := bytes) (maxL := maxL) (ret := ret) ho hl hstt hini hcode hy hK hg (hsize.trans hml.symm) (argsL := As) (rest := rest) (fun sig h => hn.trans (hlen sig h)) hstack hW (by rw [hb]; exact hdg)
    (fun vm₁ hW₁ => ⟨hf.1, hf.2, hp.2 (T.setVm vm₁) hT hW₁⟩) with ⟨v, vm₁, ⟨U', l2, c2, s2⟩, hW₁, X', ⟨g', mk, t, L, e1, e2, hq, h1, hL, h2, h3⟩, st⟩ | ⟨q, vm₁, ⟨U', l2, c2, s2⟩, hW₁, X', ⟨g', mk, t, L, E, ce, e1, e2, hq, hce, hcv, hcl, h1, hL, h2, h3⟩, st⟩
  · dsimp only [Pt.U, Pt.locs, Pt.cells, Pt.slots] at X' e1 e2 h1 h2 h3 st
    subst h1; subst h2; subst h3
    exact Or.inl ⟨v, (T.setVm vm₁).calling g' mk As.toArray, t, U', L, hT, X', hL, e1, e2, hq, st⟩
  · dsimp only [Pt.U, Pt.locs, Pt.cells, Pt.slots] at X' e1 e2 h1 h2 h3 st hcl
    subst h1; subst h2; subst h3
    exact Or.inr ⟨q, (T.setVm vm₁).calling g' mk As.toArray, t, U', L, E, ce, hT, X', hL, e1, e2, hq, hce, hcv, vx_cls hW₁ hcl, st⟩
end Runs
section Rows
variable {p : Program} {l : Launch} {e : Env} {R : Room} {s : State} {m : MethodId} {args : Array Value} {below : List Frame} {meth : Method} {c : Code} {H : Heap} {locs : List Loc} {cells slots : Nat} {Q : State → Prop}
variable {mc ms : Nat} {free : Addr → Prop} {A0 A1 : Nat → Prop} {H0 : Heap} {a : Array Value} {pc : Nat} {ls : Array Slot} {st0 rest : List Value}
theorem vx_keep {st₀ t T' : State} {L : List Loc} (h0 : st₀.heap = H) (e1 : T'.heap = t.heap) (hS : va_S A0 H0 H locs) (hA : ∀ q, q < H.size → A1 q → A0 q) (hf : ∀ q, free q → A0 q) (hL : ∀ q ∈ L, free q.base) (hF : va_F A1 st₀ t) :
    H.size ≤ T'.heap.size ∧ (∀ q : Nat, q < H.size → ¬ A1 q → T'.heap[q]? = H[q]?) ∧ va_S A0 H0 T'.heap (locs ++ L) := by
  obtain ⟨hz, hk⟩ := hF
  rw [h0] at hz hk
  exact ⟨by rw [e1]; exact hz, fun q h1 h2 => by rw [e1]; exact hk q h1 h2,
    ⟨Nat.le_trans hS.1 (by rw [e1]; exact hz), fun q h1 h2 => by rw [e1, hk q (Nat.lt_of_lt_of_le h1 hS.1) (fun z => h2 (hA q (Nat.lt_of_lt_of_le h1 hS.1) z))]; exact hS.2.1 q h1 h2, fun q hq => by
      rcases List.mem_append.mp hq with h | h
      · exact hS.2.2 q h
      · exact hf _ (hL q h)⟩⟩
theorem vx_calli {S SX : Type} {post : Int32 → S → Prop} {px : SX → Prop} {B : S → State → Prop} {BX : String → SX → State → Prop} {AX : Nat → Prop} (hr : vx_Run p l e R s m args below meth c H locs cells slots mc ms (F0 m pc ls st0) rest (va_Qi post B A1 a) (vx_X px BX AX) free) (hS : va_S A0 H0 H locs) (hA : ∀ q, q < H.size → A1 q → A0 q) (hf : ∀ q, free q → A0 q) (hAX : ∀ q, q < H.size → AX q → A0 q)
    (kx : ∀ (E : String) (ce : Cell) (q9 : Addr) (u : SX) (t : State) (H1 : Heap) (locs1 : List Loc), t.heap = H1 → s.vm.Alike t.vm → px u → BX E u t → H.size ≤ H1.size → (∀ q : Nat, q < H.size → ¬ AX q → H1[q]? = H[q]?) → va_S A0 H0 H1 locs1 → H1[q9]? = some ce → ce.vm = .none → s.vm.findClass E = some ce.cls → vx_W p l e R s m args below meth c H1 locs1 (cells + mc) (slots + ms) Q (F0 m pc ls rest) q9)
    (kk : ∀ (r : Int32) (u : S) (t : State) (H1 : Heap) (locs1 : List Loc), t.heap = H1 → s.vm.Alike t.vm → post r u → B u t → H.size ≤ H1.size → (∀ q : Nat, q < H.size → ¬ A1 q → H1[q]? = H[q]?) → va_S A0 H0 H1 locs1 → W p l e R s m args below meth c H1 locs1 (cells + mc) (slots + ms) Q (F0 m (pc + 3) ls (.int r :: rest))) : W p l e R s m args below meth c H locs cells slots Q (F0 m pc ls st0) := by
  intro T hT X
  rcases hr T hT X with ⟨v, st₀, t, T', L, h0, X', hL, e1, e2, ⟨⟨r, u, hv, hp, hb⟩, hF⟩, st⟩ | ⟨q, st₀, t, T', L, E, ce, h0, X', hL, e1, e2, ⟨u, hp, hb, hF⟩, hce, hcv, hcl, st⟩
  · cases hv
    obtain ⟨k1, k2, k3⟩ := vx_keep h0 e1 hS hA hf hL hF
    obtain ⟨t2, a1, b1⟩ := kk r u t T'.heap (locs ++ L) e1.symm (by rw [← e2]; exact X'.warmed.alike) hp hb k1 k2 k3 T' rfl X'
    exact ⟨t2, st t2 a1, b1⟩
  · obtain ⟨k1, k2, k3⟩ := vx_keep h0 e1 hS hAX hf hL hF
    obtain ⟨t2, a1, b1⟩ := kx E ce q u t T'.heap (locs ++ L) e1.symm (by rw [← e2]; exact X'.warmed.alike) hp hb k1 k2 k3 (by rw [e1]; exact hce) hcv hcl T' rfl X'
    exact ⟨t2, st.trans a1, b1⟩
theorem vx_calll {S SX : Type} {post : Int64 → S → Prop} {px : SX → Prop} {B : S → State → Prop} {BX : String → SX → State → Prop} {AX : Nat → Prop} (hr : vx_Run p l e R s m args below meth c H locs cells slots mc ms (F0 m pc ls st0) rest (va_Ql post B A1 a) (vx_X px BX AX) free) (hS : va_S A0 H0 H locs) (hA : ∀ q, q < H.size → A1 q → A0 q) (hf : ∀ q, free q → A0 q) (hAX : ∀ q, q < H.size → AX q → A0 q)
    (kx : ∀ (E : String) (ce : Cell) (q9 : Addr) (u : SX) (t : State) (H1 : Heap) (locs1 : List Loc), t.heap = H1 → s.vm.Alike t.vm → px u → BX E u t → H.size ≤ H1.size → (∀ q : Nat, q < H.size → ¬ AX q → H1[q]? = H[q]?) → va_S A0 H0 H1 locs1 → H1[q9]? = some ce → ce.vm = .none → s.vm.findClass E = some ce.cls → vx_W p l e R s m args below meth c H1 locs1 (cells + mc) (slots + ms) Q (F0 m pc ls rest) q9)
    (kk : ∀ (r : Int64) (u : S) (t : State) (H1 : Heap) (locs1 : List Loc), t.heap = H1 → s.vm.Alike t.vm → post r u → B u t → H.size ≤ H1.size → (∀ q : Nat, q < H.size → ¬ A1 q → H1[q]? = H[q]?) → va_S A0 H0 H1 locs1 → W p l e R s m args below meth c H1 locs1 (cells + mc) (slots + ms) Q (F0 m (pc + 3) ls (.long r :: rest))) : W p l e R s m args below meth c H locs cells slots Q (F0 m pc ls st0) := by
  intro T hT X
  rcases hr T hT X with ⟨v, st₀, t, T', L, h0, X', hL, e1, e2, ⟨⟨r, u, hv, hp, hb⟩, hF⟩, st⟩ | ⟨q, st₀, t, T', L, E, ce, h0, X', hL, e1, e2, ⟨u, hp, hb, hF⟩, hce, hcv, hcl, st⟩
  · cases hv
    obtain ⟨k1, k2, k3⟩ := vx_keep h0 e1 hS hA hf hL hF
    obtain ⟨t2, a1, b1⟩ := kk r u t T'.heap (locs ++ L) e1.symm (by rw [← e2]; exact X'.warmed.alike) hp hb k1 k2 k3 T' rfl X'
    exact ⟨t2, st t2 a1, b1⟩
  · obtain ⟨k1, k2, k3⟩ := vx_keep h0 e1 hS hAX hf hL hF
    obtain ⟨t2, a1, b1⟩ := kx E ce q u t T'.heap (locs ++ L) e1.symm (by rw [← e2]; exact X'.warmed.alike) hp hb k1 k2 k3 (by rw [e1]; exact hce) hcv hcl T' rfl X'
    exact ⟨t2, st.trans a1, b1⟩
theorem vx_callf {S SX : Type} {post : UInt32 → S → Prop} {px : SX → Prop} {B : S → State → Prop} {BX : String → SX → State → Prop} {AX : Nat → Prop} (hr : vx_Run p l e R s m args below meth c H locs cells slots mc ms (F0 m pc ls st0) rest (va_Qf post B A1 a) (vx_X px BX AX) free) (hS : va_S A0 H0 H locs) (hA : ∀ q, q < H.size → A1 q → A0 q) (hf : ∀ q, free q → A0 q) (hAX : ∀ q, q < H.size → AX q → A0 q)
    (kx : ∀ (E : String) (ce : Cell) (q9 : Addr) (u : SX) (t : State) (H1 : Heap) (locs1 : List Loc), t.heap = H1 → s.vm.Alike t.vm → px u → BX E u t → H.size ≤ H1.size → (∀ q : Nat, q < H.size → ¬ AX q → H1[q]? = H[q]?) → va_S A0 H0 H1 locs1 → H1[q9]? = some ce → ce.vm = .none → s.vm.findClass E = some ce.cls → vx_W p l e R s m args below meth c H1 locs1 (cells + mc) (slots + ms) Q (F0 m pc ls rest) q9)
    (kk : ∀ (r : UInt32) (u : S) (t : State) (H1 : Heap) (locs1 : List Loc), t.heap = H1 → s.vm.Alike t.vm → post r u → B u t → H.size ≤ H1.size → (∀ q : Nat, q < H.size → ¬ A1 q → H1[q]? = H[q]?) → va_S A0 H0 H1 locs1 → W p l e R s m args below meth c H1 locs1 (cells + mc) (slots + ms) Q (F0 m (pc + 3) ls (.float r :: rest))) : W p l e R s m args below meth c H locs cells slots Q (F0 m pc ls st0) := by
  intro T hT X
  rcases hr T hT X with ⟨v, st₀, t, T', L, h0, X', hL, e1, e2, ⟨⟨r, u, hv, hp, hb⟩, hF⟩, st⟩ | ⟨q, st₀, t, T', L, E, ce, h0, X', hL, e1, e2, ⟨u, hp, hb, hF⟩, hce, hcv, hcl, st⟩
  · cases hv
    obtain ⟨k1, k2, k3⟩ := vx_keep h0 e1 hS hA hf hL hF
    obtain ⟨t2, a1, b1⟩ := kk r u t T'.heap (locs ++ L) e1.symm (by rw [← e2]; exact X'.warmed.alike) hp hb k1 k2 k3 T' rfl X'
    exact ⟨t2, st t2 a1, b1⟩
  · obtain ⟨k1, k2, k3⟩ := vx_keep h0 e1 hS hAX hf hL hF
    obtain ⟨t2, a1, b1⟩ := kx E ce q u t T'.heap (locs ++ L) e1.symm (by rw [← e2]; exact X'.warmed.alike) hp hb k1 k2 k3 (by rw [e1]; exact hce) hcv hcl T' rfl X'
    exact ⟨t2, st.trans a1, b1⟩
theorem vx_calld {S SX : Type} {post : UInt64 → S → Prop} {px : SX → Prop} {B : S → State → Prop} {BX : String → SX → State → Prop} {AX : Nat → Prop} (hr : vx_Run p l e R s m args below meth c H locs cells slots mc ms (F0 m pc ls st0) rest (va_Qd post B A1 a) (vx_X px BX AX) free) (hS : va_S A0 H0 H locs) (hA : ∀ q, q < H.size → A1 q → A0 q) (hf : ∀ q, free q → A0 q) (hAX : ∀ q, q < H.size → AX q → A0 q)
    (kx : ∀ (E : String) (ce : Cell) (q9 : Addr) (u : SX) (t : State) (H1 : Heap) (locs1 : List Loc), t.heap = H1 → s.vm.Alike t.vm → px u → BX E u t → H.size ≤ H1.size → (∀ q : Nat, q < H.size → ¬ AX q → H1[q]? = H[q]?) → va_S A0 H0 H1 locs1 → H1[q9]? = some ce → ce.vm = .none → s.vm.findClass E = some ce.cls → vx_W p l e R s m args below meth c H1 locs1 (cells + mc) (slots + ms) Q (F0 m pc ls rest) q9)
    (kk : ∀ (r : UInt64) (u : S) (t : State) (H1 : Heap) (locs1 : List Loc), t.heap = H1 → s.vm.Alike t.vm → post r u → B u t → H.size ≤ H1.size → (∀ q : Nat, q < H.size → ¬ A1 q → H1[q]? = H[q]?) → va_S A0 H0 H1 locs1 → W p l e R s m args below meth c H1 locs1 (cells + mc) (slots + ms) Q (F0 m (pc + 3) ls (.double r :: rest))) : W p l e R s m args below meth c H locs cells slots Q (F0 m pc ls st0) := by
  intro T hT X
  rcases hr T hT X with ⟨v, st₀, t, T', L, h0, X', hL, e1, e2, ⟨⟨r, u, hv, hp, hb⟩, hF⟩, st⟩ | ⟨q, st₀, t, T', L, E, ce, h0, X', hL, e1, e2, ⟨u, hp, hb, hF⟩, hce, hcv, hcl, st⟩
  · cases hv
    obtain ⟨k1, k2, k3⟩ := vx_keep h0 e1 hS hA hf hL hF
    obtain ⟨t2, a1, b1⟩ := kk r u t T'.heap (locs ++ L) e1.symm (by rw [← e2]; exact X'.warmed.alike) hp hb k1 k2 k3 T' rfl X'
    exact ⟨t2, st t2 a1, b1⟩
  · obtain ⟨k1, k2, k3⟩ := vx_keep h0 e1 hS hAX hf hL hF
    obtain ⟨t2, a1, b1⟩ := kx E ce q u t T'.heap (locs ++ L) e1.symm (by rw [← e2]; exact X'.warmed.alike) hp hb k1 k2 k3 (by rw [e1]; exact hce) hcv hcl T' rfl X'
    exact ⟨t2, st.trans a1, b1⟩
theorem vx_callv {S SX : Type} {post : S → Prop} {px : SX → Prop} {B : S → State → Prop} {BX : String → SX → State → Prop} {AX : Nat → Prop} (hr : vx_Run p l e R s m args below meth c H locs cells slots mc ms (F0 m pc ls st0) rest (va_Qv post B A1 a) (vx_X px BX AX) free) (hS : va_S A0 H0 H locs) (hA : ∀ q, q < H.size → A1 q → A0 q) (hf : ∀ q, free q → A0 q) (hAX : ∀ q, q < H.size → AX q → A0 q)
    (kx : ∀ (E : String) (ce : Cell) (q9 : Addr) (u : SX) (t : State) (H1 : Heap) (locs1 : List Loc), t.heap = H1 → s.vm.Alike t.vm → px u → BX E u t → H.size ≤ H1.size → (∀ q : Nat, q < H.size → ¬ AX q → H1[q]? = H[q]?) → va_S A0 H0 H1 locs1 → H1[q9]? = some ce → ce.vm = .none → s.vm.findClass E = some ce.cls → vx_W p l e R s m args below meth c H1 locs1 (cells + mc) (slots + ms) Q (F0 m pc ls rest) q9)
    (kk : ∀ (u : S) (t : State) (H1 : Heap) (locs1 : List Loc), t.heap = H1 → s.vm.Alike t.vm → post u → B u t → H.size ≤ H1.size → (∀ q : Nat, q < H.size → ¬ A1 q → H1[q]? = H[q]?) → va_S A0 H0 H1 locs1 → W p l e R s m args below meth c H1 locs1 (cells + mc) (slots + ms) Q (F0 m (pc + 3) ls (rest))) : W p l e R s m args below meth c H locs cells slots Q (F0 m pc ls st0) := by
  intro T hT X
  rcases hr T hT X with ⟨v, st₀, t, T', L, h0, X', hL, e1, e2, ⟨⟨u, hv, hp, hb⟩, hF⟩, st⟩ | ⟨q, st₀, t, T', L, E, ce, h0, X', hL, e1, e2, ⟨u, hp, hb, hF⟩, hce, hcv, hcl, st⟩
  · cases hv
    obtain ⟨k1, k2, k3⟩ := vx_keep h0 e1 hS hA hf hL hF
    obtain ⟨t2, a1, b1⟩ := kk u t T'.heap (locs ++ L) e1.symm (by rw [← e2]; exact X'.warmed.alike) hp hb k1 k2 k3 T' rfl X'
    exact ⟨t2, st t2 a1, b1⟩
  · obtain ⟨k1, k2, k3⟩ := vx_keep h0 e1 hS hAX hf hL hF
    obtain ⟨t2, a1, b1⟩ := kx E ce q u t T'.heap (locs ++ L) e1.symm (by rw [← e2]; exact X'.warmed.alike) hp hb k1 k2 k3 (by rw [e1]; exact hce) hcv hcl T' rfl X'
    exact ⟨t2, st.trans a1, b1⟩
/-- caught by the row x of this method's table; the rows ahead don't take it -/
theorem vx_catch {own name : String} {E : String} {ce : Cell} {q : Addr} (hown : s.vm.findClass own = some m.cls) (pre : List ExceptionTableEntry) (x : ExceptionTableEntry) (suf : List ExceptionTableEntry) (hsplit : c.exceptionTable.toList = pre ++ x :: suf)
    (hpass : ∀ z ∈ pre, covers z pc = false ∨ (z.catchType ≠ 0 ∧ ∃ nm : String, (Cond.classLink own z.catchType nm).before args s = true ∧ va_Nc E nm s)) (hx : covers x pc = true) (h0 : x.catchType ≠ 0)
    (hlink : (Cond.classLink own x.catchType name).before args s = true) (hcast : (Cond.castable E name).before args s = true) (hcell : H[q]? = some ce) (hv : ce.vm = .none) (hcl : s.vm.findClass E = some ce.cls)
    (kk : W p l e R s m args below meth c H locs cells slots Q (F0 m x.handlerPc ls [.ref q])) : vx_W p l e R s m args below meth c H locs cells slots Q (F0 m pc ls rest) q := by
  intro T hT X
  have hpl : e.platform.magicAccessors = ({} : Platform).magicAccessors := by rw [X.admits.platform]
  obtain ⟨c3, c4, hc3, hc4, hasg⟩ := Cond.castable_spec hcast
  cases Option.some.inj (hc3.symm.trans hcl)
  obtain ⟨c5, hc5, hcl5⟩ := Cond.classLink_spec hown hlink e.platform hpl
  cases Option.some.inj (hc4.symm.trans hc5)
  obtain ⟨vm', X', st⟩ := X.thenCaughtThrough q (g := F0 m pc ls rest) rfl (Steps.refl _) (by rw [hT]; exact hcell) (by rw [hv]; rfl) (by obtain ⟨k9, h9, -⟩ := Vm.findClass_spec hcl; exact ⟨k9, h9⟩) pre x suf hsplit
    (fun z hz => by
      rcases hpass z hz with h | ⟨hz0, nm, hl1, hn1⟩
      · exact Or.inl h
      · obtain ⟨c6, hc6, hcl6⟩ := Cond.classLink_spec hown hl1 e.platform hpl
        obtain ⟨a8, b8, h1, h2, h3⟩ := hn1
        cases Option.some.inj (h1.symm.trans hcl)
        cases Option.some.inj (h2.symm.trans hc6)
        exact Or.inr ⟨hz0, _, hcl6, h3⟩) hx (Or.inr ⟨h0, c4, hcl5, hasg⟩)
  obtain ⟨t, a1, b1⟩ := kk (T.setVm vm') hT X'
  exact ⟨t, st.trans a1, b1⟩
end Rows
section Ends
variable {p : Program} {l : Launch} {e : Env} {R : Room} {s : State} {m : MethodId} {args : Array Value} {below : List Frame} {meth : Method} {c : Code} {H : Heap} {locs : List Loc} {cells slots : Nat} {Q : State → Prop}
variable {mc ms : Nat} {free : Addr → Prop} {A0 A1 : Nat → Prop} {H0 : Heap} {a : Array Value} {ls : Array Slot} {st0 rest : List Value}
variable {Qc : Array Value → State → Outcome → State → Prop} {XC : String → State → State → Prop}
/-- what a body that may throw owes at its end -/
def vx_MQ (below : List Frame) (Qc : Array Value → State → Outcome → State → Prop) (XC : String → State → State → Prop) (a : Array Value) (s : State) (mc ms : Nat) (free : Addr → Prop) : State → Prop := fun t =>
  ∃ o, t.status = .running ∧ Ended t below o ∧ vx_Q Qc XC mc ms free a s o t
theorem vx_ret {g : JFrame} {mc ms : Nat} (k : W p l e R s m args below meth c H locs cells slots (MQ below Qc args s mc ms free) g) : W p l e R s m args below meth c H locs cells slots (vx_MQ below Qc XC args s mc ms free) g := by
  intro T hT X
  obtain ⟨t, a1, o, b1, b2, b3, b4⟩ := k T hT X
  exact ⟨t, a1, o, b1, b2, Or.inl ⟨b3, b4⟩⟩
/-- not caught here: it goes on to the caller -/
theorem vx_widen {g : JFrame} {q : Addr} {k n : Nat} (h1 : cells ≤ k) (h2 : slots ≤ n) (kk : vx_W p l e R s m args below meth c H locs k n Q g q) : vx_W p l e R s m args below meth c H locs cells slots Q g q := fun T hT X => kk T hT (stand_widen X h1 h2)
theorem vx_out {pc : Nat} {E : String} {ce : Cell} {q : Addr} {mc ms : Nat} (hout : ∀ x ∈ c.exceptionTable.toList, covers x pc = false) (hlocks : meth.locks = false) (hcell : H[q]? = some ce) (hv : ce.vm = .none) (hcl : s.vm.findClass E = some ce.cls)
    (hx : ∀ t : State, t.heap = H → s.vm.Alike t.vm → XC E s t) (hf : ∀ z ∈ locs, free z.base) (hc : cells ≤ mc) (hs : slots ≤ ms) :
    vx_W p l e R s m args below meth c H locs cells slots (vx_MQ below Qc XC args s mc ms free) (F0 m pc ls rest) q := by
  intro T hT X
  obtain ⟨st1, hrun, hend, hW, hsm⟩ := X.leaveThrown q (g := F0 m pc ls rest) rfl rfl rfl hout hlocks
  have hcell9 : (T.setFrames (.throwing q :: below)).heap[q]? = some ce := by
    show T.heap[q]? = some ce
    rw [hT]; exact hcell
  exact ⟨_, st1, .threw q, hrun, hend, Or.inr ⟨q, rfl, E, ce, locs, hx _ hT hW.alike, hcell9, hv, hcl, hW, hsm.mono hc hs, hf⟩⟩
theorem vx_frame {U : State} {k n : Nat} (h : s.sameButNew ({ U with vm := s.vm } : State) locs k n) : s.heap.size ≤ U.heap.size ∧ ∀ q : Nat, q < s.heap.size → (∀ z ∈ locs, z.base ≠ q) → U.heap[q]? = s.heap[q]? := by
  obtain ⟨-, h2, -, -, -, h6⟩ := h
  refine ⟨h2, fun q hq hz => ?_⟩
  obtain ⟨c9, e1, e2, e3, e4⟩ := h6 q _ (Array.getElem?_eq_getElem hq)
  have hs : c9.slots = (s.heap[q]).slots := Array.ext_getElem? fun i => e4 i fun hm => hz _ hm rfl
  have h9 : c9 = s.heap[q] := by
    rw [hs] at e2
    exact e2
  have e5 : U.heap[q]? = some c9 := e1
  rw [e5, h9, Array.getElem?_eq_getElem hq]
/-- the words of a throw but the four that speak of the heap -/
def vx_no (w : Cond) : Bool := decide (w ≠ .isRef (.static Bundle.tN "UNASSIGNED_STACK" Bundle.steD)) && decide (w ≠ .isRef (.static Bundle.tN "SUPPRESSED_SENTINEL" Bundle.listD)) && decide (w ≠ .laysStatic Bundle.tN "UNASSIGNED_STACK" Bundle.steD) && decide (w ≠ .laysStatic Bundle.tN "SUPPRESSED_SENTINEL" Bundle.listD)
def vx_at0 (own : String) (ic : Nat) (X : String) (names : List String) : List Cond := (Bundle.ownAtoms0 own ic X names).filter vx_no
def vx_atS (own : String) (ic : Nat) (X : String) (names : List String) : List Cond := (Bundle.ownAtoms own ic X names).filter vx_no
/-- a word that the tables alone decide, or a good one -/
def vx_ot (w : Cond) : Bool := w.onTables || goodWord w
theorem vx_ot_at {args a' : Array Value} {s U : State} {w : Cond} (hW : s.WarmedH U.vm) (hvm : s.vm = U.vm) (hg : vx_ot w = true) (h : w.before args s = true) : w.before a' U = true := by
  simp only [vx_ot, Bool.or_eq_true] at hg
  rcases hg with hg | hg
  · exact va_tabs hg hvm h
  · exact word_at hW (good_of_word hg) h
/-- a list's words: the good ones out of the method's own list, the others by premises of their own -/
theorem vx_hat {args : Array Value} {s : State} {L B : List Cond} (h1 : ∀ w ∈ L.filter goodWord, w.before args s = true) (h2 : ∀ w ∈ L.filter (fun w => !goodWord w), w ∈ B) (h3 : ∀ w ∈ B, w.before args s = true) : ∀ w ∈ L, w.before args s = true := by
  intro w hw
  by_cases g : goodWord w = true
  · exact h1 w (List.mem_filter.mpr ⟨hw, g⟩)
  · refine h3 w (h2 w (List.mem_filter.mpr ⟨hw, ?_⟩))
    show (!goodWord w) = true
    cases hgw : goodWord w
    · rfl
    · exact absurd hgw g
theorem vx_c {args : Array Value} {s : State} {w : Cond} {B : List Cond} (h : w.before args s = true) (t : ∀ w ∈ B, w.before args s = true) : ∀ w' ∈ w :: B, w'.before args s = true := fun w' h' => (List.mem_cons.mp h').elim (fun e => by rw [e]; exact h) (t w')
theorem vx_n {args : Array Value} {s : State} : ∀ w ∈ ([] : List Cond), w.before args s = true := fun _ h => nomatch h
theorem vx_own {args : Array Value} {s : State} {L : List Cond} (h1 : ∀ w ∈ L.filter vx_no, w.before args s = true)
    (hU : (Cond.isRef (.static Bundle.tN "UNASSIGNED_STACK" Bundle.steD)).before args s = true) (hN : (Cond.isRef (.static Bundle.tN "SUPPRESSED_SENTINEL" Bundle.listD)).before args s = true)
    (lU : (Cond.laysStatic Bundle.tN "UNASSIGNED_STACK" Bundle.steD).before args s = true) (lN : (Cond.laysStatic Bundle.tN "SUPPRESSED_SENTINEL" Bundle.listD).before args s = true) : ∀ w ∈ L, w.before args s = true := by
  intro w hw
  by_cases e1 : w = .isRef (.static Bundle.tN "UNASSIGNED_STACK" Bundle.steD)
  · rw [e1]; exact hU
  · by_cases e2 : w = .isRef (.static Bundle.tN "SUPPRESSED_SENTINEL" Bundle.listD)
    · rw [e2]; exact hN
    · by_cases e3 : w = .laysStatic Bundle.tN "UNASSIGNED_STACK" Bundle.steD
      · rw [e3]; exact lU
      · by_cases e4 : w = .laysStatic Bundle.tN "SUPPRESSED_SENTINEL" Bundle.listD
        · rw [e4]; exact lN
        · exact h1 w (List.mem_filter.mpr ⟨hw, by unfold vx_no; rw [decide_eq_true e1, decide_eq_true e2, decide_eq_true e3, decide_eq_true e4]; rfl⟩)
/-- where a static field lies, its class's statics cell in H -/
def vx_L (C n d : String) (A : Nat → Prop) (U : State) (H : Heap) : Prop := ∃ (c : ClassId) (k : Class) (i : Nat) (f : Field) (a : Nat) (cell : Cell), U.vm.findClass C = some c ∧ U.fieldFound? C n d = some (c, k, i, f) ∧ f.isStatic = true ∧ k.statics = some a ∧ H[a]? = some cell ∧ cell.vm.isStatics = true ∧ cell.cls = c ∧ f.slot < cell.slots.size ∧ k.staticTypes[f.slot]? = some f.type ∧ ¬ A a
theorem vx_L.moved {C n d : String} {A : Nat → Prop} {u U : State} {H : Heap} (hvm : u.vm.Alike U.vm) (h : vx_L C n d A u H) : vx_L C n d A U H := by
  obtain ⟨c, k, i, f, a, cell, h1, h2, h3, h4, h5, h6, h7, h8, h9, h10⟩ := h
  obtain ⟨k', hi', he⟩ := State.fieldFound?_setVm hvm h2
  exact ⟨c, k', i, f, a, cell, by rw [hvm.findClass]; exact h1, hi', h3, by rw [he]; exact h4, h5, h6, h7, h8, by rw [he]; exact h9, h10⟩
theorem vx_L.kept {C n d : String} {A : Nat → Prop} {U : State} {H H1 : Heap} (h : vx_L C n d A U H) (hq : ∀ a : Nat, a < H.size → ¬ A a → H1[a]? = H[a]?) : vx_L C n d A U H1 := by
  obtain ⟨c, k, i, f, a, cell, h1, h2, h3, h4, h5, h6, h7, h8, h9, h10⟩ := h
  exact ⟨c, k, i, f, a, cell, h1, h2, h3, h4, by rw [hq a (Array.getElem?_eq_some_iff.mp h5).1 h10]; exact h5, h6, h7, h8, h9, h10⟩
theorem vx_L.narrow {C n d : String} {A B : Nat → Prop} {U : State} {H : Heap} (h : vx_L C n d A U H) (hAB : ∀ q, B q → A q) : vx_L C n d B U H := by
  obtain ⟨c, k, i, f, a, cell, h1, h2, h3, h4, h5, h6, h7, h8, h9, h10⟩ := h
  exact ⟨c, k, i, f, a, cell, h1, h2, h3, h4, h5, h6, h7, h8, h9, fun z => h10 (hAB _ z)⟩
theorem vx_L.word {C n d : String} {A : Nat → Prop} {s : State} {args : Array Value} (h : vx_L C n d A s s.heap) : (Cond.laysStatic C n d).before args s = true := by
  obtain ⟨c, k, i, f, a, cell, h1, h2, h3, h4, h5, h6, h7, h8, h9, -⟩ := h
  show (Cond.laysStatic C n d).holds args s none s [] = true
  exact Cond.laysStatic_of h1 h2 h3 h4 h5 h6 h7 h8 h9
/-- .. and what it holds: null or some reference -/
def vx_Zq (C n d : String) (A : Nat → Prop) (U : State) (H : Heap) : Prop := va_Zq C n d A U H ∧ vx_L C n d A U H
theorem vx_Zq.moved {C n d : String} {A : Nat → Prop} {u U : State} {H : Heap} (hvm : u.vm.Alike U.vm) (h : vx_Zq C n d A u H) : vx_Zq C n d A U H := ⟨va_Zq.moved hvm h.1, vx_L.moved hvm h.2⟩
theorem vx_Zq.kept {C n d : String} {A : Nat → Prop} {U : State} {H H1 : Heap} (h : vx_Zq C n d A U H) (hq : ∀ a : Nat, a < H.size → ¬ A a → H1[a]? = H[a]?) : vx_Zq C n d A U H1 := ⟨va_Zq.kept h.1 hq, vx_L.kept h.2 hq⟩
theorem vx_Zq.narrow {C n d : String} {A B : Nat → Prop} {U : State} {H : Heap} (h : vx_Zq C n d A U H) (hAB : ∀ q, B q → A q) : vx_Zq C n d B U H := ⟨va_Zq.narrow h.1 hAB, vx_L.narrow h.2 hAB⟩
theorem vx_Zqof {args : Array Value} {s : State} {C n d : String} {A : Nat → Prop} (hl : (Cond.laysStatic C n d).before args s = true) (hini : (Cond.initialized C).before args s = true) (h : (Cond.isRef (.static C n d)).before args s = true) (hA : ∀ a : Nat, a < s.heap.size → ¬ A a) : vx_Zq C n d A s s.heap := by
  refine ⟨va_Zqof hl hini h hA, ?_⟩
  obtain ⟨c, k, i, f, a, cell, h1, h2, h3, h4, h5, h6, h7, h8, h9⟩ := Cond.laysStatic_spec hl
  exact ⟨c, k, i, f, a, cell, h1, h2, h3, h4, h5, h6, h7, h8, h9, hA a (Array.getElem?_eq_some_iff.mp h5).1⟩
theorem vx_isRef {C n d : String} {v : Value} {A : Nat → Prop} {s : State} {args : Array Value} (h : va_Z C n d v A s s.heap) (hv : v.isRef = true) : (Cond.isRef (.static C n d)).before args s = true := by
  obtain ⟨cf, kf, fi, f, a, cell, h1, h2, h3, h4, h5, h6, h7, -⟩ := h
  have he : (Term.static C n d).eval args s none [] s = some v := by
    simp [Term.eval, State.fieldNamed?, h1, h2, h4, h5, h6, h7]
  simp only [Cond.before, Cond.holds, Cond.value, he]
  cases v <;> simp_all [Value.isRef]
theorem vx_isRefq {C n d : String} {A : Nat → Prop} {s : State} {args : Array Value} (h : va_Zq C n d A s s.heap) : (Cond.isRef (.static C n d)).before args s = true := by
  rcases h with h | ⟨t, h⟩
  · exact vx_isRef h rfl
  · exact vx_isRef h rfl
/-- the same frame, seen from here: as if the method were called anew in this heap -/
theorem vx_rebase {T : State} (X : Stand p l e R s m args below meth c T locs cells slots) {R' : Room} (hf : R'.frames ≤ R.frames) (hl : R'.locals ≤ R.locals) (hc : cells + R'.cells ≤ R.cells) (hs : slots + R'.slots ≤ R.slots) :
    Stand p l e R' ((T.setVm s.vm).setFrames (.invoking m args :: below)) m args below meth c T [] 0 0 := by
  have htop : (T.setVm s.vm).topJava?.isSome := X.here.top
  have hF : ((T.setVm s.vm).setFrames (.invoking m args :: below)).frames = .invoking m args :: below := State.frames_setFrames _ (State.cur_lt_of_top htop)
  obtain ⟨g₀, hg0⟩ := Option.isSome_iff_exists.mp htop
  obtain ⟨r, hr⟩ := State.topJava?_eq_some.mp hg0
  have hl9 : e.platform.stackLimits (T.setVm s.vm).me = e.platform.stackLimits s.me := X.limits
  have hb9 : (T.setVm s.vm).me.stackBytes = s.me.stackBytes := X.bytes
  refine ⟨X.admits, X.cas, X.clock, hF, ?_, X.hears, X.method, X.code, X.here, X.tail, X.warmed, ?_, ?_, ?_⟩
  · have h := X.room
    have hU : ((T.setVm s.vm).setFrames (.invoking m args :: below)).localsInUse = s.localsInUse := by
      rw [State.localsInUse_invoking hF (meth := meth) (c := c) X.method X.code, State.localsInUse_invoking X.frames X.method X.code]
    simp only [State.hasRoom, Bool.and_eq_true, decide_eq_true_eq] at h ⊢
    obtain ⟨⟨⟨⟨h1, h2, h3, h4, h5, h6⟩, h7⟩, h8⟩, h9⟩ := h
    rw [X.frames, List.length_cons] at h2 h3
    have q1 := X.heapSize
    have q2 := X.used
    simp only [hF, hU, List.length_cons, State.stackLimits_setFrames, State.stackBytes_setFrames, hl9, hb9]
    refine ⟨⟨⟨⟨by omega, by omega, by omega, by omega, by omega, h6⟩, ?_⟩, ?_⟩, X.book⟩
    · show T.heap.size + R'.cells ≤ e.platform.maxCells
      omega
    · show T.slotsUsed + R'.slots ≤ e.platform.maxSlots
      omega
  · rw [State.stackLimits_setFrames]; rfl
  · rw [State.stackBytes_setFrames]; rfl
  · refine ⟨?_, Nat.le_refl _, Nat.le_refl _, ?_, ?_, fun a c9 h9 => ⟨c9, h9, rfl, rfl, fun _ _ => rfl⟩⟩
    · obtain ⟨t, ht, -⟩ := State.frames_cons hr
      show T.setVm s.vm = { ((T.setVm s.vm).setFrames (.invoking m args :: below)).setFrames (T.setVm s.vm).frames with heap := T.heap, slotsUsed := T.slotsUsed }
      rw [State.setFrames_setFrames, State.setFrames_self ht]
      rfl
    · show T.slotsUsed = T.slotsUsed + ((T.heap.toList.drop T.heap.size).map (·.slots.size)).sum
      rw [List.drop_eq_nil_of_le (Nat.le_of_eq Array.length_toList)]
      rfl
    · show ((T.heap.toList.drop T.heap.size).map (·.slots.size)).sum ≤ 0
      rw [List.drop_eq_nil_of_le (Nat.le_of_eq Array.length_toList)]
      exact Nat.le_refl _
/-- 'throw new E()': new; dup; invokespecial; athrow -/
theorem vx_throw0 {cc : ByteArray} {pc : Nat} (hexec : p.tables.exec = Jvm.exec) (hb : c.code = cc) (hl : l.stackTraces = false) {own cls : String} {names : List String} {ik ic mc ms : Nat} {A : Nat → Prop}
    (hown : s.vm.findClass own = some m.cls) (hcls : Bundle.fit cls = true) (hnames : ∀ n ∈ names, Bundle.fit n = true)
    (hk : (Cond.classLink own ik cls).before args s = true) (hini : (Cond.initialized cls).before args s = true) (hat : ∀ w ∈ vx_at0 own ic cls names, w.before args s = true)
    (hgood : ∀ w ∈ Cond.classLink own ik cls :: Cond.initialized cls :: vx_at0 own ic cls names, vx_ot w = true)
    (hU : vx_Zq Bundle.tN "UNASSIGNED_STACK" Bundle.steD A s s.heap) (hN : vx_Zq Bundle.tN "SUPPRESSED_SENTINEL" Bundle.listD A s s.heap) (hS : va_S A s.heap H locs) (hsize : ls.size = c.maxLocals)
    (d0 : decode cc pc = .ok (.new ik, 3)) (d3 : decode cc (pc + 3) = .ok (.dup, 1)) (d4 : decode cc (pc + 4) = .ok (.invokespecial ic, 3)) (d7 : decode cc (pc + 7) = .ok (.athrow, 1))
    (hout : ∀ x ∈ c.exceptionTable.toList, covers x (pc + 7) = false)
    (hRframes : names.length + 3 < R.frames) (hRlocals : (rest.map fun v => v.category).sum + (13 * (names.length + 1) + 42) ≤ R.locals) (hRcells : cells + 1 ≤ R.cells) (hRslots : slots + 6 ≤ R.slots) (hlocks : meth.locks = false)
    (hx : ∀ t : State, s.vm.Alike t.vm → H.size ≤ t.heap.size → (∀ q : Nat, q < H.size → t.heap[q]? = H[q]?) → XC cls s t)
    (hf : ∀ z ∈ locs, free z.base) (hc : cells + 1 ≤ mc) (hs : slots + 6 ≤ ms) :
    W p l e R s m args below meth c H locs cells slots (vx_MQ below Qc XC args s mc ms free) (F0 m pc ls rest) := by
  intro T hT X
  have htr : e.platform.stackTraces = false := (show e.platform.stackTraces = l.stackTraces by rw [X.admits.platform]).trans hl
  have Y := vx_rebase X (R' := { frames := R.frames, locals := R.locals, cells := 1, slots := 6 }) (Nat.le_refl _) (Nat.le_refl _) hRcells hRslots
  obtain ⟨s', hA⟩ : ∃ z, z = (T.setVm s.vm).setFrames (.invoking m args :: below) := ⟨_, rfl⟩
  rw [← hA] at Y
  have hvm : s'.vm = s.vm := by rw [hA]; rfl
  have hhp : s'.heap = H := by rw [hA]; exact hT
  have hW0 : s.WarmedH s'.vm := by rw [hvm]; exact State.WarmedH.refl s
  have hat' : ∀ w ∈ vx_at0 own ic cls names, w.before args s' = true := fun w hw => vx_ot_at hW0 hvm.symm (hgood w (List.mem_cons_of_mem _ (List.mem_cons_of_mem _ hw))) (hat w hw)
  have hk' : (Cond.classLink own ik cls).before args s' = true := vx_ot_at hW0 hvm.symm (hgood _ List.mem_cons_self) hk
  have hini' : (Cond.initialized cls).before args s' = true := vx_ot_at hW0 hvm.symm (hgood _ (List.mem_cons_of_mem _ List.mem_cons_self)) hini
  have hU' : vx_Zq Bundle.tN "UNASSIGNED_STACK" Bundle.steD A s' s'.heap := by rw [hhp]; exact vx_Zq.moved hW0.alike (hU.kept hS.2.1)
  have hN' : vx_Zq Bundle.tN "SUPPRESSED_SENTINEL" Bundle.listD A s' s'.heap := by rw [hhp]; exact vx_Zq.moved hW0.alike (hN.kept hS.2.1)
  have h : ∀ w ∈ Bundle.ownAtoms0 own ic cls names, w.before args s' = true := vx_own hat' (vx_isRefq hU'.1) (vx_isRefq hN'.1) hU'.2.word hN'.2.word
  have hown' : s'.vm.findClass own = some m.cls := by rw [hvm]; exact hown
  have hins : (Cond.instantiable cls 6).before args s' = true := h _ (by simp [Bundle.ownAtoms0])
  obtain ⟨vm₁, cX, kX, hfX, hkX, -, -, X₁, st1⟩ := Y.newCold hexec (own := own) (C := cls) (index := ik) (n := 6) hown' hk' hins hini'
    (g := F0 m pc ls rest) rfl (by rw [hb]; exact d0) (Nat.le_refl _) (Nat.le_refl _)
  generalize hT1 : (T.setVm vm₁).pushCell { cls := cX, slots := kX.instanceTypes.map defaultValue, vm := .none } = T1 at X₁ st1
  have hcat : (Value.ref T.heap.size).category = 1 := rfl
  have hcellA : T1.heap[T.heap.size]? = some (freshCell cX kX) := by rw [← hT1]; exact State.heap_pushCell_size _ _
  have d3' : decode c.code (pc + 3) = .ok (.dup, 1) := by rw [hb]; exact d3
  obtain ⟨U, hsteps, hrun, hend, hW, hsame, ce, hce, hO⟩ := X₁.ctorThrow0 hexec htr (own := own) (cls := cls) (names := names) (ic := ic) hown' hcls hnames h (fun x hx => nomatch hx) hfX hkX hcellA (by rw [hhp, hT]; exact Nat.le_refl _)
    (g := { method := m, pc := pc + 4, locals := ls, stack := .ref T.heap.size :: .ref T.heap.size :: rest, locked := none }) rfl hsize rfl rfl (rest := rest) rfl
    (by rw [hb]; exact d4) (by rw [hb]; exact d7) hout hRframes (by simp only [List.map_cons, List.sum_cons, hcat]; omega) hlocks
  obtain ⟨f1, f2⟩ := vx_frame hsame
  rw [hhp] at f1 f2
  have hWs : s.WarmedH U.vm := State.WarmedH.trans hW0 hW
  have hcl : s.vm.findClass cls = some ce.cls := by
    have h9 := hO.cls
    rw [hvm] at h9
    exact h9
  have hall : s.sameButNew ({ U with vm := s.vm } : State) locs mc ms := by
    subst hA
    obtain ⟨e1, e2⟩ := hsame
    rw [State.setFrames_setFrames] at e1
    have h2 : (T.setVm s.vm).sameButNew ({ U with vm := s.vm } : State) [] (0 + 1) (0 + 6) := ⟨e1, e2⟩
    have h3 := X.same.trans h2
    rw [List.append_nil] at h3
    exact h3.mono hc hs
  refine ⟨U, ?_, .threw T.heap.size, hrun, hend, Or.inr ⟨T.heap.size, rfl, cls, ce, locs, hx U hWs.alike f1 (fun q hq => f2 q hq (fun z hz => nomatch hz)), hce, hO.vm, hcl, hWs, hall, hf⟩⟩
  refine st1 _ ?_
  show Steps p.tables e below (T1.setTop { method := m, pc := pc + 3, locals := ls, stack := .ref T.heap.size :: rest, locked := none }) _
  jvm_step X₁.here [X₁.here.top, hexec, d3', Value.category]
  exact hsteps
/-- 'throw new E("text")': new; dup; ldc; invokespecial; athrow -/
theorem vx_throwS {cc : ByteArray} {pc : Nat} (hexec : p.tables.exec = Jvm.exec) (hb : c.code = cc) (hl : l.stackTraces = false) {own cls text : String} {names : List String} {ik is ic mc ms sa : Nat} {A : Nat → Prop}
    (hown : s.vm.findClass own = some m.cls) (hcls : Bundle.fit cls = true) (hnames : ∀ n ∈ names, Bundle.fit n = true)
    (hk : (Cond.classLink own ik cls).before args s = true) (hini : (Cond.initialized cls).before args s = true) (hstr : vk_R own is text sa s) (hat : ∀ w ∈ vx_atS own ic cls names, w.before args s = true)
    (hgood : ∀ w ∈ Cond.classLink own ik cls :: Cond.initialized cls :: vx_atS own ic cls names, vx_ot w = true)
    (hU : vx_Zq Bundle.tN "UNASSIGNED_STACK" Bundle.steD A s s.heap) (hN : vx_Zq Bundle.tN "SUPPRESSED_SENTINEL" Bundle.listD A s s.heap) (hS : va_S A s.heap H locs) (hsize : ls.size = c.maxLocals)
    (d0 : decode cc pc = .ok (.new ik, 3)) (d3 : decode cc (pc + 3) = .ok (.dup, 1)) (d4 : decode cc (pc + 4) = .ok (.ldc is, 2)) (d6 : decode cc (pc + 6) = .ok (.invokespecial ic, 3)) (d9 : decode cc (pc + 9) = .ok (.athrow, 1))
    (hout : ∀ x ∈ c.exceptionTable.toList, covers x (pc + 9) = false)
    (hRframes : names.length + 3 < R.frames) (hRlocals : (rest.map fun v => v.category).sum + (13 * (names.length + 1) + 43) ≤ R.locals) (hRcells : cells + 1 ≤ R.cells) (hRslots : slots + 6 ≤ R.slots) (hlocks : meth.locks = false)
    (hx : ∀ t : State, s.vm.Alike t.vm → H.size ≤ t.heap.size → (∀ q : Nat, q < H.size → t.heap[q]? = H[q]?) → XC cls s t)
    (hf : ∀ z ∈ locs, free z.base) (hc : cells + 1 ≤ mc) (hs : slots + 6 ≤ ms) :
    W p l e R s m args below meth c H locs cells slots (vx_MQ below Qc XC args s mc ms free) (F0 m pc ls rest) := by
  intro T hT X
  have htr : e.platform.stackTraces = false := (show e.platform.stackTraces = l.stackTraces by rw [X.admits.platform]).trans hl
  have Y := vx_rebase X (R' := { frames := R.frames, locals := R.locals, cells := 1, slots := 6 }) (Nat.le_refl _) (Nat.le_refl _) hRcells hRslots
  obtain ⟨s', hA⟩ : ∃ z, z = (T.setVm s.vm).setFrames (.invoking m args :: below) := ⟨_, rfl⟩
  rw [← hA] at Y
  have hvm : s'.vm = s.vm := by rw [hA]; rfl
  have hhp : s'.heap = H := by rw [hA]; exact hT
  have hW0 : s.WarmedH s'.vm := by rw [hvm]; exact State.WarmedH.refl s
  have hat' : ∀ w ∈ vx_atS own ic cls names, w.before args s' = true := fun w hw => vx_ot_at hW0 hvm.symm (hgood w (List.mem_cons_of_mem _ (List.mem_cons_of_mem _ hw))) (hat w hw)
  have hk' : (Cond.classLink own ik cls).before args s' = true := vx_ot_at hW0 hvm.symm (hgood _ List.mem_cons_self) hk
  have hini' : (Cond.initialized cls).before args s' = true := vx_ot_at hW0 hvm.symm (hgood _ (List.mem_cons_of_mem _ List.mem_cons_self)) hini
  have hU' : vx_Zq Bundle.tN "UNASSIGNED_STACK" Bundle.steD A s' s'.heap := by rw [hhp]; exact vx_Zq.moved hW0.alike (hU.kept hS.2.1)
  have hN' : vx_Zq Bundle.tN "SUPPRESSED_SENTINEL" Bundle.listD A s' s'.heap := by rw [hhp]; exact vx_Zq.moved hW0.alike (hN.kept hS.2.1)
  have h : ∀ w ∈ Bundle.ownAtoms own ic cls names, w.before args s' = true := vx_own hat' (vx_isRefq hU'.1) (vx_isRefq hN'.1) hU'.2.word hN'.2.word
  have hown' : s'.vm.findClass own = some m.cls := by rw [hvm]; exact hown
  have hins : (Cond.instantiable cls 6).before args s' = true := h _ (by simp [Bundle.ownAtoms])
  obtain ⟨vm₁, cX, kX, hfX, hkX, -, -, X₁, st1⟩ := Y.newCold hexec (own := own) (C := cls) (index := ik) (n := 6) hown' hk' hins hini'
    (g := F0 m pc ls rest) rfl (by rw [hb]; exact d0) (Nat.le_refl _) (Nat.le_refl _)
  generalize hT1 : (T.setVm vm₁).pushCell { cls := cX, slots := kX.instanceTypes.map defaultValue, vm := .none } = T1 at X₁ st1
  have hcat : (Value.ref T.heap.size).category = 1 := rfl
  have hcellA : T1.heap[T.heap.size]? = some (freshCell cX kX) := by rw [← hT1]; exact State.heap_pushCell_size _ _
  have d3' : decode c.code (pc + 3) = .ok (.dup, 1) := by rw [hb]; exact d3
  have d4' : decode c.code (pc + 4) = .ok (.ldc is, 2) := by rw [hb]; exact d4
  have hstr' : vk_R own is text sa s' := vk_R.warm hW0 hstr
  obtain ⟨U, hsteps, hrun, hend, hW, hsame, ce, hce, hO⟩ := X₁.ctorThrowS hexec htr (own := own) (cls := cls) (names := names) (ic := ic) hown' hcls hnames h (fun x hx => nomatch hx) hfX hkX hcellA (by rw [hhp, hT]; exact Nat.le_refl _) (msg := .ref sa) rfl
    (g := { method := m, pc := pc + 6, locals := ls, stack := .ref sa :: .ref T.heap.size :: .ref T.heap.size :: rest, locked := none }) rfl hsize rfl rfl (rest := rest) rfl
    (by rw [hb]; exact d6) (by rw [hb]; exact d9) hout hRframes (by simp only [List.map_cons, List.sum_cons, hcat]; omega) hlocks
  obtain ⟨f1, f2⟩ := vx_frame hsame
  rw [hhp] at f1 f2
  have hWs : s.WarmedH U.vm := State.WarmedH.trans hW0 hW
  have hcl : s.vm.findClass cls = some ce.cls := by
    have h9 := hO.cls
    rw [hvm] at h9
    exact h9
  have hall : s.sameButNew ({ U with vm := s.vm } : State) locs mc ms := by
    subst hA
    obtain ⟨e1, e2⟩ := hsame
    rw [State.setFrames_setFrames] at e1
    have h2 : (T.setVm s.vm).sameButNew ({ U with vm := s.vm } : State) [] (0 + 1) (0 + 6) := ⟨e1, e2⟩
    have h3 := X.same.trans h2
    rw [List.append_nil] at h3
    exact h3.mono hc hs
  refine ⟨U, ?_, .threw T.heap.size, hrun, hend, Or.inr ⟨T.heap.size, rfl, cls, ce, locs, hx U hWs.alike f1 (fun q hq => f2 q hq (fun z hz => nomatch hz)), hce, hO.vm, hcl, hWs, hall, hf⟩⟩
  refine st1 _ ?_
  show Steps p.tables e below (T1.setTop { method := m, pc := pc + 3, locals := ls, stack := .ref T.heap.size :: rest, locked := none }) _
  jvm_step X₁.here [X₁.here.top, hexec, d3', Value.category]
  exact X₁.ldcString hexec (own := own) (text := text) (index := is) (a := sa) hown' hstr'.1 hstr'.2
    (g := { method := m, pc := pc + 4, locals := ls, stack := .ref T.heap.size :: .ref T.heap.size :: rest, locked := none }) rfl d4' _ hsteps
/-- 'throw new E("text")', the text by a wide index -/
theorem vx_throwSW {cc : ByteArray} {pc : Nat} (hexec : p.tables.exec = Jvm.exec) (hb : c.code = cc) (hl : l.stackTraces = false) {own cls text : String} {names : List String} {ik is ic mc ms sa : Nat} {A : Nat → Prop}
    (hown : s.vm.findClass own = some m.cls) (hcls : Bundle.fit cls = true) (hnames : ∀ n ∈ names, Bundle.fit n = true)
    (hk : (Cond.classLink own ik cls).before args s = true) (hini : (Cond.initialized cls).before args s = true) (hstr : vk_R own is text sa s) (hat : ∀ w ∈ vx_atS own ic cls names, w.before args s = true)
    (hgood : ∀ w ∈ Cond.classLink own ik cls :: Cond.initialized cls :: vx_atS own ic cls names, vx_ot w = true)
    (hU : vx_Zq Bundle.tN "UNASSIGNED_STACK" Bundle.steD A s s.heap) (hN : vx_Zq Bundle.tN "SUPPRESSED_SENTINEL" Bundle.listD A s s.heap) (hS : va_S A s.heap H locs) (hsize : ls.size = c.maxLocals)
    (d0 : decode cc pc = .ok (.new ik, 3)) (d3 : decode cc (pc + 3) = .ok (.dup, 1)) (d4 : decode cc (pc + 4) = .ok (.ldc_w is, 3)) (d7 : decode cc (pc + 7) = .ok (.invokespecial ic, 3)) (d10 : decode cc (pc + 10) = .ok (.athrow, 1))
    (hout : ∀ x ∈ c.exceptionTable.toList, covers x (pc + 10) = false)
    (hRframes : names.length + 3 < R.frames) (hRlocals : (rest.map fun v => v.category).sum + (13 * (names.length + 1) + 43) ≤ R.locals) (hRcells : cells + 1 ≤ R.cells) (hRslots : slots + 6 ≤ R.slots) (hlocks : meth.locks = false)
    (hx : ∀ t : State, s.vm.Alike t.vm → H.size ≤ t.heap.size → (∀ q : Nat, q < H.size → t.heap[q]? = H[q]?) → XC cls s t)
    (hf : ∀ z ∈ locs, free z.base) (hc : cells + 1 ≤ mc) (hs : slots + 6 ≤ ms) :
    W p l e R s m args below meth c H locs cells slots (vx_MQ below Qc XC args s mc ms free) (F0 m pc ls rest) := by
  intro T hT X
  have htr : e.platform.stackTraces = false := (show e.platform.stackTraces = l.stackTraces by rw [X.admits.platform]).trans hl
  have Y := vx_rebase X (R' := { frames := R.frames, locals := R.locals, cells := 1, slots := 6 }) (Nat.le_refl _) (Nat.le_refl _) hRcells hRslots
  obtain ⟨s', hA⟩ : ∃ z, z = (T.setVm s.vm).setFrames (.invoking m args :: below) := ⟨_, rfl⟩
  rw [← hA] at Y
  have hvm : s'.vm = s.vm := by rw [hA]; rfl
  have hhp : s'.heap = H := by rw [hA]; exact hT
  have hW0 : s.WarmedH s'.vm := by rw [hvm]; exact State.WarmedH.refl s
  have hat' : ∀ w ∈ vx_atS own ic cls names, w.before args s' = true := fun w hw => vx_ot_at hW0 hvm.symm (hgood w (List.mem_cons_of_mem _ (List.mem_cons_of_mem _ hw))) (hat w hw)
  have hk' : (Cond.classLink own ik cls).before args s' = true := vx_ot_at hW0 hvm.symm (hgood _ List.mem_cons_self) hk
  have hini' : (Cond.initialized cls).before args s' = true := vx_ot_at hW0 hvm.symm (hgood _ (List.mem_cons_of_mem _ List.mem_cons_self)) hini
  have hU' : vx_Zq Bundle.tN "UNASSIGNED_STACK" Bundle.steD A s' s'.heap := by rw [hhp]; exact vx_Zq.moved hW0.alike (hU.kept hS.2.1)
  have hN' : vx_Zq Bundle.tN "SUPPRESSED_SENTINEL" Bundle.listD A s' s'.heap := by rw [hhp]; exact vx_Zq.moved hW0.alike (hN.kept hS.2.1)
  have h : ∀ w ∈ Bundle.ownAtoms own ic cls names, w.before args s' = true := vx_own hat' (vx_isRefq hU'.1) (vx_isRefq hN'.1) hU'.2.word hN'.2.word
  have hown' : s'.vm.findClass own = some m.cls := by rw [hvm]; exact hown
  have hins : (Cond.instantiable cls 6).before args s' = true := h _ (by simp [Bundle.ownAtoms])
  obtain ⟨vm₁, cX, kX, hfX, hkX, -, -, X₁, st1⟩ := Y.newCold hexec (own := own) (C := cls) (index := ik) (n := 6) hown' hk' hins hini'
    (g := F0 m pc ls rest) rfl (by rw [hb]; exact d0) (Nat.le_refl _) (Nat.le_refl _)
  generalize hT1 : (T.setVm vm₁).pushCell { cls := cX, slots := kX.instanceTypes.map defaultValue, vm := .none } = T1 at X₁ st1
  have hcat : (Value.ref T.heap.size).category = 1 := rfl
  have hcellA : T1.heap[T.heap.size]? = some (freshCell cX kX) := by rw [← hT1]; exact State.heap_pushCell_size _ _
  have d3' : decode c.code (pc + 3) = .ok (.dup, 1) := by rw [hb]; exact d3
  have d4' : decode c.code (pc + 4) = .ok (.ldc_w is, 3) := by rw [hb]; exact d4
  have hstr' : vk_R own is text sa s' := vk_R.warm hW0 hstr
  obtain ⟨U, hsteps, hrun, hend, hW, hsame, ce, hce, hO⟩ := X₁.ctorThrowS hexec htr (own := own) (cls := cls) (names := names) (ic := ic) hown' hcls hnames h (fun x hx => nomatch hx) hfX hkX hcellA (by rw [hhp, hT]; exact Nat.le_refl _) (msg := .ref sa) rfl
    (g := { method := m, pc := pc + 7, locals := ls, stack := .ref sa :: .ref T.heap.size :: .ref T.heap.size :: rest, locked := none }) rfl hsize rfl rfl (rest := rest) rfl
    (by rw [hb]; exact d7) (by rw [hb]; exact d10) hout hRframes (by simp only [List.map_cons, List.sum_cons, hcat]; omega) hlocks
  obtain ⟨f1, f2⟩ := vx_frame hsame
  rw [hhp] at f1 f2
  have hWs : s.WarmedH U.vm := State.WarmedH.trans hW0 hW
  have hcl : s.vm.findClass cls = some ce.cls := by
    have h9 := hO.cls
    rw [hvm] at h9
    exact h9
  have hall : s.sameButNew ({ U with vm := s.vm } : State) locs mc ms := by
    subst hA
    obtain ⟨e1, e2⟩ := hsame
    rw [State.setFrames_setFrames] at e1
    have h2 : (T.setVm s.vm).sameButNew ({ U with vm := s.vm } : State) [] (0 + 1) (0 + 6) := ⟨e1, e2⟩
    have h3 := X.same.trans h2
    rw [List.append_nil] at h3
    exact h3.mono hc hs
  refine ⟨U, ?_, .threw T.heap.size, hrun, hend, Or.inr ⟨T.heap.size, rfl, cls, ce, locs, hx U hWs.alike f1 (fun q hq => f2 q hq (fun z hz => nomatch hz)), hce, hO.vm, hcl, hWs, hall, hf⟩⟩
  refine st1 _ ?_
  show Steps p.tables e below (T1.setTop { method := m, pc := pc + 3, locals := ls, stack := .ref T.heap.size :: rest, locked := none }) _
  jvm_step X₁.here [X₁.here.top, hexec, d3', Value.category]
  exact X₁.ldcStringW hexec (own := own) (text := text) (index := is) (a := sa) hown' hstr'.1 hstr'.2
    (g := { method := m, pc := pc + 4, locals := ls, stack := .ref T.heap.size :: .ref T.heap.size :: rest, locked := none }) rfl d4' _ hsteps
end Ends
section Bodies
variable {l : Launch}
theorem vx_ofW {y : MethodName} {ws ws' : List Cond} {rm : Room} {Pc : Array Value → State → Prop} {Qc : Array Value → State → Outcome → State → Prop} {XC : String → State → State → Prop} {mc ms : Nat} {free : Addr → Prop} {cc : ByteArray} {maxL : Nat} {ret : Option FieldType}
    (hy : plainName y.cls = true) (hw : ws = Cond.code y cc maxL ret :: ws')
    (body : ∀ p e s m args below meth c s₁, BodyLoose p l y (headSpec ws rm) cc maxL ret e s m args below meth c s₁ → c.maxLocals = maxL → (∀ x ∈ c.exceptionTable.toList, False) → Pc args s →
      W p l e (headSpec ws rm).room s m args below meth c s.heap [] 0 0 (vx_MQ below Qc XC args s mc ms free) (entryFrame m args maxL)) : vx_Met l y ws rm Pc Qc XC mc ms free := by
  refine MetFree.of_bodyS (code := cc) (maxLocals := maxL) (ret := ret) hy ?_ ?_
  · intro args s m h hn
    obtain ⟨meth, c, h1, h2, h3, h4, h5, h6, -, -⟩ := Cond.code_spec hn (atoms_spec (ws := ws) h _ (by rw [hw]; exact List.mem_cons_self))
    exact ⟨meth, c, h1, h2, h3, h4, h5, h6⟩
  · intro p e s m args below meth c s₁ B hml hP _
    have hh0 : s₁.heap = s.heap := by rw [B.state]; rfl
    have ht : ∀ x ∈ c.exceptionTable.toList, False := by
      obtain ⟨meth9, c9, h1, h2, -, -, -, -, h7, -⟩ := Cond.code_spec B.named (atoms_spec (ws := ws) B.pre _ (by rw [hw]; exact List.mem_cons_self))
      cases Option.some.inj (h1.symm.trans B.method)
      cases Option.some.inj (h2.symm.trans (Stand.of_body B).code)
      intro x hx
      rw [Array.isEmpty_iff.mp h7] at hx
      cases hx
    obtain ⟨t, a1, o, b1, b2, b3⟩ := body p e s m args below meth c s₁ B hml ht hP s₁ hh0 (Stand.of_body B)
    exact ⟨t, o, a1, b1, b2, b3⟩
/-- the table of a body with handlers -/
theorem vx_table {p : Program} {x y : MethodName} {S : Spec} {cc bytes : ByteArray} {maxL maxL' : Nat} {ret ret' : Option FieldType} {e : Env} {s s₁ : State} {m : MethodId} {args : Array Value} {below : List Frame} {meth : Method} {c : Code} {hh : List (Nat × Nat × Nat × Nat)}
    (B : BodyLoose p l y S cc maxL ret e s m args below meth c s₁) (h : (Cond.codeWith y bytes maxL' ret' hh).before args s = true) : c.exceptionTable.toList = tableOf hh := by
  obtain ⟨m9, meth9, c9, hn9, h1, h2, -, -, h6, -⟩ := Cond.codeWith_spec h
  cases Option.some.inj (hn9.symm.trans B.named)
  cases Option.some.inj (h1.symm.trans B.method)
  cases Option.some.inj (h2.symm.trans (Stand.of_body B).code)
  rw [← h6, table_eq]
end Bodies
end VXA
/-! ===== END ===== -/
/-! ===== BEGIN a static call of a method with an exception table ===== -/
section VXS
variable {p : Program} {l : Launch} {e : Env} {R : Room} {s : State} {m : MethodId} {args : Array Value} {below : List Frame} {meth : Method} {c : Code} {T : State} {H : Heap} {locs : List Loc} {cells slots : Nat}
abbrev vx_CSW (R : Room) (s : State) (args : Array Value) (own : String) (index : Nat) (y : MethodName) (bytes : ByteArray) (maxL : Nat) (ret : Option FieldType) (hh : List (Nat × Nat × Nat × Nat)) (ws : List Cond) (rm : Room) (mc ms n : Nat) : Prop :=
  (rm.cells = mc ∧ rm.slots = ms ∧ rm.frames + 1 ≤ R.frames ∧ 8 + (maxL + 11) + rm.locals ≤ R.locals ∧ (∀ w ∈ ws, ∀ (a' : Array Value) (U : State), s.WarmedH U.vm → w.before a' U = true) ∧ Cond.codeWith y bytes maxL ret hh ∈ ws) ∧
  (Cond.codeWith y bytes maxL ret hh).before args s = true ∧ (Cond.initialized y.cls).before args s = true ∧ (y.cls ≠ "java/lang/invoke/MethodHandle" ∧ y.cls ≠ "java/lang/invoke/VarHandle") ∧
  (∀ sig, parseMethodDescriptor y.desc = some sig → n = sig.parameters.length) ∧ (Cond.methodLink own index y).before args s = true ∧ (Cond.static y).before args s = true
theorem vx_cwSW {own : String} {index maxL mc ms : Nat} {y : MethodName} {bytes : ByteArray} {ret : Option FieldType} {hh : List (Nat × Nat × Nat × Nat)} {Ts ws ws' : List Cond} {rm : Room} (n : Nat) (ht : ∀ w ∈ Ts, w.before args s = true) (hT : GoodIn Ts (va_wsS own index y ws)) (hw : ws = Cond.codeWith y bytes maxL ret hh :: ws') (hrc : rm.cells = mc) (hrs : rm.slots = ms)
    (hd : y.cls ≠ "java/lang/invoke/MethodHandle" ∧ y.cls ≠ "java/lang/invoke/VarHandle" ∧ (parseMethodDescriptor y.desc).map (fun d => d.parameters.length) = some n) (hR : rm.frames + 1 ≤ R.frames ∧ 8 + (maxL + 11) + rm.locals ≤ R.locals) :
    vx_CSW R s args own index y bytes maxL ret hh ws rm mc ms n := by
  have ok : ∀ w ∈ va_wsS own index y ws, w.before args s = true := fun w h => ht w (hT w h).1
  have hG : GoodIn Ts ws := fun w h => hT w (by unfold va_wsS; exact List.mem_append_right _ h)
  have hc : Cond.codeWith y bytes maxL ret hh ∈ ws := by rw [hw]; exact List.mem_cons_self
  refine ⟨⟨hrc, hrs, hR.1, hR.2, pay_in ht hG, hc⟩, ht _ (hG _ hc).1, ok _ (by simp [va_wsS]), ⟨hd.1, hd.2.1⟩, fun sig h => ?_, ok _ (by simp [va_wsS]), ok _ (by simp [va_wsS])⟩
  have h2 := hd.2.2
  rw [h] at h2
  exact (Option.some.inj h2).symm
theorem vx_callSW (X : Stand p l e R s m args below meth c T locs cells slots) (hexec : p.tables.exec = Jvm.exec) {own : String} {index : Nat} {y : MethodName} {bytes : ByteArray} {maxL : Nat} {ret : Option FieldType} {hh : List (Nat × Nat × Nat × Nat)}
    (hown : s.vm.findClass own = some m.cls) (hlink : (Cond.methodLink own index y).before args s = true) (hstat : (Cond.static y).before args s = true) (hinit : (Cond.initialized y.cls).before args s = true)
    (hcode : (Cond.codeWith y bytes maxL ret hh).before args s = true) (hy : y.cls ≠ "java/lang/invoke/MethodHandle" ∧ y.cls ≠ "java/lang/invoke/VarHandle")
    {W9 : Nat} {Pre : Pt → Array Value → Prop} {Post : Pt → Array Value → Option Value → Pt → Prop} (hK : Back l R p e below s args y 3 W9 Pre Post)
    {g : JFrame} (hg : g.method = m) (hsize : g.locals.size = c.maxLocals) {argsL rest : List Value} (hlen : ∀ sig, parseMethodDescriptor y.desc = some sig → argsL.length = sig.parameters.length)
    (hstack : g.stack = argsL.reverse ++ rest) (hW : 2 * g.monitorRoom + (rest.map fun v => v.category).sum ≤ W9) (hdg : decode c.code g.pc = .ok (.invokestatic index, 3))
    (hpre : ∀ vm₁, s.WarmedH vm₁ → Pre ⟨T.setVm vm₁, locs, cells, slots⟩ argsL.toArray) :
    ∃ (v : Option Value) (vm₁ : Vm) (B : Pt), s.WarmedH vm₁ ∧ Stand p l e R s m args below meth c B.U B.locs B.cells B.slots ∧ Post ⟨T.setVm vm₁, locs, cells, slots⟩ argsL.toArray v B ∧
      ∀ target, Steps p.tables e below (B.U.setTop { g with pc := g.pc + 3, stack := v.toList ++ rest }) target → Steps p.tables e below (T.setTop g) target := by
  obtain ⟨mk, methM, cM, hnamed, hmethM, -, -, -, -, -, -, hsigM⟩ := Cond.codeWith_spec hcode
  have hstatic : methM.isStatic = true := Cond.static_spec hnamed hmethM hstat
  obtain ⟨kP, hkP, -⟩ := className_of_methodNamed hnamed
  have hinitP : kP.init = .initialized := Cond.initialized_spec (findClass_of_methodNamed hnamed) hkP hinit
  obtain ⟨vm₁, X₁, hstep₁⟩ := X.invokestatic hexec hown hlink hnamed hmethM hstatic hkP hinitP hy (g := g) hg (argsL := argsL) (rest := rest) (hlen _ hsigM) hstack hdg
  obtain ⟨v, B, X', hpost, hsteps⟩ := hK m meth c ⟨T.setVm vm₁, locs, cells, slots⟩ { g with stack := rest } (.invokestatic index) mk argsL.toArray X₁ hg hsize hdg hW (X₁.named hnamed) (hpre vm₁ X₁.warmed)
  exact ⟨v, vm₁, B, X₁.warmed, X', hpost, fun target h => hstep₁ _ fun acts => by rw [doInvoke_state]; exact hsteps.trans h⟩
theorem vx_runSW {y : MethodName} {bytes cc : ByteArray} {maxL nL mc ms n index : Nat} {ret : Option FieldType} {hh : List (Nat × Nat × Nat × Nat)} {ws : List Cond} {rm : Room} {Pc : Array Value → State → Prop} {Qc : Array Value → State → Outcome → State → Prop} {free : Addr → Prop} {Ts : List Cond} {own : String} {As rest : List Value} {g : JFrame}
    (S : CallFix p m c cc nL s args Ts own) (hM : Met l y ws rm Pc Qc mc ms free) (cw : vx_CSW R s args own index y bytes maxL ret hh ws rm mc ms n) (hp : PreS s H Pc As)
    (hg : g.method = m) (hn : As.length = n) (hsize : g.locals.size = nL) (hstack : g.stack = As.reverse ++ rest) (hW : 2 * g.monitorRoom + (rest.map fun v => v.category).sum ≤ 8) (hdg : decode cc g.pc = .ok (.invokestatic index, 3)) (hf : cells + mc ≤ R.cells ∧ slots + ms ≤ R.slots) :
    va_Run p l e R s m args below meth c H locs cells slots mc ms g rest (Qc As.toArray) (free) := by
  obtain ⟨⟨hrc, hrs, hfr, hlo, hws, hcw⟩, hcode, hini, hy, hlen, hl, hstt⟩ := cw
  have hK : Back l R p e below s args y 3 8 (PreOf R mc ms Pc) (PostOf Qc mc ms free) := va_backW (hh := hh) (bytes := bytes) (maxL := maxL) (ret := ret) hM hp.1 hrc hrs hfr hlo hws hcw (fun a' U hW => word_at hW (Or.inl (by first | rfl | simp [Cond.onTables, Cond.keeps, Cond.steady])) hini)
  obtain ⟨hx, hb, hml, ho, -⟩ := S
  intro T hT X
  obtain ⟨v, vm₁, ⟨U', l2, c2, s2⟩, hW₁, X', ⟨g', mk, t, L, e1, e2, hq, h1, hL, h2, h3⟩, st⟩ := vx_callSW X hx (hh := hh) (bytes := bytes) (maxL := maxL) (ret := ret) ho hl hstt hini hcode hy hK hg (hsize.trans hml.symm) (argsL := As) (rest := rest) (fun sig h => hn.trans (hlen sig h)) hstack hW (by rw [hb]; exact hdg)
    (fun vm₁ hW₁ => ⟨hf.1, hf.2, hp.2 (T.setVm vm₁) hT hW₁⟩)
  dsimp only [Pt.U, Pt.locs, Pt.cells, Pt.slots] at X' e1 e2 h1 h2 h3 st
  subst h1; subst h2; subst h3
  exact ⟨v, (T.setVm vm₁).calling g' mk As.toArray, t, U', L, hT, X', hL, e1, e2, hq, st⟩
/-- not caught here, past rows that name other classes: it goes on to the caller -/
theorem vx_outP {p : Program} {l : Launch} {e : Env} {R : Room} {s : State} {m : MethodId} {args : Array Value} {below : List Frame} {meth : Method} {c : Code} {H : Heap} {locs : List Loc} {cells slots : Nat} {free : Addr → Prop} {ls : Array Slot} {rest : List Value} {Qc : Array Value → State → Outcome → State → Prop} {XC : String → State → State → Prop}
    {pc : Nat} {own E : String} {ce : Cell} {q : Addr} {mc ms : Nat} (hown : s.vm.findClass own = some m.cls) (hlocks : meth.locks = false)
    (hpass : ∀ z ∈ c.exceptionTable.toList, covers z pc = false ∨ (z.catchType ≠ 0 ∧ ∃ nm : String, (Cond.classLink own z.catchType nm).before args s = true ∧ va_Nc E nm s)) (hcell : H[q]? = some ce) (hv : ce.vm = .none) (hcl : s.vm.findClass E = some ce.cls)
    (hx : ∀ t : State, t.heap = H → s.vm.Alike t.vm → XC E s t) (hf : ∀ z ∈ locs, free z.base) (hc : cells ≤ mc) (hs : slots ≤ ms) :
    vx_W p l e R s m args below meth c H locs cells slots (vx_MQ below Qc XC args s mc ms free) (F0 m pc ls rest) q := by
  intro T hT X
  have hpl : e.platform.magicAccessors = ({} : Platform).magicAccessors := by rw [X.admits.platform]
  obtain ⟨vm', hW', X', st⟩ := X.outThrough hlocks q (g := F0 m pc ls rest) rfl rfl rfl (cell := ce) (by rw [hT]; exact hcell) (by rw [hv]; rfl)
    (by obtain ⟨k9, h9, -⟩ := Vm.findClass_spec hcl; exact ⟨k9, h9⟩) (fun z hz => by
      rcases hpass z hz with h | ⟨hz0, nm, hl1, hn1⟩
      · exact Or.inl h
      · obtain ⟨c6, hc6, hcl6⟩ := Cond.classLink_spec hown hl1 e.platform hpl
        obtain ⟨a8, b8, h1, h2, h3⟩ := hn1
        cases Option.some.inj (h1.symm.trans hcl)
        cases Option.some.inj (h2.symm.trans hc6)
        exact Or.inr ⟨hz0, _, hcl6, h3⟩)
  obtain ⟨g₀, hfr⟩ := X'.frames_eq
  have hcell9 : ((T.setVm vm').setFrames (.throwing q :: below)).heap[q]? = some ce := by
    show T.heap[q]? = some ce
    rw [hT]; exact hcell
  have hend : Ended ((T.setVm vm').setFrames (.throwing q :: below)) below (.threw q) := State.frames_setFrames _ (State.cur_lt_of_frames hfr)
  refine ⟨(T.setVm vm').setFrames (.throwing q :: below), ?_, .threw q, X'.here.running, hend, Or.inr ⟨q, rfl, E, ce, locs, hx _ hT (X'.ends _).1.alike, hcell9, hv, hcl, (X'.ends _).1, (X'.ends _).2.mono hc hs, hf⟩⟩
  rw [X.pushThrowing_eq]
  exact st
/-- a thing of a world lies in the heap -/
theorem vx_lt {D : va_G} {cl : List vw_C} {ws : va_W} {H1 : Heap} (h : va_P D cl ws H1) {k : Nat} {q : Nat × va_E} (hk : ws[k]? = some q) : q.1 < H1.size := (h k q hk).lt
end VXS
/-! ===== END ===== -/
/-! ===== BEGIN methods with a table of their own: called by a name, returning or throwing ===== -/
section VXH
/-! vx_backW, vx_callVX, vx_callSX, vx_callVW, vx_runVW, vx_runVX, vx_runSX, vx_ofWH follow the same proofs as their sisters above (Free/Laws.lean, Shelf42/LK1.lean); vx_outP calls Shelf42/NT130.lean (outThrough). -/
section
variable {l : Launch} {R : Room} {p : Program} {e : Env} {below : List Frame} {s : State} {sargs : Array Value} {y : MethodName} {len W9 : Nat}
theorem vx_backW {ws : List Cond} {rm : Room} {Pc : Array Value → State → Prop} {Qc : Array Value → State → Outcome → State → Prop} {XC : String → State → State → Prop} {mc ms : Nat} {free : Addr → Prop} {bytes : ByteArray} {maxL : Nat} {ret : Option FieldType} {hh : List (Nat × Nat × Nat × Nat)}
    (hM : vx_Met l y ws rm Pc Qc XC mc ms free) (hblind : FrameBlind Pc) (hrc : rm.cells = mc) (hrs : rm.slots = ms)
    (hframes : rm.frames + 1 ≤ R.frames) (hlocals : W9 + (maxL + 11) + rm.locals ≤ R.locals)
    (hws : ∀ w ∈ ws, ∀ a' U, s.WarmedH U.vm → w.before a' U = true) (hcode : Cond.codeWith y bytes maxL ret hh ∈ ws) (hinit : ∀ a' U, s.WarmedH U.vm → (Cond.initialized y.cls).before a' U = true) :
    vx_Back l R p e below s sargs y len W9 (PreOf R mc ms Pc) (PostOf Qc mc ms free) (vx_Post XC mc ms free) := by
  intro m meth c A g ig mk a X hg hsize hdg hW hn hp
  have h1 : (headSpec ws rm).pre.before a A.U = true := atoms_intro fun w hw => hws w hw _ _ X.warmed
  have h2 : (Cond.codeWith y bytes maxL ret hh).before a A.U = true := hws _ hcode _ _ X.warmed
  have h3 : (Cond.initialized y.cls).before a A.U = true := hinit _ _ X.warmed
  have h4 : A.cells + (headSpec ws rm).room.cells ≤ R.cells := by rw [show (headSpec ws rm).room.cells = mc from hrc]; exact hp.1
  have h5 : A.slots + (headSpec ws rm).room.slots ≤ R.slots := by rw [show (headSpec ws rm).room.slots = ms from hrs]; exact hp.2.1
  have hPc : Pc a (A.U.calling g mk a) := hblind _ _ _ _ hp.2.2
  obtain ⟨U, Ls, c0, s0⟩ := A
  dsimp only [Pt.U, Pt.locs, Pt.cells, Pt.slots] at h1 h2 h3 h4 h5 X hn hPc ⊢
  obtain ⟨m9, methY, cY, hn9, hmY, hcY, -, hlY, -⟩ := Cond.codeWith_spec h2
  cases Option.some.inj (hn9.symm.trans hn)
  obtain ⟨kY, hkY, -⟩ := className_of_methodNamed hn
  have hinitY : kY.init = .initialized := Cond.initialized_spec (findClass_of_methodNamed hn) hkY h3
  have h : At U g.method c below := by rw [hg]; exact X.here
  have hlocals9 : W9 + (maxL + 11) + (headSpec ws rm).room.locals ≤ R.locals := hlocals
  have happ : (headSpec ws rm).appliesLoose y e.platform (U.calling g mk a) = true :=
    Spec.appliesLoose_calling (g := g) h hdg hn hkY hinitY
      (X.room_calling (g := g) (R' := (headSpec ws rm).room) hsize hmY hcY hframes (by rw [hlY]; omega) h4 h5) h1
  obtain ⟨mid, hmid⟩ := h.above
  have hfr : (U.setTop g).frames = (.java g :: mid) ++ below := by rw [State.frames_setTop' g h.top, hmid]; rfl
  obtain ⟨o, s₂, hsteps, -, hend, hq⟩ := Steps.callFree hM p X.admits X.cas X.clock (acts := []) hfr happ hPc trivial
  have hq' : vx_Q Qc XC mc ms free a (U.calling g mk a) o s₂ := hq
  rw [State.frames_setTop' g h.top] at hend
  obtain ⟨g₀, hg0⟩ := Option.isSome_iff_exists.mp h.top
  obtain ⟨r, hr⟩ := State.topJava?_eq_some.mp hg0
  have hr' : (({ U with heap := s₂.heap, slotsUsed := s₂.slotsUsed } : State).setVm s₂.vm).frames = .java g₀ :: r := hr
  rcases hq' with ⟨hqc, L, hfe, hL⟩ | ⟨q, rfl, E, ce, L, hx, hce, hcv, hcl, hW₂, hsm, hL⟩
  · obtain ⟨⟨v, rfl⟩, hW₂, e2, q2, q3, q4, q5, q6⟩ := id hfe
    have e3 : s₂ = ({ (U.calling g mk a).setFrames s₂.frames with heap := s₂.heap, slotsUsed := s₂.slotsUsed } : State).setVm s₂.vm := by
      have : s₂ = ({ s₂ with vm := (U.calling g mk a).vm } : State).setVm s₂.vm := rfl
      rw [e2] at this
      exact this
    obtain ⟨c₂, i₂, len₂, hc₂, hd₂, hf₂⟩ := hend
    have hW' : U.WarmedH s₂.vm := hW₂
    have hcc : c₂ = c := by
      have h1 : s₂.code? g.method = U.code? g.method := by
        rw [State.code?_eq, State.code?_eq, hW'.alike.method?]
      exact Option.some.inj (hc₂.symm.trans (h1.trans h.code))
    subst hcc
    have hlen : len₂ = len := by rw [hdg] at hd₂; cases hd₂; rfl
    subst hlen
    have hs₂ : s₂ = (({ U with heap := s₂.heap, slotsUsed := s₂.slotsUsed } : State).setVm s₂.vm).setTop { g with pc := g.pc + len₂, stack := v.toList ++ g.stack } := by
      refine e3.trans ?_
      rw [hf₂, State.calling_eq h.top, State.setFrames_setFrames, State.setTop_of_frames _ hr', hr]
      rfl
    have hsame : U.sameButNew ({ U with heap := s₂.heap, slotsUsed := s₂.slotsUsed } : State) L mc ms := by
      refine ⟨?_, q2, q3, q4, q5, q6⟩
      obtain ⟨t, ht, -⟩ := State.frames_cons hr
      show ({ U with heap := s₂.heap, slotsUsed := s₂.slotsUsed } : State) = { U.setFrames U.frames with heap := s₂.heap, slotsUsed := s₂.slotsUsed }
      rw [State.setFrames_self ht]
    subst hg
    refine Or.inl ⟨v, ⟨(({ U with heap := s₂.heap, slotsUsed := s₂.slotsUsed } : State).setVm s₂.vm), Ls ++ L, c0 + mc, s0 + ms⟩,
      ⟨X.admits, X.cas, X.clock, X.frames, X.room, X.hears, X.method, X.code, (X.here.setHeapUsed s₂.heap s₂.slotsUsed).setVm hW'.alike, X.tail, State.WarmedH.trans X.warmed hW', X.limits, X.bytes, X.same.trans (hsame.setVm s.vm)⟩,
      ⟨g, mk, s₂, L, rfl, rfl, hqc, rfl, hL, rfl, rfl⟩, ?_⟩
    show Steps p.tables e below _ ((({ U with heap := s₂.heap, slotsUsed := s₂.slotsUsed } : State).setVm s₂.vm).setTop { g with pc := g.pc + len₂, stack := v.toList ++ g.stack })
    rw [← hs₂]
    exact hsteps
  · obtain ⟨e2, q2, q3, q4, q5, q6⟩ := id hsm
    have e3 : s₂ = ({ (U.calling g mk a).setFrames s₂.frames with heap := s₂.heap, slotsUsed := s₂.slotsUsed } : State).setVm s₂.vm := by
      have : s₂ = ({ s₂ with vm := (U.calling g mk a).vm } : State).setVm s₂.vm := rfl
      rw [e2] at this
      exact this
    have hf₂ : s₂.frames = .throwing q :: .java g :: U.frames.tail := hend
    have hW' : U.WarmedH s₂.vm := hW₂
    have hs₂ : s₂ = ((({ U with heap := s₂.heap, slotsUsed := s₂.slotsUsed } : State).setVm s₂.vm).setTop g).pushFrame (.throwing q) := by
      refine e3.trans ?_
      rw [hf₂, State.calling_eq h.top, State.setFrames_setFrames, State.pushFrame, State.frames_setTop _ hr', State.setTop_of_frames _ hr', State.setFrames_setFrames, hr]
      rfl
    have hsame : U.sameButNew ({ U with heap := s₂.heap, slotsUsed := s₂.slotsUsed } : State) L mc ms := by
      refine ⟨?_, q2, q3, q4, q5, q6⟩
      obtain ⟨t, ht, -⟩ := State.frames_cons hr
      show ({ U with heap := s₂.heap, slotsUsed := s₂.slotsUsed } : State) = { U.setFrames U.frames with heap := s₂.heap, slotsUsed := s₂.slotsUsed }
      rw [State.setFrames_self ht]
    subst hg
    refine Or.inr ⟨q, ⟨(({ U with heap := s₂.heap, slotsUsed := s₂.slotsUsed } : State).setVm s₂.vm), Ls ++ L, c0 + mc, s0 + ms⟩,
      ⟨X.admits, X.cas, X.clock, X.frames, X.room, X.hears, X.method, X.code, (X.here.setHeapUsed s₂.heap s₂.slotsUsed).setVm hW'.alike, X.tail, State.WarmedH.trans X.warmed hW', X.limits, X.bytes, X.same.trans (hsame.setVm s.vm)⟩,
      ⟨g, mk, s₂, L, E, ce, rfl, rfl, hx, hce, hcv, hcl, rfl, hL, rfl, rfl⟩, ?_⟩
    show Steps p.tables e below _ (((({ U with heap := s₂.heap, slotsUsed := s₂.slotsUsed } : State).setVm s₂.vm).setTop g).pushFrame (.throwing q))
    rw [← hs₂]
    exact hsteps
end
variable {p : Program} {l : Launch} {e : Env} {R : Room} {s : State} {m : MethodId} {args : Array Value} {below : List Frame} {meth : Method} {c : Code} {T : State} {H : Heap} {locs : List Loc} {cells slots : Nat}
theorem vx_callVX (X : Stand p l e R s m args below meth c T locs cells slots) (hexec : p.tables.exec = Jvm.exec) {own C : String} {index : Nat} {y : MethodName} {bytes : ByteArray} {maxL : Nat} {ret : Option FieldType} {hh : List (Nat × Nat × Nat × Nat)}
    (hown : s.vm.findClass own = some m.cls) (hlink : (Cond.methodLink own index y).before args s = true) (hinst : (Cond.instanceMethod y).before args s = true) (hsel : (Cond.selects C y y).before args s = true)
    (hcode : (Cond.codeWith y bytes maxL ret hh).before args s = true) (hy : y.cls ≠ "java/lang/invoke/MethodHandle" ∧ y.cls ≠ "java/lang/invoke/VarHandle")
    {W9 : Nat} {Pre : Pt → Array Value → Prop} {Post : Pt → Array Value → Option Value → Pt → Prop} {PostX : Pt → Array Value → Addr → Pt → Prop} (hK : vx_Back l R p e below s args y 3 W9 Pre Post PostX)
    {b : Addr} {cellB : Cell} (hcell : T.heap[b]? = some cellB) (hobj : cellB.vm.isStatics = false) (hcls : s.vm.findClass C = some cellB.cls)
    {g : JFrame} (hg : g.method = m) (hsize : g.locals.size = c.maxLocals) {argsL rest : List Value} (hlen : ∀ sig, parseMethodDescriptor y.desc = some sig → argsL.length = sig.parameters.length)
    (hstack : g.stack = argsL.reverse ++ .ref b :: rest) (hW : 2 * g.monitorRoom + (rest.map fun v => v.category).sum ≤ W9) (hdg : decode c.code g.pc = .ok (.invokevirtual index, 3))
    (hpre : ∀ vm₁, s.WarmedH vm₁ → Pre ⟨T.setVm vm₁, locs, cells, slots⟩ (Value.ref b :: argsL).toArray) :
    (∃ (v : Option Value) (vm₁ : Vm) (B : Pt), s.WarmedH vm₁ ∧ Stand p l e R s m args below meth c B.U B.locs B.cells B.slots ∧ Post ⟨T.setVm vm₁, locs, cells, slots⟩ (Value.ref b :: argsL).toArray v B ∧
      ∀ target, Steps p.tables e below (B.U.setTop { g with pc := g.pc + 3, stack := v.toList ++ rest }) target → Steps p.tables e below (T.setTop g) target) ∨
    (∃ (q : Addr) (vm₁ : Vm) (B : Pt), s.WarmedH vm₁ ∧ Stand p l e R s m args below meth c B.U B.locs B.cells B.slots ∧ PostX ⟨T.setVm vm₁, locs, cells, slots⟩ (Value.ref b :: argsL).toArray q B ∧
      Steps p.tables e below (T.setTop g) ((B.U.setTop { g with stack := rest }).pushFrame (.throwing q))) := by
  obtain ⟨mk, methM, hnamed, hmethM, hstM, habM⟩ := Cond.instanceMethod_spec hinst
  obtain ⟨m8, methM', cM, hn8, hmethM', -, -, -, -, -, -, hsigM⟩ := Cond.codeWith_spec hcode
  cases Option.some.inj (hn8.symm.trans hnamed)
  cases hmethM.symm.trans hmethM'
  obtain ⟨c2, r2, m2, q1, q2, q3, q4, kP, hkP, hkPi⟩ := Cond.selects_spec hsel
  cases hcls.symm.trans q1
  cases (State.methodFound?_of_named hnamed hy).symm.trans q2
  cases hnamed.symm.trans q3
  have hselP : selectMethod e.platform s.vm cellB.cls mk = .method mk := by rw [Launch.admits_selectMethod X.admits]; exact q4
  obtain ⟨vm₁, X₁, hstep₁⟩ := X.invokevirtual hexec hown hlink hnamed hmethM hstM hkP hkPi hy (a := b) (cell := cellB) hcell
    (fun z h => by rw [h] at hobj; cases hobj) hselP hmethM habM hkP hkPi (g := g) hg (argsL := argsL) (rest := rest) (hlen _ hsigM) hstack hdg
  rcases hK m meth c ⟨T.setVm vm₁, locs, cells, slots⟩ { g with stack := rest } (.invokevirtual index) mk (Value.ref b :: argsL).toArray X₁ hg hsize hdg hW (X₁.named hnamed) (hpre vm₁ X₁.warmed) with ⟨v, B, X', hpost, hsteps⟩ | ⟨q, B, X', hpost, hsteps⟩
  · exact Or.inl ⟨v, vm₁, B, X₁.warmed, X', hpost, fun target h => hstep₁ _ fun acts => by rw [doInvoke_state]; exact hsteps.trans h⟩
  · exact Or.inr ⟨q, vm₁, B, X₁.warmed, X', hpost, hstep₁ _ fun acts => by rw [doInvoke_state]; exact hsteps⟩
theorem vx_callSX (X : Stand p l e R s m args below meth c T locs cells slots) (hexec : p.tables.exec = Jvm.exec) {own : String} {index : Nat} {y : MethodName} {bytes : ByteArray} {maxL : Nat} {ret : Option FieldType} {hh : List (Nat × Nat × Nat × Nat)}
    (hown : s.vm.findClass own = some m.cls) (hlink : (Cond.methodLink own index y).before args s = true) (hstat : (Cond.static y).before args s = true) (hinit : (Cond.initialized y.cls).before args s = true)
    (hcode : (Cond.codeWith y bytes maxL ret hh).before args s = true) (hy : y.cls ≠ "java/lang/invoke/MethodHandle" ∧ y.cls ≠ "java/lang/invoke/VarHandle")
    {W9 : Nat} {Pre : Pt → Array Value → Prop} {Post : Pt → Array Value → Option Value → Pt → Prop} {PostX : Pt → Array Value → Addr → Pt → Prop} (hK : vx_Back l R p e below s args y 3 W9 Pre Post PostX)
    {g : JFrame} (hg : g.method = m) (hsize : g.locals.size = c.maxLocals) {argsL rest : List Value} (hlen : ∀ sig, parseMethodDescriptor y.desc = some sig → argsL.length = sig.parameters.length)
    (hstack : g.stack = argsL.reverse ++ rest) (hW : 2 * g.monitorRoom + (rest.map fun v => v.category).sum ≤ W9) (hdg : decode c.code g.pc = .ok (.invokestatic index, 3))
    (hpre : ∀ vm₁, s.WarmedH vm₁ → Pre ⟨T.setVm vm₁, locs, cells, slots⟩ argsL.toArray) :
    (∃ (v : Option Value) (vm₁ : Vm) (B : Pt), s.WarmedH vm₁ ∧ Stand p l e R s m args below meth c B.U B.locs B.cells B.slots ∧ Post ⟨T.setVm vm₁, locs, cells, slots⟩ argsL.toArray v B ∧
      ∀ target, Steps p.tables e below (B.U.setTop { g with pc := g.pc + 3, stack := v.toList ++ rest }) target → Steps p.tables e below (T.setTop g) target) ∨
    (∃ (q : Addr) (vm₁ : Vm) (B : Pt), s.WarmedH vm₁ ∧ Stand p l e R s m args below meth c B.U B.locs B.cells B.slots ∧ PostX ⟨T.setVm vm₁, locs, cells, slots⟩ argsL.toArray q B ∧
      Steps p.tables e below (T.setTop g) ((B.U.setTop { g with stack := rest }).pushFrame (.throwing q))) := by
  obtain ⟨mk, methM, cM, hnamed, hmethM, -, -, -, -, -, -, hsigM⟩ := Cond.codeWith_spec hcode
  have hstatic : methM.isStatic = true := Cond.static_spec hnamed hmethM hstat
  obtain ⟨kP, hkP, -⟩ := className_of_methodNamed hnamed
  have hinitP : kP.init = .initialized := Cond.initialized_spec (findClass_of_methodNamed hnamed) hkP hinit
  obtain ⟨vm₁, X₁, hstep₁⟩ := X.invokestatic hexec hown hlink hnamed hmethM hstatic hkP hinitP hy (g := g) hg (argsL := argsL) (rest := rest) (hlen _ hsigM) hstack hdg
  rcases hK m meth c ⟨T.setVm vm₁, locs, cells, slots⟩ { g with stack := rest } (.invokestatic index) mk argsL.toArray X₁ hg hsize hdg hW (X₁.named hnamed) (hpre vm₁ X₁.warmed) with ⟨v, B, X', hpost, hsteps⟩ | ⟨q, B, X', hpost, hsteps⟩
  · exact Or.inl ⟨v, vm₁, B, X₁.warmed, X', hpost, fun target h => hstep₁ _ fun acts => by rw [doInvoke_state]; exact hsteps.trans h⟩
  · exact Or.inr ⟨q, vm₁, B, X₁.warmed, X', hpost, hstep₁ _ fun acts => by rw [doInvoke_state]; exact hsteps⟩
theorem vx_callVW (X : Stand p l e R s m args below meth c T locs cells slots) (hexec : p.tables.exec = Jvm.exec) {own C : String} {index : Nat} {y : MethodName} {bytes : ByteArray} {maxL : Nat} {ret : Option FieldType} {hh : List (Nat × Nat × Nat × Nat)}
    (hown : s.vm.findClass own = some m.cls) (hlink : (Cond.methodLink own index y).before args s = true) (hinst : (Cond.instanceMethod y).before args s = true) (hsel : (Cond.selects C y y).before args s = true)
    (hcode : (Cond.codeWith y bytes maxL ret hh).before args s = true) (hy : y.cls ≠ "java/lang/invoke/MethodHandle" ∧ y.cls ≠ "java/lang/invoke/VarHandle")
    {W9 : Nat} {Pre : Pt → Array Value → Prop} {Post : Pt → Array Value → Option Value → Pt → Prop} (hK : Back l R p e below s args y 3 W9 Pre Post)
    {b : Addr} {cellB : Cell} (hcell : T.heap[b]? = some cellB) (hobj : cellB.vm.isStatics = false) (hcls : s.vm.findClass C = some cellB.cls)
    {g : JFrame} (hg : g.method = m) (hsize : g.locals.size = c.maxLocals) {argsL rest : List Value} (hlen : ∀ sig, parseMethodDescriptor y.desc = some sig → argsL.length = sig.parameters.length)
    (hstack : g.stack = argsL.reverse ++ .ref b :: rest) (hW : 2 * g.monitorRoom + (rest.map fun v => v.category).sum ≤ W9) (hdg : decode c.code g.pc = .ok (.invokevirtual index, 3))
    (hpre : ∀ vm₁, s.WarmedH vm₁ → Pre ⟨T.setVm vm₁, locs, cells, slots⟩ (Value.ref b :: argsL).toArray) :
    ∃ (v : Option Value) (vm₁ : Vm) (B : Pt), s.WarmedH vm₁ ∧ Stand p l e R s m args below meth c B.U B.locs B.cells B.slots ∧ Post ⟨T.setVm vm₁, locs, cells, slots⟩ (Value.ref b :: argsL).toArray v B ∧
      ∀ target, Steps p.tables e below (B.U.setTop { g with pc := g.pc + 3, stack := v.toList ++ rest }) target → Steps p.tables e below (T.setTop g) target := by
  obtain ⟨mk, methM, hnamed, hmethM, hstM, habM⟩ := Cond.instanceMethod_spec hinst
  obtain ⟨m8, methM', cM, hn8, hmethM', -, -, -, -, -, -, hsigM⟩ := Cond.codeWith_spec hcode
  cases Option.some.inj (hn8.symm.trans hnamed)
  cases hmethM.symm.trans hmethM'
  obtain ⟨c2, r2, m2, q1, q2, q3, q4, kP, hkP, hkPi⟩ := Cond.selects_spec hsel
  cases hcls.symm.trans q1
  cases (State.methodFound?_of_named hnamed hy).symm.trans q2
  cases hnamed.symm.trans q3
  have hselP : selectMethod e.platform s.vm cellB.cls mk = .method mk := by rw [Launch.admits_selectMethod X.admits]; exact q4
  obtain ⟨vm₁, X₁, hstep₁⟩ := X.invokevirtual hexec hown hlink hnamed hmethM hstM hkP hkPi hy (a := b) (cell := cellB) hcell
    (fun z h => by rw [h] at hobj; cases hobj) hselP hmethM habM hkP hkPi (g := g) hg (argsL := argsL) (rest := rest) (hlen _ hsigM) hstack hdg
  obtain ⟨v, B, X', hpost, hsteps⟩ := hK m meth c ⟨T.setVm vm₁, locs, cells, slots⟩ { g with stack := rest } (.invokevirtual index) mk (Value.ref b :: argsL).toArray X₁ hg hsize hdg hW (X₁.named hnamed) (hpre vm₁ X₁.warmed)
  exact ⟨v, vm₁, B, X₁.warmed, X', hpost, fun target h => hstep₁ _ fun acts => by rw [doInvoke_state]; exact hsteps.trans h⟩
abbrev vx_CVW (R : Room) (s : State) (args : Array Value) (own C : String) (index : Nat) (y : MethodName) (bytes : ByteArray) (maxL : Nat) (ret : Option FieldType) (hh : List (Nat × Nat × Nat × Nat)) (ws : List Cond) (rm : Room) (mc ms n : Nat) : Prop :=
  (rm.cells = mc ∧ rm.slots = ms ∧ rm.frames + 1 ≤ R.frames ∧ 8 + (maxL + 11) + rm.locals ≤ R.locals ∧ (∀ w ∈ ws, ∀ (a' : Array Value) (U : State), s.WarmedH U.vm → w.before a' U = true) ∧ Cond.codeWith y bytes maxL ret hh ∈ ws) ∧
  (Cond.codeWith y bytes maxL ret hh).before args s = true ∧ (Cond.initialized y.cls).before args s = true ∧ (y.cls ≠ "java/lang/invoke/MethodHandle" ∧ y.cls ≠ "java/lang/invoke/VarHandle") ∧
  (∀ sig, parseMethodDescriptor y.desc = some sig → n = sig.parameters.length) ∧ (Cond.methodLink own index y).before args s = true ∧ (Cond.instanceMethod y).before args s = true ∧ (Cond.selects C y y).before args s = true
theorem vx_cwVW {own C : String} {index maxL mc ms : Nat} {y : MethodName} {bytes : ByteArray} {ret : Option FieldType} {hh : List (Nat × Nat × Nat × Nat)} {Ts ws ws' : List Cond} {rm : Room} (n : Nat) (ht : ∀ w ∈ Ts, w.before args s = true) (hT : GoodIn Ts (wsV own index C y ws)) (hw : ws = Cond.codeWith y bytes maxL ret hh :: ws') (hrc : rm.cells = mc) (hrs : rm.slots = ms)
    (hd : y.cls = C ∧ y.cls ≠ "java/lang/invoke/MethodHandle" ∧ y.cls ≠ "java/lang/invoke/VarHandle" ∧ (parseMethodDescriptor y.desc).map (fun d => d.parameters.length) = some n) (hR : rm.frames + 1 ≤ R.frames ∧ 8 + (maxL + 11) + rm.locals ≤ R.locals) :
    vx_CVW R s args own C index y bytes maxL ret hh ws rm mc ms n := by
  obtain ⟨hC, hd⟩ := hd
  subst hC
  have ok : ∀ w ∈ wsV own index y.cls y ws, w.before args s = true := fun w h => ht w (hT w h).1
  have hG : GoodIn Ts ws := fun w h => hT w (by unfold wsV; exact List.mem_append_right _ h)
  have hc : Cond.codeWith y bytes maxL ret hh ∈ ws := by rw [hw]; exact List.mem_cons_self
  refine ⟨⟨hrc, hrs, hR.1, hR.2, pay_in ht hG, hc⟩, ht _ (hG _ hc).1, ok _ (by simp [wsV]), ⟨hd.1, hd.2.1⟩, fun sig h => ?_, ok _ (by simp [wsV]), ok _ (by simp [wsV]), ok _ (by simp [wsV])⟩
  have h2 := hd.2.2
  rw [h] at h2
  exact (Option.some.inj h2).symm
theorem vx_runVW {y : MethodName} {bytes cc : ByteArray} {maxL nL mc ms n index : Nat} {ret : Option FieldType} {hh : List (Nat × Nat × Nat × Nat)} {ws : List Cond} {rm : Room} {Pc : Array Value → State → Prop} {Qc : Array Value → State → Outcome → State → Prop} {free : Addr → Prop} {Ts : List Cond} {own C : String} {b : Addr} {As rest : List Value} {g : JFrame}
    (S : CallFix p m c cc nL s args Ts own) (hM : Met l y ws rm Pc Qc mc ms free) (cw : vx_CVW R s args own C index y bytes maxL ret hh ws rm mc ms n) (hp : PreV s H C b Pc As)
    (hg : g.method = m) (hn : As.length = n) (hsize : g.locals.size = nL) (hstack : g.stack = As.reverse ++ .ref b :: rest) (hW : 2 * g.monitorRoom + (rest.map fun v => v.category).sum ≤ 8) (hdg : decode cc g.pc = .ok (.invokevirtual index, 3)) (hf : cells + mc ≤ R.cells ∧ slots + ms ≤ R.slots) :
    va_Run p l e R s m args below meth c H locs cells slots mc ms g rest (Qc (Value.ref b :: As).toArray) free := by
  obtain ⟨⟨hrc, hrs, hfr, hlo, hws, hcw⟩, hcode, hini, hy, hlen, hl, hin, hse⟩ := cw
  have hK : Back l R p e below s args y 3 8 (PreOf R mc ms Pc) (PostOf Qc mc ms free) := va_backW (hh := hh) (bytes := bytes) (maxL := maxL) (ret := ret) hM hp.1 hrc hrs hfr hlo hws hcw (fun a' U hW => word_at hW (Or.inl (by first | rfl | simp [Cond.onTables, Cond.keeps, Cond.steady])) hini)
  obtain ⟨hx, hb, hml, ho, -⟩ := S
  obtain ⟨-, ⟨cellB, hcB, hoB, hclB⟩, hPc⟩ := hp
  intro T hT X
  obtain ⟨v, vm₁, ⟨U', l2, c2, s2⟩, hW₁, X', ⟨g', mk, t, L, e1, e2, hq, h1, hL, h2, h3⟩, st⟩ := vx_callVW X hx (C := C) (hh := hh) (bytes := bytes) (maxL := maxL) (ret := ret) ho hl hin hse hcode hy hK (by rw [hT]; exact hcB) hoB hclB hg (hsize.trans hml.symm) (argsL := As) (rest := rest) (fun sig h => hn.trans (hlen sig h)) hstack hW (by rw [hb]; exact hdg)
    (fun vm₁ hW₁ => ⟨hf.1, hf.2, hPc (T.setVm vm₁) hT hW₁⟩)
  dsimp only [Pt.U, Pt.locs, Pt.cells, Pt.slots] at X' e1 e2 h1 h2 h3 st
  subst h1; subst h2; subst h3
  exact ⟨v, (T.setVm vm₁).calling g' mk (Value.ref b :: As).toArray, t, U', L, hT, X', hL, e1, e2, hq, st⟩
section
variable {y : MethodName} {bytes cc : ByteArray} {maxL nL mc ms n index : Nat} {ret : Option FieldType} {ws : List Cond} {rm : Room} {Pc : Array Value → State → Prop} {Qc : Array Value → State → Outcome → State → Prop} {XC : String → State → State → Prop} {free : Addr → Prop} {Ts : List Cond} {own C : String} {b : Addr} {As rest : List Value} {g : JFrame}
theorem vx_runVX {hh : List (Nat × Nat × Nat × Nat)} (S : CallFix p m c cc nL s args Ts own) (hM : vx_Met l y ws rm Pc Qc XC mc ms free) (cw : vx_CVW R s args own C index y bytes maxL ret hh ws rm mc ms n) (hp : PreV s H C b Pc As)
    (hg : g.method = m) (hn : As.length = n) (hsize : g.locals.size = nL) (hstack : g.stack = As.reverse ++ .ref b :: rest) (hW : 2 * g.monitorRoom + (rest.map fun v => v.category).sum ≤ 8) (hdg : decode cc g.pc = .ok (.invokevirtual index, 3)) (hf : cells + mc ≤ R.cells ∧ slots + ms ≤ R.slots) :
    vx_Run p l e R s m args below meth c H locs cells slots mc ms g rest (Qc (Value.ref b :: As).toArray) XC free := by
  obtain ⟨⟨hrc, hrs, hfr, hlo, hws, hcw⟩, hcode, hini, hy, hlen, hl, hin, hse⟩ := cw
  have hK : vx_Back l R p e below s args y 3 8 (PreOf R mc ms Pc) (PostOf Qc mc ms free) (vx_Post XC mc ms free) := vx_backW (hh := hh) (bytes := bytes) (maxL := maxL) (ret := ret) hM hp.1 hrc hrs hfr hlo hws hcw (fun a' U hW => word_at hW (Or.inl (by first | rfl | simp [Cond.onTables, Cond.keeps, Cond.steady])) hini)
  obtain ⟨hx, hb, hml, ho, -⟩ := S
  obtain ⟨-, ⟨cellB, hcB, hoB, hclB⟩, hPc⟩ := hp
  intro T hT X
  rcases vx_callVX X hx (C := C) (hh := hh) (bytes := bytes) (maxL := maxL) (ret := ret) ho hl hin hse hcode hy hK (by rw [hT]; exact hcB) hoB hclB hg (hsize.trans hml.symm) (argsL := As) (rest := rest) (fun sig h => hn.trans (hlen sig h)) hstack hW (by rw [hb]; exact hdg)
    (fun vm₁ hW₁ => ⟨hf.1, hf.2, hPc (T.setVm vm₁) hT hW₁⟩) with ⟨v, vm₁, ⟨U', l2, c2, s2⟩, hW₁, X', ⟨g', mk, t, L, e1, e2, hq, h1, hL, h2, h3⟩, st⟩ | ⟨q, vm₁, ⟨U', l2, c2, s2⟩, hW₁, X', ⟨g', mk, t, L, E, ce, e1, e2, hq, hce, hcv, hcl, h1, hL, h2, h3⟩, st⟩
  · dsimp only [Pt.U, Pt.locs, Pt.cells, Pt.slots] at X' e1 e2 h1 h2 h3 st
    subst h1; subst h2; subst h3
    exact Or.inl ⟨v, (T.setVm vm₁).calling g' mk (Value.ref b :: As).toArray, t, U', L, hT, X', hL, e1, e2, hq, st⟩
  · dsimp only [Pt.U, Pt.locs, Pt.cells, Pt.slots] at X' e1 e2 h1 h2 h3 st hcl
    subst h1; subst h2; subst h3
    exact Or.inr ⟨q, (T.setVm vm₁).calling g' mk (Value.ref b :: As).toArray, t, U', L, E, ce, hT, X', hL, e1, e2, hq, hce, hcv, vx_cls hW₁ hcl, st⟩
theorem vx_runSX {hh : List (Nat × Nat × Nat × Nat)} (S : CallFix p m c cc nL s args Ts own) (hM : vx_Met l y ws rm Pc Qc XC mc ms free) (cw : vx_CSW R s args own index y bytes maxL ret hh ws rm mc ms n) (hp : PreS s H Pc As)
    (hg : g.method = m) (hn : As.length = n) (hsize : g.locals.size = nL) (hstack : g.stack = As.reverse ++ rest) (hW : 2 * g.monitorRoom + (rest.map fun v => v.category).sum ≤ 8) (hdg : decode cc g.pc = .ok (.invokestatic index, 3)) (hf : cells + mc ≤ R.cells ∧ slots + ms ≤ R.slots) :
    vx_Run p l e R s m args below meth c H locs cells slots mc ms g rest (Qc As.toArray) XC free := by
  obtain ⟨⟨hrc, hrs, hfr, hlo, hws, hcw⟩, hcode, hini, hy, hlen, hl, hstt⟩ := cw
  have hK : vx_Back l R p e below s args y 3 8 (PreOf R mc ms Pc) (PostOf Qc mc ms free) (vx_Post XC mc ms free) := vx_backW (hh := hh) (bytes := bytes) (maxL := maxL) (ret := ret) hM hp.1 hrc hrs hfr hlo hws hcw (fun a' U hW => word_at hW (Or.inl (by first | rfl | simp [Cond.onTables, Cond.keeps, Cond.steady])) hini)
  obtain ⟨hx, hb, hml, ho, -⟩ := S
  intro T hT X
  rcases vx_callSX X hx (hh := hh) (bytes := bytes) (maxL := maxL) (ret := ret) ho hl hstt hini hcode hy hK hg (hsize.trans hml.symm) (argsL := As) (rest := rest) (fun sig h => hn.trans (hlen sig h)) hstack hW (by rw [hb]; exact hdg)
    (fun vm₁ hW₁ => ⟨hf.1, hf.2, hp.2 (T.setVm vm₁) hT hW₁⟩) with ⟨v, vm₁, ⟨U', l2, c2, s2⟩, hW₁, X', ⟨g', mk, t, L, e1, e2, hq, h1, hL, h2, h3⟩, st⟩ | ⟨q, vm₁, ⟨U', l2, c2, s2⟩, hW₁, X', ⟨g', mk, t, L, E, ce, e1, e2, hq, hce, hcv, hcl, h1, hL, h2, h3⟩, st⟩
  · dsimp only [Pt.U, Pt.locs, Pt.cells, Pt.slots] at X' e1 e2 h1 h2 h3 st
    subst h1; subst h2; subst h3
    exact Or.inl ⟨v, (T.setVm vm₁).calling g' mk As.toArray, t, U', L, hT, X', hL, e1, e2, hq, st⟩
  · dsimp only [Pt.U, Pt.locs, Pt.cells, Pt.slots] at X' e1 e2 h1 h2 h3 st hcl
    subst h1; subst h2; subst h3
    exact Or.inr ⟨q, (T.setVm vm₁).calling g' mk As.toArray, t, U', L, E, ce, hT, X', hL, e1, e2, hq, hce, hcv, vx_cls hW₁ hcl, st⟩
end
end VXH
theorem vx_ofWH {l : Launch} {y : MethodName} {ws ws' : List Cond} {rm : Room} {Pc : Array Value → State → Prop} {Qc : Array Value → State → Outcome → State → Prop} {XC : String → State → State → Prop} {mc ms : Nat} {free : Addr → Prop} {cc : ByteArray} {maxL : Nat} {ret : Option FieldType} {hh : List (Nat × Nat × Nat × Nat)}
    (hy : plainName y.cls = true) (hw : ws = Cond.codeWith y cc maxL ret hh :: ws')
    (body : ∀ p e s m args below meth c s₁, BodyLoose p l y (headSpec ws rm) cc maxL ret e s m args below meth c s₁ → c.maxLocals = maxL → Pc args s →
      W p l e (headSpec ws rm).room s m args below meth c s.heap [] 0 0 (vx_MQ below Qc XC args s mc ms free) (entryFrame m args maxL)) : vx_Met l y ws rm Pc Qc XC mc ms free := by
  refine MetFree.of_bodyS (code := cc) (maxLocals := maxL) (ret := ret) hy ?_ ?_
  · intro args s m h hn
    obtain ⟨m9, meth, c, hn9, h1, h2, h3, h4, -, h5, h6, -⟩ := Cond.codeWith_spec (atoms_spec (ws := ws) h _ (by rw [hw]; exact List.mem_cons_self))
    cases hn.symm.trans hn9
    exact ⟨meth, c, h1, h2, h3, h4, h5, h6⟩
  · intro p e s m args below meth c s₁ B hml hP _
    have hh0 : s₁.heap = s.heap := by rw [B.state]; rfl
    obtain ⟨t, a1, o, b1, b2, b3⟩ := body p e s m args below meth c s₁ B hml hP s₁ hh0 (Stand.of_body B)
    exact ⟨t, o, a1, b1, b2, b3⟩
/-! ===== END ===== -/

section VXIA
variable {p : Program} {l : Launch} {e : Env} {R : Room} {s : State} {m : MethodId} {args : Array Value} {below : List Frame} {meth : Method} {c : Code} {T : State} {locs : List Loc} {cells slots : Nat}
theorem vx_callI (X : Stand p l e R s m args below meth c T locs cells slots) (hexec : p.tables.exec = Jvm.exec) {own : String} {index : Nat} {y : MethodName} {bytes : ByteArray} {maxL : Nat}
    (hown : s.vm.findClass own = some m.cls) (hy1 : y.name = "<init>") (hlink : (Cond.methodLink own index y).before args s = true) (hinst : (Cond.instanceMethod y).before args s = true)
    (hcode : (Cond.code y bytes maxL none).before args s = true) (hy : y.cls ≠ "java/lang/invoke/MethodHandle" ∧ y.cls ≠ "java/lang/invoke/VarHandle")
    {W9 : Nat} {Pre : Pt → Array Value → Prop} {Post : Pt → Array Value → Option Value → Pt → Prop} {PostX : Pt → Array Value → Addr → Pt → Prop} (hK : vx_Back l R p e below s args y 3 W9 Pre Post PostX)
    {g : JFrame} (hg : g.method = m) (hsize : g.locals.size = c.maxLocals) {a : Addr} {argsL rest : List Value} (hlen : ∀ sig, parseMethodDescriptor y.desc = some sig → argsL.length = sig.parameters.length)
    (hstack : g.stack = argsL.reverse ++ .ref a :: rest) (hW : 2 * g.monitorRoom + (rest.map fun v => v.category).sum ≤ W9) (hdg : decode c.code g.pc = .ok (.invokespecial index, 3))
    (hpre : ∀ vm₁, s.WarmedH vm₁ → Pre ⟨T.setVm vm₁, locs, cells, slots⟩ (Value.ref a :: argsL).toArray) :
    (∃ (v : Option Value) (vm₁ : Vm) (B : Pt), s.WarmedH vm₁ ∧ Stand p l e R s m args below meth c B.U B.locs B.cells B.slots ∧ Post ⟨T.setVm vm₁, locs, cells, slots⟩ (Value.ref a :: argsL).toArray v B ∧
      ∀ target, Steps p.tables e below (B.U.setTop { g with pc := g.pc + 3, stack := v.toList ++ rest }) target → Steps p.tables e below (T.setTop g) target) ∨
    (∃ (q : Addr) (vm₁ : Vm) (B : Pt), s.WarmedH vm₁ ∧ Stand p l e R s m args below meth c B.U B.locs B.cells B.slots ∧ PostX ⟨T.setVm vm₁, locs, cells, slots⟩ (Value.ref a :: argsL).toArray q B ∧
      Steps p.tables e below (T.setTop g) ((B.U.setTop { g with stack := rest }).pushFrame (.throwing q))) := by
  subst hg
  have hpl : e.platform.magicAccessors = ({} : Platform).magicAccessors := by rw [X.admits.platform]
  obtain ⟨mk, methM, cM, kP, vm₁, hnamed, hmethM, hcodeM, -, hlocalsM, -, hkP, -, hW₁, hstep₁⟩ := Steps.initColdArgs (e := e) X.here hexec X.warmed hpl hown hy1 hy hlink hinst hcode (f := g) rfl hlen hstack hdg
  have X₁ := X.noted hW₁
  rcases hK g.method meth c ⟨T.setVm vm₁, locs, cells, slots⟩ { g with stack := rest } (.invokespecial index) mk (Value.ref a :: argsL).toArray X₁ rfl hsize hdg hW (X₁.named hnamed) (hpre vm₁ X₁.warmed) with ⟨v, B, X', hpost, hsteps⟩ | ⟨q, B, X', hpost, hsteps⟩
  · exact Or.inl ⟨v, vm₁, B, X₁.warmed, X', hpost, fun target h => hstep₁ _ fun acts => by rw [doInvoke_state]; exact hsteps.trans h⟩
  · exact Or.inr ⟨q, vm₁, B, X₁.warmed, X', hpost, hstep₁ _ fun acts => by rw [doInvoke_state]; exact hsteps⟩
end VXIA
section VXIB
variable {p : Program} {l : Launch} {e : Env} {R : Room} {s : State} {m : MethodId} {args : Array Value} {below : List Frame} {meth : Method} {c : Code} {H : Heap} {locs : List Loc} {cells slots : Nat}
variable {y : MethodName} {bytes cc : ByteArray} {maxL nL mc ms n index : Nat} {ret : Option FieldType} {ws : List Cond} {rm : Room} {Pc : Array Value → State → Prop} {Qc : Array Value → State → Outcome → State → Prop} {XC : String → State → State → Prop} {free : Addr → Prop} {Ts : List Cond} {own C : String} {b : Addr} {As rest : List Value} {g : JFrame}
theorem vx_runI (S : CallFix p m c cc nL s args Ts own) (hM : vx_Met l y ws rm Pc Qc XC mc ms free) (cw : CallB R s args own index y bytes maxL none ws rm mc ms n ∧ y.name = "<init>" ∧ (Cond.instanceMethod y).before args s = true) (hp : PreS s H Pc (.ref b :: As))
    (hg : g.method = m) (hn : As.length = n) (hsize : g.locals.size = nL) (hstack : g.stack = As.reverse ++ .ref b :: rest) (hW : 2 * g.monitorRoom + (rest.map fun v => v.category).sum ≤ 8) (hdg : decode cc g.pc = .ok (.invokespecial index, 3)) (hf : cells + mc ≤ R.cells ∧ slots + ms ≤ R.slots) :
    vx_Run p l e R s m args below meth c H locs cells slots mc ms g rest (Qc (Value.ref b :: As).toArray) XC free := by
  have hK : vx_Back l R p e below s args y 3 8 (PreOf R mc ms Pc) (PostOf Qc mc ms free) (vx_Post XC mc ms free) := vx_callBack cw.1 hM hp.1
  obtain ⟨⟨-, -, -, -, -, -, hcode, -, hy, hlen, hl⟩, hy1, hin⟩ := cw
  obtain ⟨hx, hb, hml, ho, -⟩ := S
  have hPc := hp.2
  intro T hT X
  rcases vx_callI X hx (bytes := bytes) (maxL := maxL) ho hy1 hl hin hcode hy hK hg (hsize.trans hml.symm) (a := b) (argsL := As) (rest := rest) (fun sig h => hn.trans (hlen sig h)) hstack hW (by rw [hb]; exact hdg)
    (fun vm₁ hW₁ => ⟨hf.1, hf.2, hPc (T.setVm vm₁) hT hW₁⟩) with ⟨v, vm₁, ⟨U', l2, c2, s2⟩, hW₁, X', ⟨g', mk, t, L, e1, e2, hq, h1, hL, h2, h3⟩, st⟩ | ⟨q, vm₁, ⟨U', l2, c2, s2⟩, hW₁, X', ⟨g', mk, t, L, E, ce, e1, e2, hq, hce, hcv, hcl, h1, hL, h2, h3⟩, st⟩
  · dsimp only [Pt.U, Pt.locs, Pt.cells, Pt.slots] at X' e1 e2 h1 h2 h3 st
    subst h1; subst h2; subst h3
    exact Or.inl ⟨v, (T.setVm vm₁).calling g' mk (Value.ref b :: As).toArray, t, U', L, hT, X', hL, e1, e2, hq, st⟩
  · dsimp only [Pt.U, Pt.locs, Pt.cells, Pt.slots] at X' e1 e2 h1 h2 h3 st hcl
    subst h1; subst h2; subst h3
    exact Or.inr ⟨q, (T.setVm vm₁).calling g' mk (Value.ref b :: As).toArray, t, U', L, E, ce, hT, X', hL, e1, e2, hq, hce, hcv, vx_cls hW₁ hcl, st⟩
end VXIB
/-! ===== END ===== -/
/-! ===== BEGIN a private constructor of a nest mate that throws ===== -/
section VXIC
variable {p : Program} {l : Launch} {e : Env} {R : Room} {s : State} {m : MethodId} {args : Array Value} {below : List Frame} {meth : Method} {c : Code} {T : State} {locs : List Loc} {cells slots : Nat}
theorem vx_callIN (X : Stand p l e R s m args below meth c T locs cells slots) (hexec : p.tables.exec = Jvm.exec) {own : String} {index : Nat} {host : String} {y : MethodName} {bytes : ByteArray} {maxL : Nat}
    (hown : s.vm.findClass own = some m.cls) (hy1 : y.name = "<init>") (hlink : (Cond.methodLinkNest own index y host).before args s = true) (hinst : (Cond.instanceMethod y).before args s = true)
    (hcode : (Cond.code y bytes maxL none).before args s = true) (hy : y.cls ≠ "java/lang/invoke/MethodHandle" ∧ y.cls ≠ "java/lang/invoke/VarHandle")
    {W9 : Nat} {Pre : Pt → Array Value → Prop} {Post : Pt → Array Value → Option Value → Pt → Prop} {PostX : Pt → Array Value → Addr → Pt → Prop} (hK : vx_Back l R p e below s args y 3 W9 Pre Post PostX)
    {g : JFrame} (hg : g.method = m) (hsize : g.locals.size = c.maxLocals) {a : Addr} {argsL rest : List Value} (hlen : ∀ sig, parseMethodDescriptor y.desc = some sig → argsL.length = sig.parameters.length)
    (hstack : g.stack = argsL.reverse ++ .ref a :: rest) (hW : 2 * g.monitorRoom + (rest.map fun v => v.category).sum ≤ W9) (hdg : decode c.code g.pc = .ok (.invokespecial index, 3))
    (hpre : ∀ vm₁, s.WarmedH vm₁ → Pre ⟨T.setVm vm₁, locs, cells, slots⟩ (Value.ref a :: argsL).toArray) :
    (∃ (v : Option Value) (vm₁ : Vm) (B : Pt), s.WarmedH vm₁ ∧ Stand p l e R s m args below meth c B.U B.locs B.cells B.slots ∧ Post ⟨T.setVm vm₁, locs, cells, slots⟩ (Value.ref a :: argsL).toArray v B ∧
      ∀ target, Steps p.tables e below (B.U.setTop { g with pc := g.pc + 3, stack := v.toList ++ rest }) target → Steps p.tables e below (T.setTop g) target) ∨
    (∃ (q : Addr) (vm₁ : Vm) (B : Pt), s.WarmedH vm₁ ∧ Stand p l e R s m args below meth c B.U B.locs B.cells B.slots ∧ PostX ⟨T.setVm vm₁, locs, cells, slots⟩ (Value.ref a :: argsL).toArray q B ∧
      Steps p.tables e below (T.setTop g) ((B.U.setTop { g with stack := rest }).pushFrame (.throwing q))) := by
  subst hg
  have hpl : e.platform.magicAccessors = ({} : Platform).magicAccessors := by rw [X.admits.platform]
  obtain ⟨mk, methM, cM, kP, vm₁, hnamed, hmethM, hcodeM, -, hlocalsM, -, hkP, -, hW₁, hstep₁⟩ := Steps.initColdArgsNest (e := e) X.here hexec X.warmed hpl hown hy1 hy hlink hinst hcode (f := g) rfl hlen hstack hdg
  have X₁ := X.noted hW₁
  rcases hK g.method meth c ⟨T.setVm vm₁, locs, cells, slots⟩ { g with stack := rest } (.invokespecial index) mk (Value.ref a :: argsL).toArray X₁ rfl hsize hdg hW (X₁.named hnamed) (hpre vm₁ X₁.warmed) with ⟨v, B, X', hpost, hsteps⟩ | ⟨q, B, X', hpost, hsteps⟩
  · exact Or.inl ⟨v, vm₁, B, X₁.warmed, X', hpost, fun target h => hstep₁ _ fun acts => by rw [doInvoke_state]; exact hsteps.trans h⟩
  · exact Or.inr ⟨q, vm₁, B, X₁.warmed, X', hpost, hstep₁ _ fun acts => by rw [doInvoke_state]; exact hsteps⟩
end VXIC
section VXID
variable {p : Program} {l : Launch} {e : Env} {R : Room} {s : State} {m : MethodId} {args : Array Value} {below : List Frame} {meth : Method} {c : Code} {H : Heap} {locs : List Loc} {cells slots : Nat}
theorem vx_runIN {y : MethodName} {bytes cc : ByteArray} {maxL nL mc ms n index : Nat} {ws : List Cond} {rm : Room} {Pc : Array Value → State → Prop} {Qc : Array Value → State → Outcome → State → Prop} {XC : String → State → State → Prop} {free : Addr → Prop} {Ts : List Cond} {own host : String} {b : Addr} {As rest : List Value} {g : JFrame}
    (S : CallFix p m c cc nL s args Ts own) (hM : vx_Met l y ws rm Pc Qc XC mc ms free) (cw : va_CN R s args own index y host bytes maxL none ws rm mc ms n ∧ y.name = "<init>" ∧ (Cond.instanceMethod y).before args s = true) (hp : PreS s H Pc (.ref b :: As))
    (hg : g.method = m) (hn : As.length = n) (hsize : g.locals.size = nL) (hstack : g.stack = As.reverse ++ .ref b :: rest) (hW : 2 * g.monitorRoom + (rest.map fun v => v.category).sum ≤ 8) (hdg : decode cc g.pc = .ok (.invokespecial index, 3)) (hf : cells + mc ≤ R.cells ∧ slots + ms ≤ R.slots) :
    vx_Run p l e R s m args below meth c H locs cells slots mc ms g rest (Qc (Value.ref b :: As).toArray) XC free := by
  obtain ⟨⟨⟨hrc, hrs, hfr, hlo, hws, hcw⟩, hcode, hini, hy, hlen, hl⟩, hx1, hx2⟩ := cw
  have hK : vx_Back l R p e below s args y 3 8 (PreOf R mc ms Pc) (PostOf Qc mc ms free) (vx_Post XC mc ms free) := vx_back (bytes := bytes) (maxL := maxL) (ret := none) hM hp.1 hrc hrs hfr hlo hws hcw (fun a' U hW => word_at hW (Or.inl (by first | rfl | simp [Cond.onTables, Cond.keeps, Cond.steady])) hini)
  obtain ⟨hx, hb, hml, ho, -⟩ := S
  have hPc := hp.2
  intro T hT X
  rcases vx_callIN X hx (bytes := bytes) (maxL := maxL) ho hx1 hl hx2 hcode hy hK hg (hsize.trans hml.symm) (a := b) (argsL := As) (rest := rest) (fun sig h => hn.trans (hlen sig h)) hstack hW (by rw [hb]; exact hdg)
    (fun vm₁ hW₁ => ⟨hf.1, hf.2, hPc (T.setVm vm₁) hT hW₁⟩) with ⟨v, vm₁, ⟨U', l2, c2, s2⟩, hW₁, X', ⟨g', mk, t, L, e1, e2, hq, h1, hL, h2, h3⟩, st⟩ | ⟨q, vm₁, ⟨U', l2, c2, s2⟩, hW₁, X', ⟨g', mk, t, L, E, ce, e1, e2, hq, hce, hcv, hcl, h1, hL, h2, h3⟩, st⟩
  · dsimp only [Pt.U, Pt.locs, Pt.cells, Pt.slots] at X' e1 e2 h1 h2 h3 st
    subst h1; subst h2; subst h3
    exact Or.inl ⟨v, (T.setVm vm₁).calling g' mk (Value.ref b :: As).toArray, t, U', L, hT, X', hL, e1, e2, hq, st⟩
  · dsimp only [Pt.U, Pt.locs, Pt.cells, Pt.slots] at X' e1 e2 h1 h2 h3 st hcl
    subst h1; subst h2; subst h3
    exact Or.inr ⟨q, (T.setVm vm₁).calling g' mk (Value.ref b :: As).toArray, t, U', L, E, ce, hT, X', hL, e1, e2, hq, hce, hcv, vx_cls hW₁ hcl, st⟩
end VXID
end
section
def RX0 : String := "PuddleStairs$FlightPairs"
def TX0 : u_T := fun k => match k with
  | 0 => ("PuddleStairs$FlightPairs", "higherAhead", "[[I", true)
  | _ => ("PuddleStairs$FlightPairs", "flightCount", "I", false)
def tyX0 : Nat → FieldType := fun k => match k with
  | 0 => .array (.array .int)
  | _ => .int
abbrev wsX00 : List Cond := u_ws RX0 TX0 2
theorem nmX0 : ∀ a, a < 2 → ∀ b, b < 2 → a ≠ b → (TX0 a).2.1 ≠ (TX0 b).2.1 := by decide +kernel
theorem tyX0_ok : ∀ k, k < 2 → parseFieldDescriptor (TX0 k).2.2.1 = some (tyX0 k) := by decide +kernel
abbrev cX0_init : ByteArray := prog_2_method_1_code
def yX0_init : MethodName := ⟨RX0, "<init>", "()V"⟩
abbrev cX0_countIn : ByteArray := prog_2_method_2_code
def yX0_countIn : MethodName := ⟨RX0, "countIn", "(LPuddleStairs$Water;)V"⟩
abbrev cX0_countOf : ByteArray := prog_2_method_3_code
def yX0_countOf : MethodName := ⟨RX0, "countOf", "(LPuddleStairs$Water;II)I"⟩
abbrev cX0_outWithSwap : ByteArray := prog_2_method_4_code
def yX0_outWithSwap : MethodName := ⟨RX0, "outWithSwap", "(II)I"⟩
abbrev cX0_swapped : ByteArray := prog_2_method_5_code
def yX0_swapped : MethodName := ⟨RX0, "swapped", "(III)I"⟩
abbrev cX0_bestPartner : ByteArray := prog_2_method_6_code
def yX0_bestPartner : MethodName := ⟨RX0, "bestPartner", "(I)I"⟩
def RX1 : String := "PuddleStairs$Rows"
def TX1 : u_T := fun k => match k with
  | 0 => ("PuddleStairs$Rows", "rows", "[[I", true)
  | 1 => ("PuddleStairs$Rows", "oldest", "I", false)
  | _ => ("PuddleStairs$Rows", "count", "I", false)
def tyX1 : Nat → FieldType := fun k => match k with
  | 0 => .array (.array .int)
  | 1 => .int
  | _ => .int
abbrev wsX10 : List Cond := u_ws RX1 TX1 3
theorem nmX1 : ∀ a, a < 3 → ∀ b, b < 3 → a ≠ b → (TX1 a).2.1 ≠ (TX1 b).2.1 := by decide +kernel
theorem tyX1_ok : ∀ k, k < 3 → parseFieldDescriptor (TX1 k).2.2.1 = some (tyX1 k) := by decide +kernel
abbrev cX1_init : ByteArray := prog_3_method_1_code
def yX1_init : MethodName := ⟨RX1, "<init>", "(I)V"⟩
abbrev cX1_clearAll : ByteArray := prog_3_method_2_code
def yX1_clearAll : MethodName := ⟨RX1, "clearAll", "()V"⟩
abbrev cX1_row : ByteArray := prog_3_method_3_code
def yX1_row : MethodName := ⟨RX1, "row", "(I)[I"⟩
abbrev cX1_addLatest : ByteArray := prog_3_method_4_code
def yX1_addLatest : MethodName := ⟨RX1, "addLatest", "(LPuddleStairs$Water;)V"⟩
abbrev cX1_dropLatest : ByteArray := prog_3_method_5_code
def yX1_dropLatest : MethodName := ⟨RX1, "dropLatest", "()V"⟩
def RX2 : String := "PuddleStairs$Water"
def TX2 : u_T := fun k => match k with
  | 0 => ("PuddleStairs$Water", "levels", "[I", true)
  | 1 => ("PuddleStairs$Water", "edges", "[I", true)
  | 2 => ("PuddleStairs$Water", "flightCount", "I", false)
  | 3 => ("PuddleStairs$Water", "stepCount", "I", false)
  | _ => ("PuddleStairs$Water", "sunNow", "I", false)
def tyX2 : Nat → FieldType := fun k => match k with
  | 0 => .array .int
  | 1 => .array .int
  | 2 => .int
  | 3 => .int
  | _ => .int
abbrev wsX20 : List Cond := u_ws RX2 TX2 5
theorem nmX2 : ∀ a, a < 5 → ∀ b, b < 5 → a ≠ b → (TX2 a).2.1 ≠ (TX2 b).2.1 := by decide +kernel
theorem tyX2_ok : ∀ k, k < 5 → parseFieldDescriptor (TX2 k).2.2.1 = some (tyX2 k) := by decide +kernel
abbrev cX2_init : ByteArray := prog_4_method_1_code
def yX2_init : MethodName := ⟨RX2, "<init>", "()V"⟩
abbrev cX2_layDry : ByteArray := prog_4_method_2_code
def yX2_layDry : MethodName := ⟨RX2, "layDry", "(II)V"⟩
abbrev cX2_copyFrom : ByteArray := prog_4_method_3_code
def yX2_copyFrom : MethodName := ⟨RX2, "copyFrom", "(LPuddleStairs$Water;)V"⟩
abbrev cX2_puddleCount : ByteArray := prog_4_method_4_code
def yX2_puddleCount : MethodName := ⟨RX2, "puddleCount", "()I"⟩
abbrev cX2_numberOf : ByteArray := prog_4_method_5_code
def yX2_numberOf : MethodName := ⟨RX2, "numberOf", "(II)I"⟩
abbrev cX2_level : ByteArray := prog_4_method_6_code
def yX2_level : MethodName := ⟨RX2, "level", "(II)I"⟩
abbrev cX2_add : ByteArray := prog_4_method_7_code
def yX2_add : MethodName := ⟨RX2, "add", "(III)V"⟩
abbrev cX2_exchange : ByteArray := prog_4_method_8_code
def yX2_exchange : MethodName := ⟨RX2, "exchange", "(II)V"⟩
abbrev cX2_changedFrom : ByteArray := prog_4_method_9_code
def yX2_changedFrom : MethodName := ⟨RX2, "changedFrom", "([I)I"⟩
abbrev cX2_takeFrom : ByteArray := prog_4_method_10_code
def yX2_takeFrom : MethodName := ⟨RX2, "takeFrom", "([I)I"⟩
abbrev cX2_alikeSteps : ByteArray := prog_4_method_11_code
def yX2_alikeSteps : MethodName := ⟨RX2, "alikeSteps", "(II)I"⟩
abbrev cX2_partSum : ByteArray := prog_4_method_12_code
def yX2_partSum : MethodName := ⟨RX2, "partSum", "(IIII)J"⟩
abbrev cX2_wholeSum : ByteArray := prog_4_method_13_code
def yX2_wholeSum : MethodName := ⟨RX2, "wholeSum", "()J"⟩
abbrev cX2_dryInPart : ByteArray := prog_4_method_14_code
def yX2_dryInPart : MethodName := ⟨RX2, "dryInPart", "(IIII)I"⟩
abbrev cX2_upToLevel : ByteArray := prog_4_method_15_code
def yX2_upToLevel : MethodName := ⟨RX2, "upToLevel", "(I)I"⟩
abbrev cX2_allDry : ByteArray := prog_4_method_16_code
def yX2_allDry : MethodName := ⟨RX2, "allDry", "()Z"⟩
abbrev cX2_flowFor : ByteArray := prog_4_method_17_code
def yX2_flowFor : MethodName := ⟨RX2, "flowFor", "(I)I"⟩
abbrev cX2_flowOneHour : ByteArray := prog_4_method_18_code
def yX2_flowOneHour : MethodName := ⟨RX2, "flowOneHour", "()I"⟩
abbrev cX2_dryUp : ByteArray := prog_4_method_19_code
def yX2_dryUp : MethodName := ⟨RX2, "dryUp", "()V"⟩
abbrev cX2_runDown : ByteArray := prog_4_method_20_code
def yX2_runDown : MethodName := ⟨RX2, "runDown", "()I"⟩
def RX3 : String := "PuddleStairs"
def TX3 : u_T := fun k => match k with
  | 0 => ("PuddleStairs", "water", "LPuddleStairs$Water;", true)
  | 1 => ("PuddleStairs", "trial", "LPuddleStairs$Water;", true)
  | 2 => ("PuddleStairs", "deedRows", "LPuddleStairs$Rows;", true)
  | 3 => ("PuddleStairs", "markRows", "LPuddleStairs$Rows;", true)
  | 4 => ("PuddleStairs", "flightPairs", "LPuddleStairs$FlightPairs;", true)
  | 5 => ("PuddleStairs", "hourCount", "I", false)
  | _ => ("PuddleStairs", "goneInAll", "J", false)
def tyX3 : Nat → FieldType := fun k => match k with
  | 0 => .object "PuddleStairs$Water"
  | 1 => .object "PuddleStairs$Water"
  | 2 => .object "PuddleStairs$Rows"
  | 3 => .object "PuddleStairs$Rows"
  | 4 => .object "PuddleStairs$FlightPairs"
  | 5 => .int
  | _ => .long
abbrev wsX30 : List Cond := u_ws RX3 TX3 7
theorem nmX3 : ∀ a, a < 7 → ∀ b, b < 7 → a ≠ b → (TX3 a).2.1 ≠ (TX3 b).2.1 := by decide +kernel
theorem tyX3_ok : ∀ k, k < 7 → parseFieldDescriptor (TX3 k).2.2.1 = some (tyX3 k) := by decide +kernel
abbrev cX3_init : ByteArray := prog_1_method_1_code
def yX3_init : MethodName := ⟨RX3, "<init>", "()V"⟩
abbrev cX3_lay : ByteArray := prog_1_method_2_code
def yX3_lay : MethodName := ⟨RX3, "lay", "(II)I"⟩
abbrev cX3_rain : ByteArray := prog_1_method_3_code
def yX3_rain : MethodName := ⟨RX3, "rain", "(III)I"⟩
abbrev cX3_splash : ByteArray := prog_1_method_4_code
def yX3_splash : MethodName := ⟨RX3, "splash", "(IIIII)I"⟩
abbrev cX3_swap : ByteArray := prog_1_method_5_code
def yX3_swap : MethodName := ⟨RX3, "swap", "(II)I"⟩
abbrev cX3_turn : ByteArray := prog_1_method_6_code
def yX3_turn : MethodName := ⟨RX3, "turn", "(I)I"⟩
abbrev cX3_bail : ByteArray := prog_1_method_7_code
def yX3_bail : MethodName := ⟨RX3, "bail", "(II)I"⟩
abbrev cX3_passHours : ByteArray := prog_1_method_8_code
def yX3_passHours : MethodName := ⟨RX3, "passHours", "(I)I"⟩
abbrev cX3_mark : ByteArray := prog_1_method_9_code
def yX3_mark : MethodName := ⟨RX3, "mark", "()I"⟩
abbrev cX3_back : ByteArray := prog_1_method_10_code
def yX3_back : MethodName := ⟨RX3, "back", "(I)I"⟩
abbrev cX3_undo : ByteArray := prog_1_method_11_code
def yX3_undo : MethodName := ⟨RX3, "undo", "()I"⟩
abbrev cX3_setSun : ByteArray := prog_1_method_12_code
def yX3_setSun : MethodName := ⟨RX3, "setSun", "(I)I"⟩
abbrev cX3_setEdge : ByteArray := prog_1_method_13_code
def yX3_setEdge : MethodName := ⟨RX3, "setEdge", "(II)I"⟩
abbrev cX3_flights : ByteArray := prog_1_method_14_code
def yX3_flights : MethodName := ⟨RX3, "flights", "()I"⟩
abbrev cX3_steps : ByteArray := prog_1_method_15_code
def yX3_steps : MethodName := ⟨RX3, "steps", "()I"⟩
abbrev cX3_hours : ByteArray := prog_1_method_16_code
def yX3_hours : MethodName := ⟨RX3, "hours", "()I"⟩
abbrev cX3_sun : ByteArray := prog_1_method_17_code
def yX3_sun : MethodName := ⟨RX3, "sun", "()I"⟩
abbrev cX3_edgeOf : ByteArray := prog_1_method_18_code
def yX3_edgeOf : MethodName := ⟨RX3, "edgeOf", "(I)I"⟩
abbrev cX3_marks : ByteArray := prog_1_method_19_code
def yX3_marks : MethodName := ⟨RX3, "marks", "()I"⟩
abbrev cX3_deeds : ByteArray := prog_1_method_20_code
def yX3_deeds : MethodName := ⟨RX3, "deeds", "()I"⟩
abbrev cX3_gone : ByteArray := prog_1_method_21_code
def yX3_gone : MethodName := ⟨RX3, "gone", "()J"⟩
abbrev cX3_levelAt : ByteArray := prog_1_method_22_code
def yX3_levelAt : MethodName := ⟨RX3, "levelAt", "(II)I"⟩
abbrev cX3_sumOf : ByteArray := prog_1_method_23_code
def yX3_sumOf : MethodName := ⟨RX3, "sumOf", "(IIII)J"⟩
abbrev cX3_sumTo : ByteArray := prog_1_method_24_code
def yX3_sumTo : MethodName := ⟨RX3, "sumTo", "(II)J"⟩
abbrev cX3_flightSum : ByteArray := prog_1_method_25_code
def yX3_flightSum : MethodName := ⟨RX3, "flightSum", "(I)J"⟩
abbrev cX3_stepSum : ByteArray := prog_1_method_26_code
def yX3_stepSum : MethodName := ⟨RX3, "stepSum", "(I)J"⟩
abbrev cX3_total : ByteArray := prog_1_method_27_code
def yX3_total : MethodName := ⟨RX3, "total", "()J"⟩
abbrev cX3_firstReaching : ByteArray := prog_1_method_28_code
def yX3_firstReaching : MethodName := ⟨RX3, "firstReaching", "(II)I"⟩
abbrev cX3_bestRun : ByteArray := prog_1_method_29_code
def yX3_bestRun : MethodName := ⟨RX3, "bestRun", "(I)J"⟩
abbrev cX3_dryIn : ByteArray := prog_1_method_30_code
def yX3_dryIn : MethodName := ⟨RX3, "dryIn", "(IIII)I"⟩
abbrev cX3_dry : ByteArray := prog_1_method_31_code
def yX3_dry : MethodName := ⟨RX3, "dry", "()I"⟩
abbrev cX3_dryAt : ByteArray := prog_1_method_32_code
def yX3_dryAt : MethodName := ⟨RX3, "dryAt", "(I)I"⟩
abbrev cX3_longestDry : ByteArray := prog_1_method_33_code
def yX3_longestDry : MethodName := ⟨RX3, "longestDry", "(I)I"⟩
abbrev cX3_driestFlight : ByteArray := prog_1_method_34_code
def yX3_driestFlight : MethodName := ⟨RX3, "driestFlight", "()I"⟩
abbrev cX3_lowestIn : ByteArray := prog_1_method_35_code
def yX3_lowestIn : MethodName := ⟨RX3, "lowestIn", "(IIII)I"⟩
abbrev cX3_highestAt : ByteArray := prog_1_method_36_code
def yX3_highestAt : MethodName := ⟨RX3, "highestAt", "(I)I"⟩
abbrev cX3_upTo : ByteArray := prog_1_method_37_code
def yX3_upTo : MethodName := ⟨RX3, "upTo", "(I)I"⟩
abbrev cX3_levelInOrder : ByteArray := prog_1_method_38_code
def yX3_levelInOrder : MethodName := ⟨RX3, "levelInOrder", "(I)I"⟩
abbrev cX3_outOfOrder : ByteArray := prog_1_method_39_code
def yX3_outOfOrder : MethodName := ⟨RX3, "outOfOrder", "()I"⟩
abbrev cX3_alike : ByteArray := prog_1_method_40_code
def yX3_alike : MethodName := ⟨RX3, "alike", "(II)I"⟩
abbrev cX3_changedSince : ByteArray := prog_1_method_41_code
def yX3_changedSince : MethodName := ⟨RX3, "changedSince", "(I)I"⟩
abbrev cX3_totalIn : ByteArray := prog_1_method_42_code
def yX3_totalIn : MethodName := ⟨RX3, "totalIn", "(I)J"⟩
abbrev cX3_goneIn : ByteArray := prog_1_method_43_code
def yX3_goneIn : MethodName := ⟨RX3, "goneIn", "(I)I"⟩
abbrev cX3_hoursUntilDry : ByteArray := prog_1_method_44_code
def yX3_hoursUntilDry : MethodName := ⟨RX3, "hoursUntilDry", "()I"⟩
abbrev cX3_sunWanted : ByteArray := prog_1_method_45_code
def yX3_sunWanted : MethodName := ⟨RX3, "sunWanted", "(I)I"⟩
abbrev cX3_bestEdge : ByteArray := prog_1_method_46_code
def yX3_bestEdge : MethodName := ⟨RX3, "bestEdge", "(II)I"⟩
abbrev cX3_bestSwap : ByteArray := prog_1_method_47_code
def yX3_bestSwap : MethodName := ⟨RX3, "bestSwap", "(I)I"⟩
abbrev cX3_meanLevel : ByteArray := prog_1_method_48_code
def yX3_meanLevel : MethodName := ⟨RX3, "meanLevel", "()D"⟩
abbrev cX3_digest : ByteArray := prog_1_method_49_code
def yX3_digest : MethodName := ⟨RX3, "digest", "()J"⟩
abbrev cX3_digested : ByteArray := prog_1_method_50_code
def yX3_digested : MethodName := ⟨RX3, "digested", "(JJ)J"⟩
abbrev cX3_digestedFlights : ByteArray := prog_1_method_51_code
def yX3_digestedFlights : MethodName := ⟨RX3, "digestedFlights", "(J)J"⟩
abbrev cX3_digestedSteps : ByteArray := prog_1_method_52_code
def yX3_digestedSteps : MethodName := ⟨RX3, "digestedSteps", "(J)J"⟩
abbrev cX3_digestedMarks : ByteArray := prog_1_method_53_code
def yX3_digestedMarks : MethodName := ⟨RX3, "digestedMarks", "(J)J"⟩
abbrev cX3_keepDeed : ByteArray := prog_1_method_54_code
def yX3_keepDeed : MethodName := ⟨RX3, "keepDeed", "()V"⟩
abbrev cX3_checkIndex : ByteArray := prog_1_method_55_code
def yX3_checkIndex : MethodName := ⟨RX3, "checkIndex", "(II)V"⟩
abbrev cX3_checkNumber : ByteArray := prog_1_method_56_code
def yX3_checkNumber : MethodName := ⟨RX3, "checkNumber", "(III)V"⟩
abbrev cX3_checkFlight : ByteArray := prog_1_method_57_code
def yX3_checkFlight : MethodName := ⟨RX3, "checkFlight", "(I)V"⟩
abbrev cX3_checkStep : ByteArray := prog_1_method_58_code
def yX3_checkStep : MethodName := ⟨RX3, "checkStep", "(I)V"⟩
abbrev cX3_checkMark : ByteArray := prog_1_method_59_code
def yX3_checkMark : MethodName := ⟨RX3, "checkMark", "(I)V"⟩
abbrev cX3_checkPuddle : ByteArray := prog_1_method_60_code
def yX3_checkPuddle : MethodName := ⟨RX3, "checkPuddle", "(II)V"⟩
abbrev cX3_checkPart : ByteArray := prog_1_method_61_code
def yX3_checkPart : MethodName := ⟨RX3, "checkPart", "(IIII)V"⟩
def RX4 : String := "PuddleStairsModel"
def TX4 : u_T := fun k => match k with
  | 0 => ("PuddleStairsModel", "thrown", "I", false)
  | 1 => ("PuddleStairsModel", "flights", "I", false)
  | 2 => ("PuddleStairsModel", "steps", "I", false)
  | 3 => ("PuddleStairsModel", "hours", "I", false)
  | 4 => ("PuddleStairsModel", "sun", "I", false)
  | 5 => ("PuddleStairsModel", "gone", "J", false)
  | 6 => ("PuddleStairsModel", "edge", "[I", true)
  | 7 => ("PuddleStairsModel", "level", "[I", true)
  | 8 => ("PuddleStairsModel", "ahead", "[I", true)
  | 9 => ("PuddleStairsModel", "first", "I", false)
  | 10 => ("PuddleStairsModel", "deeds", "I", false)
  | 11 => ("PuddleStairsModel", "marked", "[I", true)
  | 12 => ("PuddleStairsModel", "marks", "I", false)
  | _ => ("PuddleStairsModel", "work", "[I", true)
def tyX4 : Nat → FieldType := fun k => match k with
  | 0 => .int
  | 1 => .int
  | 2 => .int
  | 3 => .int
  | 4 => .int
  | 5 => .long
  | 6 => .array .int
  | 7 => .array .int
  | 8 => .array .int
  | 9 => .int
  | 10 => .int
  | 11 => .array .int
  | 12 => .int
  | _ => .array .int
abbrev wsX40 : List Cond := u_ws RX4 TX4 14
theorem nmX4 : ∀ a, a < 14 → ∀ b, b < 14 → a ≠ b → (TX4 a).2.1 ≠ (TX4 b).2.1 := by decide +kernel
theorem tyX4_ok : ∀ k, k < 14 → parseFieldDescriptor (TX4 k).2.2.1 = some (tyX4 k) := by decide +kernel
abbrev cX4_init : ByteArray := prog_6_method_1_code
def yX4_init : MethodName := ⟨RX4, "<init>", "()V"⟩
abbrev cX4_thrown : ByteArray := prog_6_method_2_code
def yX4_thrown : MethodName := ⟨RX4, "thrown", "()I"⟩
abbrev cX4_no : ByteArray := prog_6_method_3_code
def yX4_no : MethodName := ⟨RX4, "no", "(I)I"⟩
abbrev cX4_ok : ByteArray := prog_6_method_4_code
def yX4_ok : MethodName := ⟨RX4, "ok", "(I)I"⟩
abbrev cX4_okay : ByteArray := prog_6_method_5_code
def yX4_okay : MethodName := ⟨RX4, "okay", "(J)J"⟩
abbrev cX4_isIn : ByteArray := prog_6_method_6_code
def yX4_isIn : MethodName := ⟨RX4, "isIn", "(III)Z"⟩
abbrev cX4_isFlight : ByteArray := prog_6_method_7_code
def yX4_isFlight : MethodName := ⟨RX4, "isFlight", "(I)Z"⟩
abbrev cX4_isStep : ByteArray := prog_6_method_8_code
def yX4_isStep : MethodName := ⟨RX4, "isStep", "(I)Z"⟩
abbrev cX4_isMark : ByteArray := prog_6_method_9_code
def yX4_isMark : MethodName := ⟨RX4, "isMark", "(I)Z"⟩
abbrev cX4_all : ByteArray := prog_6_method_10_code
def yX4_all : MethodName := ⟨RX4, "all", "()I"⟩
abbrev cX4_part : ByteArray := prog_6_method_11_code
def yX4_part : MethodName := ⟨RX4, "part", "(IIII)I"⟩
abbrev cX4_anew : ByteArray := prog_6_method_12_code
def yX4_anew : MethodName := ⟨RX4, "anew", "()V"⟩
abbrev cX4_keep : ByteArray := prog_6_method_13_code
def yX4_keep : MethodName := ⟨RX4, "keep", "()V"⟩
abbrev cX4_bring : ByteArray := prog_6_method_14_code
def yX4_bring : MethodName := ⟨RX4, "bring", "([II)I"⟩
abbrev cX4_hourOn : ByteArray := prog_6_method_15_code
def yX4_hourOn : MethodName := ⟨RX4, "hourOn", "([II)I"⟩
abbrev cX4_look : ByteArray := prog_6_method_16_code
def yX4_look : MethodName := ⟨RX4, "look", "()V"⟩
abbrev cX4_goneBehind : ByteArray := prog_6_method_17_code
def yX4_goneBehind : MethodName := ⟨RX4, "goneBehind", "(II)I"⟩
abbrev cX4_isDry : ByteArray := prog_6_method_18_code
def yX4_isDry : MethodName := ⟨RX4, "isDry", "([I)Z"⟩
abbrev cX4_lay : ByteArray := prog_6_method_19_code
def yX4_lay : MethodName := ⟨RX4, "lay", "(II)I"⟩
abbrev cX4_rain : ByteArray := prog_6_method_20_code
def yX4_rain : MethodName := ⟨RX4, "rain", "(III)I"⟩
abbrev cX4_splash : ByteArray := prog_6_method_21_code
def yX4_splash : MethodName := ⟨RX4, "splash", "(IIIII)I"⟩
abbrev cX4_change : ByteArray := prog_6_method_22_code
def yX4_change : MethodName := ⟨RX4, "change", "(II)I"⟩
abbrev cX4_swap : ByteArray := prog_6_method_23_code
def yX4_swap : MethodName := ⟨RX4, "swap", "(II)I"⟩
abbrev cX4_turn : ByteArray := prog_6_method_24_code
def yX4_turn : MethodName := ⟨RX4, "turn", "(I)I"⟩
abbrev cX4_bail : ByteArray := prog_6_method_25_code
def yX4_bail : MethodName := ⟨RX4, "bail", "(II)I"⟩
abbrev cX4_passHours : ByteArray := prog_6_method_26_code
def yX4_passHours : MethodName := ⟨RX4, "passHours", "(I)I"⟩
abbrev cX4_mark : ByteArray := prog_6_method_27_code
def yX4_mark : MethodName := ⟨RX4, "mark", "()I"⟩
abbrev cX4_back : ByteArray := prog_6_method_28_code
def yX4_back : MethodName := ⟨RX4, "back", "(I)I"⟩
abbrev cX4_undo : ByteArray := prog_6_method_29_code
def yX4_undo : MethodName := ⟨RX4, "undo", "()I"⟩
abbrev cX4_setSun : ByteArray := prog_6_method_30_code
def yX4_setSun : MethodName := ⟨RX4, "setSun", "(I)I"⟩
abbrev cX4_setEdge : ByteArray := prog_6_method_31_code
def yX4_setEdge : MethodName := ⟨RX4, "setEdge", "(II)I"⟩
abbrev cX4_flights : ByteArray := prog_6_method_32_code
def yX4_flights : MethodName := ⟨RX4, "flights", "()I"⟩
abbrev cX4_steps : ByteArray := prog_6_method_33_code
def yX4_steps : MethodName := ⟨RX4, "steps", "()I"⟩
abbrev cX4_hours : ByteArray := prog_6_method_34_code
def yX4_hours : MethodName := ⟨RX4, "hours", "()I"⟩
abbrev cX4_sun : ByteArray := prog_6_method_35_code
def yX4_sun : MethodName := ⟨RX4, "sun", "()I"⟩
abbrev cX4_edgeOf : ByteArray := prog_6_method_36_code
def yX4_edgeOf : MethodName := ⟨RX4, "edgeOf", "(I)I"⟩
abbrev cX4_marks : ByteArray := prog_6_method_37_code
def yX4_marks : MethodName := ⟨RX4, "marks", "()I"⟩
abbrev cX4_deeds : ByteArray := prog_6_method_38_code
def yX4_deeds : MethodName := ⟨RX4, "deeds", "()I"⟩
abbrev cX4_gone : ByteArray := prog_6_method_39_code
def yX4_gone : MethodName := ⟨RX4, "gone", "()J"⟩
abbrev cX4_at : ByteArray := prog_6_method_40_code
def yX4_at : MethodName := ⟨RX4, "at", "(II)I"⟩
abbrev cX4_levelAt : ByteArray := prog_6_method_41_code
def yX4_levelAt : MethodName := ⟨RX4, "levelAt", "(II)I"⟩
abbrev cX4_added : ByteArray := prog_6_method_42_code
def yX4_added : MethodName := ⟨RX4, "added", "(IIII)J"⟩
abbrev cX4_sumOf : ByteArray := prog_6_method_43_code
def yX4_sumOf : MethodName := ⟨RX4, "sumOf", "(IIII)J"⟩
abbrev cX4_sumTo : ByteArray := prog_6_method_44_code
def yX4_sumTo : MethodName := ⟨RX4, "sumTo", "(II)J"⟩
abbrev cX4_ofFlight : ByteArray := prog_6_method_45_code
def yX4_ofFlight : MethodName := ⟨RX4, "ofFlight", "(I)J"⟩
abbrev cX4_flightSum : ByteArray := prog_6_method_46_code
def yX4_flightSum : MethodName := ⟨RX4, "flightSum", "(I)J"⟩
abbrev cX4_ofStep : ByteArray := prog_6_method_47_code
def yX4_ofStep : MethodName := ⟨RX4, "ofStep", "(I)J"⟩
abbrev cX4_stepSum : ByteArray := prog_6_method_48_code
def yX4_stepSum : MethodName := ⟨RX4, "stepSum", "(I)J"⟩
abbrev cX4_sumOfAll : ByteArray := prog_6_method_49_code
def yX4_sumOfAll : MethodName := ⟨RX4, "sumOfAll", "()J"⟩
abbrev cX4_total : ByteArray := prog_6_method_50_code
def yX4_total : MethodName := ⟨RX4, "total", "()J"⟩
abbrev cX4_reaching : ByteArray := prog_6_method_51_code
def yX4_reaching : MethodName := ⟨RX4, "reaching", "(II)I"⟩
abbrev cX4_firstReaching : ByteArray := prog_6_method_52_code
def yX4_firstReaching : MethodName := ⟨RX4, "firstReaching", "(II)I"⟩
abbrev cX4_run : ByteArray := prog_6_method_53_code
def yX4_run : MethodName := ⟨RX4, "run", "(I)J"⟩
abbrev cX4_bestRun : ByteArray := prog_6_method_54_code
def yX4_bestRun : MethodName := ⟨RX4, "bestRun", "(I)J"⟩
abbrev cX4_dryPart : ByteArray := prog_6_method_55_code
def yX4_dryPart : MethodName := ⟨RX4, "dryPart", "(IIII)I"⟩
abbrev cX4_dryIn : ByteArray := prog_6_method_56_code
def yX4_dryIn : MethodName := ⟨RX4, "dryIn", "(IIII)I"⟩
abbrev cX4_dryNow : ByteArray := prog_6_method_57_code
def yX4_dryNow : MethodName := ⟨RX4, "dryNow", "()I"⟩
abbrev cX4_dry : ByteArray := prog_6_method_58_code
def yX4_dry : MethodName := ⟨RX4, "dry", "()I"⟩
abbrev cX4_dryAt : ByteArray := prog_6_method_59_code
def yX4_dryAt : MethodName := ⟨RX4, "dryAt", "(I)I"⟩
abbrev cX4_longest : ByteArray := prog_6_method_60_code
def yX4_longest : MethodName := ⟨RX4, "longest", "(I)I"⟩
abbrev cX4_longestDry : ByteArray := prog_6_method_61_code
def yX4_longestDry : MethodName := ⟨RX4, "longestDry", "(I)I"⟩
abbrev cX4_driest : ByteArray := prog_6_method_62_code
def yX4_driest : MethodName := ⟨RX4, "driest", "()I"⟩
abbrev cX4_driestFlight : ByteArray := prog_6_method_63_code
def yX4_driestFlight : MethodName := ⟨RX4, "driestFlight", "()I"⟩
abbrev cX4_lowestIn : ByteArray := prog_6_method_64_code
def yX4_lowestIn : MethodName := ⟨RX4, "lowestIn", "(IIII)I"⟩
abbrev cX4_highest : ByteArray := prog_6_method_65_code
def yX4_highest : MethodName := ⟨RX4, "highest", "(I)I"⟩
abbrev cX4_highestAt : ByteArray := prog_6_method_66_code
def yX4_highestAt : MethodName := ⟨RX4, "highestAt", "(I)I"⟩
abbrev cX4_below : ByteArray := prog_6_method_67_code
def yX4_below : MethodName := ⟨RX4, "below", "(I)I"⟩
abbrev cX4_upTo : ByteArray := prog_6_method_68_code
def yX4_upTo : MethodName := ⟨RX4, "upTo", "(I)I"⟩
abbrev cX4_levelInOrder : ByteArray := prog_6_method_69_code
def yX4_levelInOrder : MethodName := ⟨RX4, "levelInOrder", "(I)I"⟩
abbrev cX4_pairs : ByteArray := prog_6_method_70_code
def yX4_pairs : MethodName := ⟨RX4, "pairs", "()I"⟩
abbrev cX4_outOfOrder : ByteArray := prog_6_method_71_code
def yX4_outOfOrder : MethodName := ⟨RX4, "outOfOrder", "()I"⟩
abbrev cX4_alike : ByteArray := prog_6_method_72_code
def yX4_alike : MethodName := ⟨RX4, "alike", "(II)I"⟩
abbrev cX4_changed : ByteArray := prog_6_method_73_code
def yX4_changed : MethodName := ⟨RX4, "changed", "(I)I"⟩
abbrev cX4_changedSince : ByteArray := prog_6_method_74_code
def yX4_changedSince : MethodName := ⟨RX4, "changedSince", "(I)I"⟩
abbrev cX4_later : ByteArray := prog_6_method_75_code
def yX4_later : MethodName := ⟨RX4, "later", "(I)J"⟩
abbrev cX4_totalIn : ByteArray := prog_6_method_76_code
def yX4_totalIn : MethodName := ⟨RX4, "totalIn", "(I)J"⟩
abbrev cX4_goneIn : ByteArray := prog_6_method_77_code
def yX4_goneIn : MethodName := ⟨RX4, "goneIn", "(I)I"⟩
abbrev cX4_untilDry : ByteArray := prog_6_method_78_code
def yX4_untilDry : MethodName := ⟨RX4, "untilDry", "()I"⟩
abbrev cX4_hoursUntilDry : ByteArray := prog_6_method_79_code
def yX4_hoursUntilDry : MethodName := ⟨RX4, "hoursUntilDry", "()I"⟩
abbrev cX4_wanted : ByteArray := prog_6_method_80_code
def yX4_wanted : MethodName := ⟨RX4, "wanted", "(I)I"⟩
abbrev cX4_sunWanted : ByteArray := prog_6_method_81_code
def yX4_sunWanted : MethodName := ⟨RX4, "sunWanted", "(I)I"⟩
abbrev cX4_bestEdge : ByteArray := prog_6_method_82_code
def yX4_bestEdge : MethodName := ⟨RX4, "bestEdge", "(II)I"⟩
abbrev cX4_swapFor : ByteArray := prog_6_method_83_code
def yX4_swapFor : MethodName := ⟨RX4, "swapFor", "(I)I"⟩
abbrev cX4_bestSwap : ByteArray := prog_6_method_84_code
def yX4_bestSwap : MethodName := ⟨RX4, "bestSwap", "(I)I"⟩
abbrev cX4_meanLevel : ByteArray := prog_6_method_85_code
def yX4_meanLevel : MethodName := ⟨RX4, "meanLevel", "()D"⟩
abbrev cX4_digest : ByteArray := prog_6_method_86_code
def yX4_digest : MethodName := ⟨RX4, "digest", "()J"⟩
def RL : String := "PuddleStairsLaw"
abbrev cL_lay : ByteArray := method_3_code
def yL_lay : MethodName := ⟨RL, "lay", "(LPuddleStairs;II[J)I"⟩
abbrev cL_rain : ByteArray := method_4_code
def yL_rain : MethodName := ⟨RL, "rain", "(LPuddleStairs;III[J)I"⟩
abbrev cL_splash : ByteArray := method_5_code
def yL_splash : MethodName := ⟨RL, "splash", "(LPuddleStairs;IIIII[J)I"⟩
abbrev cL_swap : ByteArray := method_6_code
def yL_swap : MethodName := ⟨RL, "swap", "(LPuddleStairs;II[J)I"⟩
abbrev cL_turn : ByteArray := method_7_code
def yL_turn : MethodName := ⟨RL, "turn", "(LPuddleStairs;I[J)I"⟩
abbrev cL_bail : ByteArray := method_8_code
def yL_bail : MethodName := ⟨RL, "bail", "(LPuddleStairs;II[J)I"⟩
abbrev cL_passHours : ByteArray := method_9_code
def yL_passHours : MethodName := ⟨RL, "passHours", "(LPuddleStairs;I[J)I"⟩
abbrev cL_mark : ByteArray := method_10_code
def yL_mark : MethodName := ⟨RL, "mark", "(LPuddleStairs;[J)I"⟩
abbrev cL_back : ByteArray := method_11_code
def yL_back : MethodName := ⟨RL, "back", "(LPuddleStairs;I[J)I"⟩
abbrev cL_undo : ByteArray := method_12_code
def yL_undo : MethodName := ⟨RL, "undo", "(LPuddleStairs;[J)I"⟩
abbrev cL_setSun : ByteArray := method_13_code
def yL_setSun : MethodName := ⟨RL, "setSun", "(LPuddleStairs;I[J)I"⟩
abbrev cL_setEdge : ByteArray := method_14_code
def yL_setEdge : MethodName := ⟨RL, "setEdge", "(LPuddleStairs;II[J)I"⟩
abbrev cL_edgeOf : ByteArray := method_15_code
def yL_edgeOf : MethodName := ⟨RL, "edgeOf", "(LPuddleStairs;I[J)I"⟩
abbrev cL_levelAt : ByteArray := method_16_code
def yL_levelAt : MethodName := ⟨RL, "levelAt", "(LPuddleStairs;II[J)I"⟩
abbrev cL_sumOf : ByteArray := method_17_code
def yL_sumOf : MethodName := ⟨RL, "sumOf", "(LPuddleStairs;IIII[J)I"⟩
abbrev cL_sumTo : ByteArray := method_18_code
def yL_sumTo : MethodName := ⟨RL, "sumTo", "(LPuddleStairs;II[J)I"⟩
abbrev cL_flightSum : ByteArray := method_19_code
def yL_flightSum : MethodName := ⟨RL, "flightSum", "(LPuddleStairs;I[J)I"⟩
abbrev cL_stepSum : ByteArray := method_20_code
def yL_stepSum : MethodName := ⟨RL, "stepSum", "(LPuddleStairs;I[J)I"⟩
abbrev cL_firstReaching : ByteArray := method_21_code
def yL_firstReaching : MethodName := ⟨RL, "firstReaching", "(LPuddleStairs;II[J)I"⟩
abbrev cL_bestRun : ByteArray := method_22_code
def yL_bestRun : MethodName := ⟨RL, "bestRun", "(LPuddleStairs;I[J)I"⟩
abbrev cL_dryIn : ByteArray := method_23_code
def yL_dryIn : MethodName := ⟨RL, "dryIn", "(LPuddleStairs;IIII[J)I"⟩
abbrev cL_dryAt : ByteArray := method_24_code
def yL_dryAt : MethodName := ⟨RL, "dryAt", "(LPuddleStairs;I[J)I"⟩
abbrev cL_longestDry : ByteArray := method_25_code
def yL_longestDry : MethodName := ⟨RL, "longestDry", "(LPuddleStairs;I[J)I"⟩
abbrev cL_lowestIn : ByteArray := method_26_code
def yL_lowestIn : MethodName := ⟨RL, "lowestIn", "(LPuddleStairs;IIII[J)I"⟩
abbrev cL_highestAt : ByteArray := method_27_code
def yL_highestAt : MethodName := ⟨RL, "highestAt", "(LPuddleStairs;I[J)I"⟩
abbrev cL_levelInOrder : ByteArray := method_28_code
def yL_levelInOrder : MethodName := ⟨RL, "levelInOrder", "(LPuddleStairs;I[J)I"⟩
abbrev cL_alike : ByteArray := method_29_code
def yL_alike : MethodName := ⟨RL, "alike", "(LPuddleStairs;II[J)I"⟩
abbrev cL_changedSince : ByteArray := method_30_code
def yL_changedSince : MethodName := ⟨RL, "changedSince", "(LPuddleStairs;I[J)I"⟩
abbrev cL_totalIn : ByteArray := method_31_code
def yL_totalIn : MethodName := ⟨RL, "totalIn", "(LPuddleStairs;I[J)I"⟩
abbrev cL_goneIn : ByteArray := method_32_code
def yL_goneIn : MethodName := ⟨RL, "goneIn", "(LPuddleStairs;I[J)I"⟩
abbrev cL_sunWanted : ByteArray := method_33_code
def yL_sunWanted : MethodName := ⟨RL, "sunWanted", "(LPuddleStairs;I[J)I"⟩
abbrev cL_bestEdge : ByteArray := method_34_code
def yL_bestEdge : MethodName := ⟨RL, "bestEdge", "(LPuddleStairs;II[J)I"⟩
abbrev cL_bestSwap : ByteArray := method_35_code
def yL_bestSwap : MethodName := ⟨RL, "bestSwap", "(LPuddleStairs;I[J)I"⟩
abbrev cL_law : ByteArray := code
def yL_law : MethodName := ⟨RL, "law", "([I)Z"⟩
abbrev vwCl : List vw_C := [(RX0, TX0, 2), (RX1, TX1, 3), (RX2, TX2, 5), (RX3, TX3, 7), (RX4, TX4, 14)]
end
section
/-! A layer of my own over the kit: one judgement J for 'from this configuration of method M, the method ends as Φ (returned) or Ψ (threw) say'. The world is a table of entries E over addresses ad, n of them; contexts, heaps, rooms are inside J. -/
/-- the law's numbers: first address of the world, the script's cell, length, contents; the class ids; the three array classes (int, long, int[]); where the texts lie -/
abbrev jG : Type := (Nat × Nat × Nat × (Nat → Int32)) × va_G × (ClassId × ClassId × ClassId) × (Nat → Nat)
abbrev jM : Type := MethodName × ByteArray × Nat × Option FieldType × List (Nat × Nat × Nat × Nat)
abbrev jR : Type := Nat → (Nat → Nat) → (Nat → va_E) → Prop
def jA (g : jG) : Nat → Prop := fun q => g.1.1 ≤ q
def jT (g : jG) : List (ClassId × FieldType) := [(g.2.2.1.1, .int), (g.2.2.1.2.1, .long), (g.2.2.1.2.2, .array .int)]
def TT : List Cond := lw_tbl.filter goodWord
def jNw : Cond → Bool
  | .fieldLinkNest .. => true
  | .methodLinkNest .. => true
  | .castable .. => true
  | .declares .. => true
  | _ => false
def NW : List Cond := lw_tbl.filter jNw
theorem tt_of {w : Cond} (k : Nat) (h : lw_tbl[k]? = some w) (hg : goodWord w = true) : w ∈ TT := List.mem_filter.mpr ⟨List.mem_of_getElem? h, hg⟩
theorem nw_of {w : Cond} (k : Nat) (h : lw_tbl[k]? = some w) (hg : jNw w = true) : w ∈ NW := List.mem_filter.mpr ⟨List.mem_of_getElem? h, hg⟩
theorem tt_good {w : Cond} (h : w ∈ TT) : goodWord w = true := (List.mem_filter.mp h).2
def jCode (M : jM) : Cond := if M.2.2.2.2.isEmpty = true then .code M.1 M.2.1 M.2.2.1 M.2.2.2.1 else .codeWith M.1 M.2.1 M.2.2.1 M.2.2.2.1 M.2.2.2.2
def jW (M : jM) : List Cond := jCode M :: TT
/-! the world -/
def jws (n : Nat) (ad : Nat → Nat) (E : Nat → va_E) : va_W := (List.range n).map (fun k => (ad k, E k))
theorem jws_at {n : Nat} {ad : Nat → Nat} {E : Nat → va_E} {k : Nat} (h : k < n) : (jws n ad E)[k]? = some (ad k, E k) := by
  simp [jws, h]
theorem jws_set {n : Nat} {ad : Nat → Nat} {E : Nat → va_E} {k : Nat} {e : va_E} (h : k < n) : (jws n ad E).set k (ad k, e) = jws n ad (va_up E k e) := by
  apply List.ext_getElem?
  intro j
  by_cases hj : j < n
  · rw [jws_at hj, List.getElem?_set]
    by_cases hk : k = j
    · subst hk
      simp [jws, h, va_up]
    · rw [if_neg hk, jws_at hj]
      simp [va_up, Ne.symm hk]
  · rw [List.getElem?_eq_none (by simp [jws]; omega), List.getElem?_eq_none (by simp [jws]; omega)]
theorem jws_push {n : Nat} {ad : Nat → Nat} {E : Nat → va_E} {q : Nat} {e : va_E} : jws n ad E ++ [(q, e)] = jws (n + 1) (va_up ad n q) (va_up E n e) := by
  unfold jws
  rw [List.range_succ, List.map_append]
  congr 1
  · apply List.map_congr_left
    intro k hk
    have : k ≠ n := Nat.ne_of_lt (List.mem_range.mp hk)
    simp [va_up, this]
  · simp [va_up]
def jWd (g : jG) (n : Nat) (ad : Nat → Nat) (E : Nat → va_E) (H : Heap) : Prop := va_P g.2.1 vwCl (jws n ad E) H ∧ va_D (jA g) (jws n ad E)
theorem jWd.less {g : jG} {n k : Nat} {ad : Nat → Nat} {E : Nat → va_E} {H : Heap} (h : jWd g n ad E H) (hk : k ≤ n) : jWd g k ad E H := by
  have key : ∀ (i : Nat) (q : Nat × va_E), (jws k ad E)[i]? = some q → (jws n ad E)[i]? = some q := by
    intro i q hi
    have hl : i < k := by
      have := (List.getElem?_eq_some_iff.mp hi).1
      simpa [jws] using this
    rw [jws_at hl] at hi
    rw [jws_at (by omega), hi]
  exact ⟨fun i q hi => h.1 i q (key i q hi), fun i j p q hi hj e => h.2.1 i j p q (key i p hi) (key j q hj) e, fun i q hi => h.2.2 i q (key i q hi)⟩
theorem jWd.inj {g : jG} {n : Nat} {ad : Nat → Nat} {E : Nat → va_E} {H : Heap} (h : jWd g n ad E H) {i j : Nat} (hi : i < n) (hj : j < n) (e : ad i = ad j) : i = j := h.2.1 i j _ _ (jws_at hi) (jws_at hj) e
theorem jWd.lt {g : jG} {n : Nat} {ad : Nat → Nat} {E : Nat → va_E} {H : Heap} (h : jWd g n ad E H) {i : Nat} (hi : i < n) : ad i < H.size := (h.1 i _ (jws_at hi)).lt
/-- only the first n entries count -/
theorem jWd.congr {g : jG} {n : Nat} {ad ad' : Nat → Nat} {E E' : Nat → va_E} {H : Heap} (h : jWd g n ad E H) (ha : ∀ k, k < n → ad k = ad' k) (hE : ∀ k, k < n → E k = E' k) : jWd g n ad' E' H := by
  have e : jws n ad E = jws n ad' E' := by
    unfold jws
    apply List.map_congr_left
    intro k hk
    have := List.mem_range.mp hk
    rw [ha k this, hE k this]
  unfold jWd at h ⊢
  rw [← e]
  exact h
/-! what of the start goes on to hold -/
def jStr : List (Nat × String) := [(121, "there are 12 marks"), (136, "no deed is kept"), (178, "there are not so many dry puddles"), (290, "there is no such number"), (294, "the number is too small or too great"), (297, "the first one is greater than the last one")]
def jNc : List (String × String) := [("java/lang/IllegalArgumentException", "java/lang/IndexOutOfBoundsException")]
def jK (g : jG) (s : State) : Prop :=
  va_K g.2.1 vwCl (jT g) s ∧ (∀ q ∈ jStr, vk_R RX3 q.1 q.2 (g.2.2.2 q.1) s) ∧ vx_Zq Bundle.tN "UNASSIGNED_STACK" Bundle.steD (jA g) s s.heap ∧ vx_Zq Bundle.tN "SUPPRESSED_SENTINEL" Bundle.listD (jA g) s s.heap ∧
  va_X g.1.2.1 g.1.2.2.1 g.1.2.2.2 s s.heap ∧ g.1.2.1 < g.1.1 ∧ g.1.1 ≤ s.heap.size ∧ va_AOA .int s ∧ (∀ w ∈ NW, va_Nw w s) ∧ ∀ q ∈ jNc, va_Nc q.1 q.2 s
theorem jNw_warm {s U : State} (hW : s.WarmedH U.vm) {w : Cond} (hw : jNw w = true) (h : va_Nw w s) : va_Nw w U := by
  cases w <;> first | exact va_Nw.warmF hW h | exact va_Nw.warmM hW h | exact va_Nw.warmC hW h | exact va_Nw.warmD hW h | exact absurd (show false = true from hw) Bool.false_ne_true
theorem jNw_tab {w : Cond} (hw : jNw w = true) : w.onTables = true := by
  cases w <;> first | rfl | exact absurd (show false = true from hw) Bool.false_ne_true
theorem va_AOA.moved' {t : FieldType} {u U : State} (hvm : u.vm.Alike U.vm) (h : va_AOA t u) : va_AOA t U := over_moved (a := #[]) (a' := #[]) hvm h
theorem jK.to {g : jG} {s U : State} {H : Heap} {locs : List Loc} (h : jK g s) (hS : va_S (jA g) s.heap H locs) (hU : U.heap = H) (hW : s.WarmedH U.vm) : jK g U := by
  obtain ⟨h1, h2, h3, h4, h5, h6, h7, h8, h9, h10⟩ := h
  subst hU
  refine ⟨va_K.moved hW.alike h1, fun q hq => vk_R.warm hW (h2 q hq), (vx_Zq.moved hW.alike h3).kept (fun a ha hn => hS.2.1 a ha hn), (vx_Zq.moved hW.alike h4).kept (fun a ha hn => hS.2.1 a ha hn), ?_, h6, Nat.le_trans h7 hS.1, va_AOA.moved' hW.alike h8, fun w hw => jNw_warm hW (List.mem_filter.mp hw).2 (h9 w hw), fun q hq => va_Nc.moved hW.alike (h10 q hq)⟩
  exact (va_X.moved hW.alike h5).kept (hS.2.1 _ (Nat.lt_of_lt_of_le h6 h7) (Nat.not_le.mpr h6))
theorem jK.same {g : jG} {u U : State} (hv : U.vm = u.vm) (hh : U.heap = u.heap) (h : jK g u) : jK g U := by
  obtain ⟨h1, h2, h3, h4, h5, h6, h7, h8, h9, h10⟩ := h
  have ha : u.vm.Alike U.vm := by rw [hv]; exact Vm.Alike.refl _
  refine ⟨va_K.moved ha h1, fun q hq => vk_R.same hv (h2 q hq), by rw [hh]; exact vx_Zq.moved ha h3, by rw [hh]; exact vx_Zq.moved ha h4, by rw [hh]; exact va_X.moved ha h5, h6, by rw [hh]; exact h7, va_AOA.moved' ha h8, fun w hw => va_Nw.same (jNw_tab (List.mem_filter.mp hw).2) hv.symm (h9 w hw), fun q hq => va_Nc.moved ha (h10 q hq)⟩
/-! locals by place -/
def slotV : Slot → Option Value
  | .val v => some v
  | _ => none
def lh (ls : Array Slot) (nL : Nat) (L : List (Option Value)) : Prop := ls.size = nL ∧ lv_wf ls ∧ ∀ (i : Nat) (v : Value), L[i]? = some (some v) → ls[i]? = some (.val v)
def ent (vs : List Value) (n : Nat) : List (Option Value) := (lg_sl vs ++ List.replicate (n - (lg_sl vs).length) Slot.unset).map slotV
theorem lh_at {ls : Array Slot} {nL : Nat} {L : List (Option Value)} (h : lh ls nL L) {i : Nat} {v : Value} (hi : L[i]? = some (some v)) : ls[i]? = some (.val v) := h.2.2 i v hi
theorem lh_entry (vs : List Value) {n : Nat} (h : (lg_sl vs).length ≤ n) : lh ((lg_sl vs ++ List.replicate (n - (lg_sl vs).length) Slot.unset).toArray) n (ent vs n) := by
  obtain ⟨h1, h2, -⟩ := lv_entry vs h
  refine ⟨h1, h2, fun i v hi => ?_⟩
  unfold ent at hi
  rw [List.getElem?_map] at hi
  cases hx : (lg_sl vs ++ List.replicate (n - (lg_sl vs).length) Slot.unset)[i]? with
  | none => rw [hx] at hi; cases hi
  | some x =>
    rw [hx] at hi
    cases x with
    | val w =>
      have e : w = v := by simpa [slotV] using hi
      subst e
      simpa using hx
    | unset => simp [slotV] at hi
    | second => simp [slotV] at hi
def asl (L : List (Option Value)) : List (Nat × Value) := (List.range L.length).filterMap (fun j => (L[j]?.getD none).map (fun w => (j, w)))
theorem asl_mem {L : List (Option Value)} {j : Nat} {w : Value} : (j, w) ∈ asl L ↔ L[j]? = some (some w) := by
  unfold asl
  rw [List.mem_filterMap]
  constructor
  · rintro ⟨k, hk, h⟩
    have hk := List.mem_range.mp hk
    rw [List.getElem?_eq_getElem hk] at h
    cases hx : L[k] with
    | none => rw [hx] at h; simp at h
    | some x =>
      rw [hx] at h
      simp at h
      obtain ⟨rfl, rfl⟩ := h
      rw [List.getElem?_eq_getElem hk, hx]
  · intro h
    have hk := (List.getElem?_eq_some_iff.mp h).1
    refine ⟨j, List.mem_range.mpr hk, ?_⟩
    rw [h]
    rfl
theorem lh_asl {ls : Array Slot} {nL : Nat} {L : List (Option Value)} (h : lh ls nL L) : lv_has ls nL (asl L) := ⟨h.1, h.2.1, fun q hq => h.2.2 q.1 q.2 (asl_mem.mp hq)⟩
/-- what stands just ahead of the place is no long -/
def okp (L : List (Option Value)) (i : Nat) : Bool := match i with
  | 0 => true
  | k + 1 => match L[k]? with
    | some (some w) => !(w.category == 2)
    | _ => true
theorem lh_of1 {ls' : Array Slot} {nL i : Nat} {L : List (Option Value)} {v : Value} (ok : okp L i = true) (h : lv_has ls' nL ((i, v) :: (asl L).filter (fun q => !(q.1 == i) && !(q.1 + 1 == i && q.2.category == 2)))) : lh ls' nL (L.set i (some v)) := by
  refine ⟨h.1, h.2.1, fun j w hj => ?_⟩
  rw [List.getElem?_set] at hj
  by_cases hij : i = j
  · rw [if_pos hij] at hj
    split at hj
    · cases hj
      exact hij ▸ h.2.2 (i, v) List.mem_cons_self
    · cases hj
  · rw [if_neg hij] at hj
    refine h.2.2 (j, w) (List.mem_cons_of_mem _ (List.mem_filter.mpr ⟨asl_mem.mpr hj, ?_⟩))
    by_cases e : j + 1 = i
    · subst e
      simp only [okp, hj] at ok
      simp at ok
      simp [ok]
    · simp [Ne.symm hij, e]
theorem lh_of2 {ls' : Array Slot} {nL i : Nat} {L : List (Option Value)} {v : Value} (ok : okp L i = true) (h : lv_has ls' nL ((i, v) :: (asl L).filter (fun q => !(q.1 == i) && (!(q.1 == i + 1) && !(q.1 + 1 == i && q.2.category == 2))))) : lh ls' nL ((L.set i (some v)).set (i + 1) none) := by
  refine ⟨h.1, h.2.1, fun j w hj => ?_⟩
  rw [List.getElem?_set] at hj
  by_cases h1 : i + 1 = j
  · rw [if_pos h1] at hj
    split at hj <;> cases hj
  · rw [if_neg h1, List.getElem?_set] at hj
    by_cases hij : i = j
    · rw [if_pos hij] at hj
      split at hj
      · cases hj
        exact hij ▸ h.2.2 (i, v) List.mem_cons_self
      · cases hj
    · rw [if_neg hij] at hj
      refine h.2.2 (j, w) (List.mem_cons_of_mem _ (List.mem_filter.mpr ⟨asl_mem.mpr hj, ?_⟩))
      by_cases e : j + 1 = i
      · subst e
        simp only [okp, hj] at ok
        simp at ok
        simp [ok]
        omega
      · simp [Ne.symm hij, e, Ne.symm h1]
theorem lh_sub {ls : Array Slot} {nL : Nat} {L L' : List (Option Value)} (h : lh ls nL L) (hs : ∀ (i : Nat) (v : Value), L'[i]? = some (some v) → L[i]? = some (some v)) : lh ls nL L' := ⟨h.1, h.2.1, fun i v hi => h.2.2 i v (hs i v hi)⟩
/-! the judgement -/
def jQ (g : jG) (Φ : Option Value → jR) : Array Value → State → Outcome → State → Prop := fun _ st o t => (∃ (v : Option Value) (n : Nat) (ad : Nat → Nat) (E : Nat → va_E), o = .returned v ∧ Φ v n ad E ∧ jWd g n ad E t.heap) ∧ va_F (jA g) st t
def jX (g : jG) (Ψ : String → jR) : String → State → State → Prop := fun X st t => (∃ (n : Nat) (ad : Nat → Nat) (E : Nat → va_E), Ψ X n ad E ∧ jWd g n ad E t.heap) ∧ va_F (jA g) st t
def jC (g : jG) (M : jM) (d : Nat) (l : Launch) (p : Program) (R : Room) (s : State) (m : MethodId) (args : Array Value) (meth : Method) (c : Code) : Prop :=
  p.tables.exec = Jvm.exec ∧ c.code = M.2.1 ∧ c.maxLocals = M.2.2.1 ∧ meth.sig.returnType = M.2.2.2.1 ∧ meth.locks = false ∧ s.vm.findClass M.1.cls = some m.cls ∧ (∀ w ∈ TT, w.before args s = true) ∧ c.exceptionTable.toList = tableOf M.2.2.2.2 ∧ meth.name = M.1.name ∧ l.stackTraces = false ∧ d ≤ R.frames ∧ 32 * d ≤ R.locals ∧ jK g s
def J (g : jG) (M : jM) (d bc bs pc : Nat) (L : List (Option Value)) (st : List Value) (n : Nat) (ad : Nat → Nat) (E : Nat → va_E) (Φ : Option Value → jR) (Ψ : String → jR) : Prop :=
  ∀ (l : Launch) (p : Program) (e : Env) (R : Room) (s : State) (m : MethodId) (args : Array Value) (below : List Frame) (meth : Method) (c : Code) (H : Heap) (locs : List Loc) (cells slots : Nat) (ls : Array Slot),
    jC g M d l p R s m args meth c → cells + bc ≤ R.cells → slots + bs ≤ R.slots → jWd g n ad E H → va_S (jA g) s.heap H locs → lh ls M.2.2.1 L →
    W p l e R s m args below meth c H locs cells slots (vx_MQ below (jQ g Φ) (jX g Ψ) args s R.cells R.slots (jA g)) (F0 m pc ls st)
def JE (g : jG) (M : jM) (d bc bs : Nat) (As : List Value) (n : Nat) (ad : Nat → Nat) (E : Nat → va_E) (Φ : Option Value → jR) (Ψ : String → jR) : Prop := J g M d bc bs 0 (ent As M.2.2.1) [] n ad E Φ Ψ
def jPre (g : jG) (n : Nat) (ad : Nat → Nat) (E : Nat → va_E) : State → Prop := fun U => jK g U ∧ jWd g n ad E U.heap
theorem jPre.blind {g : jG} {n : Nat} {ad : Nat → Nat} {E : Nat → va_E} {As : List Value} : FrameBlind (va_Pc As (jPre g n ad E)) := fun _ U gf mk q => ⟨q.1, jK.same (u := U) (U := U.calling gf mk _) rfl rfl q.2.1, q.2.2⟩
theorem jW_good {M : jM} (h : jCode M ∈ TT) : ∀ w ∈ jW M, w ∈ TT ∧ ((w.onTables && w.keeps) = true ∨ ∃ ty, w = .arrayClass ty) := fun w hw => by
  have : w ∈ TT := (List.mem_cons.mp hw).elim (fun e => e ▸ h) id
  exact ⟨this, good_of_word (tt_good this)⟩
/-- a method from its entry -/
theorem jMet {g : jG} {M : jM} {d bc bs : Nat} {As : List Value} {n : Nat} {ad : Nat → Nat} {E : Nat → va_E} {Φ : Option Value → jR} {Ψ : String → jR} {l : Launch} (hy : plainName M.1.cls = true) (hl : l.stackTraces = false) (hn : (lg_sl As).length ≤ M.2.2.1) (h : JE g M d bc bs As n ad E Φ Ψ) :
    vx_Met l M.1 (jW M) ({ frames := d, cells := bc, slots := bs, locals := 32 * d }) (va_Pc As (jPre g n ad E)) (jQ g Φ) (jX g Ψ) bc bs (jA g) := by
  obtain ⟨y, cc, nL, ret, hh⟩ := M
  by_cases hhe : hh.isEmpty = true
  · have hh0 : hh = [] := List.isEmpty_iff.mp hhe
    subst hh0
    refine vx_ofW (cc := cc) (maxL := nL) (ret := ret) hy (ws' := TT) rfl ?_
    intro p e s m args below meth c s₁ B hml ht hv
    obtain ⟨rfl, hK, hWd⟩ := hv
    have hts := atoms_spec B.pre
    rw [lg_entry_eq]
    refine h l p e _ s m _ below meth c s.heap [] 0 0 _ ⟨B.exec, B.bytes, hml, B.returns, B.notSynchronized, findClass_of_methodNamed B.named, fun w hw => hts w (List.mem_cons_of_mem _ hw), ?_, (name_of_methodNamed B.named B.method).1, hl, Nat.le_refl _, Nat.le_refl _, hK⟩ (by show 0 + bc ≤ bc; omega) (by show 0 + bs ≤ bs; omega) hWd va_S.rf (lh_entry As hn)
    exact List.eq_nil_iff_forall_not_mem.mpr fun x hx => ht x hx
  · have hcd : jCode (y, cc, nL, ret, hh) = .codeWith y cc nL ret hh := if_neg hhe
    refine vx_ofWH (cc := cc) (maxL := nL) (ret := ret) (hh := hh) hy (ws' := TT) (by unfold jW; rw [hcd]) ?_
    intro p e s m args below meth c s₁ B hml hv
    obtain ⟨rfl, hK, hWd⟩ := hv
    have hts := atoms_spec B.pre
    rw [lg_entry_eq]
    exact h l p e _ s m _ below meth c s.heap [] 0 0 _ ⟨B.exec, B.bytes, hml, B.returns, B.notSynchronized, findClass_of_methodNamed B.named, fun w hw => hts w (List.mem_cons_of_mem _ hw), vx_table (x := y) B (by rw [← hcd]; exact hts _ List.mem_cons_self), (name_of_methodNamed B.named B.method).1, hl, Nat.le_refl _, Nat.le_refl _, hK⟩ (by show 0 + bc ≤ bc; omega) (by show 0 + bs ≤ bs; omega) hWd va_S.rf (lh_entry As hn)
end
section
/-! The rows of J: an instruction a row. -/
section JR
variable {g : jG} {M : jM} {d bc bs pc : Nat} {L : List (Option Value)} {st : List Value} {n : Nat} {ad : Nat → Nat} {E : Nat → va_E} {Φ : Option Value → jR} {Ψ : String → jR}
theorem j_iload {i : Nat} {x : Int32} (hd : decode M.2.1 pc = .ok (.iload i, 2)) (hL : L[i]? = some (some (.int x))) (k : J g M d bc bs (pc + 2) L (.int x :: st) n ad E Φ Ψ) : J g M d bc bs pc L (st) n ad E Φ Ψ := by
  intro l p e R s m args below meth c H locs cells slots ls C h1 h2 hW hS hl
  exact lv_iload C.1 C.2.1 hd (lh_at hl hL) (k l p e R s m args below meth c H locs cells slots ls C h1 h2 hW hS hl)
theorem j_iload_n {i : Fin 4} {x : Int32} (hd : decode M.2.1 pc = .ok (.iload_n i, 1)) (hL : L[(i : Nat)]? = some (some (.int x))) (k : J g M d bc bs (pc + 1) L (.int x :: st) n ad E Φ Ψ) : J g M d bc bs pc L (st) n ad E Φ Ψ := by
  intro l p e R s m args below meth c H locs cells slots ls C h1 h2 hW hS hl
  exact lv_iload_n C.1 C.2.1 hd rfl (lh_at hl hL) (k l p e R s m args below meth c H locs cells slots ls C h1 h2 hW hS hl)
theorem j_lload {i : Nat} {x : Int64} (hd : decode M.2.1 pc = .ok (.lload i, 2)) (hL : L[i]? = some (some (.long x))) (k : J g M d bc bs (pc + 2) L (.long x :: st) n ad E Φ Ψ) : J g M d bc bs pc L (st) n ad E Φ Ψ := by
  intro l p e R s m args below meth c H locs cells slots ls C h1 h2 hW hS hl
  exact lv_lload C.1 C.2.1 hd (lh_at hl hL) (k l p e R s m args below meth c H locs cells slots ls C h1 h2 hW hS hl)
theorem j_lload_n {i : Fin 4} {x : Int64} (hd : decode M.2.1 pc = .ok (.lload_n i, 1)) (hL : L[(i : Nat)]? = some (some (.long x))) (k : J g M d bc bs (pc + 1) L (.long x :: st) n ad E Φ Ψ) : J g M d bc bs pc L (st) n ad E Φ Ψ := by
  intro l p e R s m args below meth c H locs cells slots ls C h1 h2 hW hS hl
  exact lv_lload_n C.1 C.2.1 hd rfl (lh_at hl hL) (k l p e R s m args below meth c H locs cells slots ls C h1 h2 hW hS hl)
theorem j_dload {i : Nat} {x : UInt64} (hd : decode M.2.1 pc = .ok (.dload i, 2)) (hL : L[i]? = some (some (.double x))) (k : J g M d bc bs (pc + 2) L (.double x :: st) n ad E Φ Ψ) : J g M d bc bs pc L (st) n ad E Φ Ψ := by
  intro l p e R s m args below meth c H locs cells slots ls C h1 h2 hW hS hl
  exact lv_dload C.1 C.2.1 hd (lh_at hl hL) (k l p e R s m args below meth c H locs cells slots ls C h1 h2 hW hS hl)
theorem j_dload_n {i : Fin 4} {x : UInt64} (hd : decode M.2.1 pc = .ok (.dload_n i, 1)) (hL : L[(i : Nat)]? = some (some (.double x))) (k : J g M d bc bs (pc + 1) L (.double x :: st) n ad E Φ Ψ) : J g M d bc bs pc L (st) n ad E Φ Ψ := by
  intro l p e R s m args below meth c H locs cells slots ls C h1 h2 hW hS hl
  exact lv_dload_n C.1 C.2.1 hd rfl (lh_at hl hL) (k l p e R s m args below meth c H locs cells slots ls C h1 h2 hW hS hl)
theorem j_aload {i : Nat} {x : Nat} (hd : decode M.2.1 pc = .ok (.aload i, 2)) (hL : L[i]? = some (some (.ref x))) (k : J g M d bc bs (pc + 2) L (.ref x :: st) n ad E Φ Ψ) : J g M d bc bs pc L (st) n ad E Φ Ψ := by
  intro l p e R s m args below meth c H locs cells slots ls C h1 h2 hW hS hl
  exact lv_aload C.1 C.2.1 hd (lh_at hl hL) (k l p e R s m args below meth c H locs cells slots ls C h1 h2 hW hS hl)
theorem j_aload_n {i : Fin 4} {x : Nat} (hd : decode M.2.1 pc = .ok (.aload_n i, 1)) (hL : L[(i : Nat)]? = some (some (.ref x))) (k : J g M d bc bs (pc + 1) L (.ref x :: st) n ad E Φ Ψ) : J g M d bc bs pc L (st) n ad E Φ Ψ := by
  intro l p e R s m args below meth c H locs cells slots ls C h1 h2 hW hS hl
  exact lv_aload_n C.1 C.2.1 hd rfl (lh_at hl hL) (k l p e R s m args below meth c H locs cells slots ls C h1 h2 hW hS hl)
theorem j_istore {i : Nat} {x : Int32} {L' : List (Option Value)} (hd : decode M.2.1 pc = .ok (.istore i, 2)) (hn : i < M.2.2.1) (ok : okp L i = true) (hL : L.set i (some (.int x)) = L') (k : J g M d bc bs (pc + 2) L' st n ad E Φ Ψ) : J g M d bc bs pc L (.int x :: st) n ad E Φ Ψ := by
  intro l p e R s m args below meth c H locs cells slots ls C h1 h2 hW hS hl
  subst hL
  exact lv_istore C.1 C.2.1 hd (lh_asl hl) hn rfl (fun ls' hl' => k l p e R s m args below meth c H locs cells slots ls' C h1 h2 hW hS (lh_of1 ok hl'))
theorem j_istore_n {i : Fin 4} {x : Int32} {L' : List (Option Value)} (hd : decode M.2.1 pc = .ok (.istore_n i, 1)) (hn : (i : Nat) < M.2.2.1) (ok : okp L (i : Nat) = true) (hL : L.set (i : Nat) (some (.int x)) = L') (k : J g M d bc bs (pc + 1) L' st n ad E Φ Ψ) : J g M d bc bs pc L (.int x :: st) n ad E Φ Ψ := by
  intro l p e R s m args below meth c H locs cells slots ls C h1 h2 hW hS hl
  subst hL
  exact lv_istore_n C.1 C.2.1 hd rfl (lh_asl hl) hn rfl (fun ls' hl' => k l p e R s m args below meth c H locs cells slots ls' C h1 h2 hW hS (lh_of1 ok hl'))
theorem j_lstore {i : Nat} {x : Int64} {L' : List (Option Value)} (hd : decode M.2.1 pc = .ok (.lstore i, 2)) (hn : i + 1 < M.2.2.1) (ok : okp L i = true) (hL : (L.set i (some (.long x))).set (i + 1) none = L') (k : J g M d bc bs (pc + 2) L' st n ad E Φ Ψ) : J g M d bc bs pc L (.long x :: st) n ad E Φ Ψ := by
  intro l p e R s m args below meth c H locs cells slots ls C h1 h2 hW hS hl
  subst hL
  exact lv_lstore C.1 C.2.1 hd (lh_asl hl) hn rfl (fun ls' hl' => k l p e R s m args below meth c H locs cells slots ls' C h1 h2 hW hS (lh_of2 ok hl'))
theorem j_lstore_n {i : Fin 4} {x : Int64} {L' : List (Option Value)} (hd : decode M.2.1 pc = .ok (.lstore_n i, 1)) (hn : (i : Nat) + 1 < M.2.2.1) (ok : okp L (i : Nat) = true) (hL : (L.set (i : Nat) (some (.long x))).set ((i : Nat) + 1) none = L') (k : J g M d bc bs (pc + 1) L' st n ad E Φ Ψ) : J g M d bc bs pc L (.long x :: st) n ad E Φ Ψ := by
  intro l p e R s m args below meth c H locs cells slots ls C h1 h2 hW hS hl
  subst hL
  exact lv_lstore_n C.1 C.2.1 hd rfl (lh_asl hl) hn rfl (fun ls' hl' => k l p e R s m args below meth c H locs cells slots ls' C h1 h2 hW hS (lh_of2 ok hl'))
theorem j_dstore {i : Nat} {x : UInt64} {L' : List (Option Value)} (hd : decode M.2.1 pc = .ok (.dstore i, 2)) (hn : i + 1 < M.2.2.1) (ok : okp L i = true) (hL : (L.set i (some (.double x))).set (i + 1) none = L') (k : J g M d bc bs (pc + 2) L' st n ad E Φ Ψ) : J g M d bc bs pc L (.double x :: st) n ad E Φ Ψ := by
  intro l p e R s m args below meth c H locs cells slots ls C h1 h2 hW hS hl
  subst hL
  exact lv_dstore C.1 C.2.1 hd (lh_asl hl) hn rfl (fun ls' hl' => k l p e R s m args below meth c H locs cells slots ls' C h1 h2 hW hS (lh_of2 ok hl'))
theorem j_dstore_n {i : Fin 4} {x : UInt64} {L' : List (Option Value)} (hd : decode M.2.1 pc = .ok (.dstore_n i, 1)) (hn : (i : Nat) + 1 < M.2.2.1) (ok : okp L (i : Nat) = true) (hL : (L.set (i : Nat) (some (.double x))).set ((i : Nat) + 1) none = L') (k : J g M d bc bs (pc + 1) L' st n ad E Φ Ψ) : J g M d bc bs pc L (.double x :: st) n ad E Φ Ψ := by
  intro l p e R s m args below meth c H locs cells slots ls C h1 h2 hW hS hl
  subst hL
  exact lv_dstore_n C.1 C.2.1 hd rfl (lh_asl hl) hn rfl (fun ls' hl' => k l p e R s m args below meth c H locs cells slots ls' C h1 h2 hW hS (lh_of2 ok hl'))
theorem j_astore {i : Nat} {x : Nat} {L' : List (Option Value)} (hd : decode M.2.1 pc = .ok (.astore i, 2)) (hn : i < M.2.2.1) (ok : okp L i = true) (hL : L.set i (some (.ref x)) = L') (k : J g M d bc bs (pc + 2) L' st n ad E Φ Ψ) : J g M d bc bs pc L (.ref x :: st) n ad E Φ Ψ := by
  intro l p e R s m args below meth c H locs cells slots ls C h1 h2 hW hS hl
  subst hL
  exact lv_astore C.1 C.2.1 hd (lh_asl hl) hn rfl (fun ls' hl' => k l p e R s m args below meth c H locs cells slots ls' C h1 h2 hW hS (lh_of1 ok hl'))
theorem j_astore_n {i : Fin 4} {x : Nat} {L' : List (Option Value)} (hd : decode M.2.1 pc = .ok (.astore_n i, 1)) (hn : (i : Nat) < M.2.2.1) (ok : okp L (i : Nat) = true) (hL : L.set (i : Nat) (some (.ref x)) = L') (k : J g M d bc bs (pc + 1) L' st n ad E Φ Ψ) : J g M d bc bs pc L (.ref x :: st) n ad E Φ Ψ := by
  intro l p e R s m args below meth c H locs cells slots ls C h1 h2 hW hS hl
  subst hL
  exact lv_astore_n C.1 C.2.1 hd rfl (lh_asl hl) hn rfl (fun ls' hl' => k l p e R s m args below meth c H locs cells slots ls' C h1 h2 hW hS (lh_of1 ok hl'))
theorem j_iinc {i : Nat} {z : Int} {x v : Int32} {L' : List (Option Value)} (hd : decode M.2.1 pc = .ok (.iinc i z, 3)) (hn : i < M.2.2.1) (hx : L[i]? = some (some (.int x))) (hv : x + Int32.ofInt z = v) (ok : okp L i = true) (hL : L.set i (some (.int v)) = L') (k : J g M d bc bs (pc + 3) L' st n ad E Φ Ψ) : J g M d bc bs pc L st n ad E Φ Ψ := by
  intro l p e R s m args below meth c H locs cells slots ls C h1 h2 hW hS hl
  subst hL
  obtain ⟨j, hj⟩ := List.getElem?_of_mem (asl_mem.mpr hx)
  exact lv_iinc C.1 C.2.1 hd (lh_asl hl) hj hv hn rfl (fun ls' hl' => k l p e R s m args below meth c H locs cells slots ls' C h1 h2 hW hS (lh_of1 ok hl'))
theorem j_iconst {z : Int} {v : Int32} (hd : decode M.2.1 pc = .ok (.iconst z, 1)) (hv : Int32.ofInt z = v) (k : J g M d bc bs (pc + 1) L (.int v :: st) n ad E Φ Ψ) : J g M d bc bs pc L (st) n ad E Φ Ψ := by
  intro l p e R s m args below meth c H locs cells slots ls C h1 h2 hW hS hl
  exact lv_iconst C.1 C.2.1 hd hv (k l p e R s m args below meth c H locs cells slots ls C h1 h2 hW hS hl)
theorem j_bipush {z : Int} {v : Int32} (hd : decode M.2.1 pc = .ok (.bipush z, 2)) (hv : (Int8.ofInt z).toInt32 = v) (k : J g M d bc bs (pc + 2) L (.int v :: st) n ad E Φ Ψ) : J g M d bc bs pc L (st) n ad E Φ Ψ := by
  intro l p e R s m args below meth c H locs cells slots ls C h1 h2 hW hS hl
  exact lv_bipush C.1 C.2.1 hd hv (k l p e R s m args below meth c H locs cells slots ls C h1 h2 hW hS hl)
theorem j_sipush {z : Int} {v : Int32} (hd : decode M.2.1 pc = .ok (.sipush z, 3)) (hv : (Int16.ofInt z).toInt32 = v) (k : J g M d bc bs (pc + 3) L (.int v :: st) n ad E Φ Ψ) : J g M d bc bs pc L (st) n ad E Φ Ψ := by
  intro l p e R s m args below meth c H locs cells slots ls C h1 h2 hW hS hl
  exact lv_sipush C.1 C.2.1 hd hv (k l p e R s m args below meth c H locs cells slots ls C h1 h2 hW hS hl)
theorem j_lconst {z : Fin 2} {v : Int64} (hd : decode M.2.1 pc = .ok (.lconst z, 1)) (hv : Int64.ofNat (z : Nat) = v) (k : J g M d bc bs (pc + 1) L (.long v :: st) n ad E Φ Ψ) : J g M d bc bs pc L (st) n ad E Φ Ψ := by
  intro l p e R s m args below meth c H locs cells slots ls C h1 h2 hW hS hl
  exact lv_lconst C.1 C.2.1 hd hv (k l p e R s m args below meth c H locs cells slots ls C h1 h2 hW hS hl)
theorem j_dconst0  (hd : decode M.2.1 pc = .ok (.dconst 0, 1)) (k : J g M d bc bs (pc + 1) L (.double FP.dconst0 :: st) n ad E Φ Ψ) : J g M d bc bs pc L (st) n ad E Φ Ψ := by
  intro l p e R s m args below meth c H locs cells slots ls C h1 h2 hW hS hl
  exact lv_dconst0 C.1 C.2.1 hd (k l p e R s m args below meth c H locs cells slots ls C h1 h2 hW hS hl)
theorem j_ldc {i : Nat} {v : Int32} (hd : decode M.2.1 pc = .ok (.ldc i, 2)) (hc : Cond.constant M.1.cls i v ∈ TT) (k : J g M d bc bs (pc + 2) L (.int v :: st) n ad E Φ Ψ) : J g M d bc bs pc L (st) n ad E Φ Ψ := by
  intro l p e R s m args below meth c H locs cells slots ls C h1 h2 hW hS hl
  exact lv_ldc C.1 C.2.1 C.2.2.2.2.2.1 (C.2.2.2.2.2.2.1 _ hc) hd (k l p e R s m args below meth c H locs cells slots ls C h1 h2 hW hS hl)
theorem j_ldc2 {i : Nat} {v : Int64} (hd : decode M.2.1 pc = .ok (.ldc2_w i, 3)) (hc : Cond.constantLong M.1.cls i v ∈ TT) (k : J g M d bc bs (pc + 3) L (.long v :: st) n ad E Φ Ψ) : J g M d bc bs pc L (st) n ad E Φ Ψ := by
  intro l p e R s m args below meth c H locs cells slots ls C h1 h2 hW hS hl
  exact lv_ldc2 C.1 C.2.1 C.2.2.2.2.2.1 (C.2.2.2.2.2.2.1 _ hc) hd (k l p e R s m args below meth c H locs cells slots ls C h1 h2 hW hS hl)
theorem j_iadd {x y : Int32} (hd : decode M.2.1 pc = .ok (.iadd, 1)) (k : J g M d bc bs (pc + 1) L (.int (x + y) :: st) n ad E Φ Ψ) : J g M d bc bs pc L (.int y :: .int x :: st) n ad E Φ Ψ := by
  intro l p e R s m args below meth c H locs cells slots ls C h1 h2 hW hS hl
  exact lv_iadd C.1 C.2.1 hd (k l p e R s m args below meth c H locs cells slots ls C h1 h2 hW hS hl)
theorem j_isub {x y : Int32} (hd : decode M.2.1 pc = .ok (.isub, 1)) (k : J g M d bc bs (pc + 1) L (.int (x - y) :: st) n ad E Φ Ψ) : J g M d bc bs pc L (.int y :: .int x :: st) n ad E Φ Ψ := by
  intro l p e R s m args below meth c H locs cells slots ls C h1 h2 hW hS hl
  exact lv_isub C.1 C.2.1 hd (k l p e R s m args below meth c H locs cells slots ls C h1 h2 hW hS hl)
theorem j_imul {x y : Int32} (hd : decode M.2.1 pc = .ok (.imul, 1)) (k : J g M d bc bs (pc + 1) L (.int (x * y) :: st) n ad E Φ Ψ) : J g M d bc bs pc L (.int y :: .int x :: st) n ad E Φ Ψ := by
  intro l p e R s m args below meth c H locs cells slots ls C h1 h2 hW hS hl
  exact lv_imul C.1 C.2.1 hd (k l p e R s m args below meth c H locs cells slots ls C h1 h2 hW hS hl)
theorem j_iand {x y : Int32} (hd : decode M.2.1 pc = .ok (.iand, 1)) (k : J g M d bc bs (pc + 1) L (.int (x &&& y) :: st) n ad E Φ Ψ) : J g M d bc bs pc L (.int y :: .int x :: st) n ad E Φ Ψ := by
  intro l p e R s m args below meth c H locs cells slots ls C h1 h2 hW hS hl
  exact lv_iand C.1 C.2.1 hd (k l p e R s m args below meth c H locs cells slots ls C h1 h2 hW hS hl)
theorem j_irem {x y : Int32} (hd : decode M.2.1 pc = .ok (.irem, 1)) (hne : ¬ y = 0) (k : J g M d bc bs (pc + 1) L (.int (x - x / y * y) :: st) n ad E Φ Ψ) : J g M d bc bs pc L (.int y :: .int x :: st) n ad E Φ Ψ := by
  intro l p e R s m args below meth c H locs cells slots ls C h1 h2 hW hS hl
  exact lv_irem C.1 C.2.1 hd hne (k l p e R s m args below meth c H locs cells slots ls C h1 h2 hW hS hl)
theorem j_ineg {x : Int32} (hd : decode M.2.1 pc = .ok (.ineg, 1)) (k : J g M d bc bs (pc + 1) L (.int (-x) :: st) n ad E Φ Ψ) : J g M d bc bs pc L (.int x :: st) n ad E Φ Ψ := by
  intro l p e R s m args below meth c H locs cells slots ls C h1 h2 hW hS hl
  exact lv_ineg C.1 C.2.1 hd (k l p e R s m args below meth c H locs cells slots ls C h1 h2 hW hS hl)
theorem j_ladd {x y : Int64} (hd : decode M.2.1 pc = .ok (.ladd, 1)) (k : J g M d bc bs (pc + 1) L (.long (x + y) :: st) n ad E Φ Ψ) : J g M d bc bs pc L (.long y :: .long x :: st) n ad E Φ Ψ := by
  intro l p e R s m args below meth c H locs cells slots ls C h1 h2 hW hS hl
  exact lv_ladd C.1 C.2.1 hd (k l p e R s m args below meth c H locs cells slots ls C h1 h2 hW hS hl)
theorem j_lmul {x y : Int64} (hd : decode M.2.1 pc = .ok (.lmul, 1)) (k : J g M d bc bs (pc + 1) L (.long (x * y) :: st) n ad E Φ Ψ) : J g M d bc bs pc L (.long y :: .long x :: st) n ad E Φ Ψ := by
  intro l p e R s m args below meth c H locs cells slots ls C h1 h2 hW hS hl
  exact lv_lmul C.1 C.2.1 hd (k l p e R s m args below meth c H locs cells slots ls C h1 h2 hW hS hl)
theorem j_i2l {x : Int32} (hd : decode M.2.1 pc = .ok (.i2l, 1)) (k : J g M d bc bs (pc + 1) L (.long x.toInt64 :: st) n ad E Φ Ψ) : J g M d bc bs pc L (.int x :: st) n ad E Φ Ψ := by
  intro l p e R s m args below meth c H locs cells slots ls C h1 h2 hW hS hl
  exact lv_i2l C.1 C.2.1 hd rfl (k l p e R s m args below meth c H locs cells slots ls C h1 h2 hW hS hl)
theorem j_l2d {x : Int64} (hd : decode M.2.1 pc = .ok (.l2d, 1)) (k : J g M d bc bs (pc + 1) L (.double (FP.l2d x) :: st) n ad E Φ Ψ) : J g M d bc bs pc L (.long x :: st) n ad E Φ Ψ := by
  intro l p e R s m args below meth c H locs cells slots ls C h1 h2 hW hS hl
  exact lv_l2d C.1 C.2.1 hd (k l p e R s m args below meth c H locs cells slots ls C h1 h2 hW hS hl)
theorem j_i2d {x : Int32} (hd : decode M.2.1 pc = .ok (.i2d, 1)) (k : J g M d bc bs (pc + 1) L (.double (FP.i2d x) :: st) n ad E Φ Ψ) : J g M d bc bs pc L (.int x :: st) n ad E Φ Ψ := by
  intro l p e R s m args below meth c H locs cells slots ls C h1 h2 hW hS hl
  exact lv_i2d C.1 C.2.1 hd (k l p e R s m args below meth c H locs cells slots ls C h1 h2 hW hS hl)
theorem j_ddiv {x y : UInt64} (hd : decode M.2.1 pc = .ok (.ddiv, 1)) (hne : vf_n64 (FP.ddiv x y)) (k : J g M d bc bs (pc + 1) L (.double (FP.ddiv x y) :: st) n ad E Φ Ψ) : J g M d bc bs pc L (.double y :: .double x :: st) n ad E Φ Ψ := by
  intro l p e R s m args below meth c H locs cells slots ls C h1 h2 hW hS hl
  exact lv_ddiv C.1 C.2.1 hd hne (k l p e R s m args below meth c H locs cells slots ls C h1 h2 hW hS hl)
theorem j_lcmp {x y : Int64} (hd : decode M.2.1 pc = .ok (.lcmp, 1)) (k : J g M d bc bs (pc + 1) L (.int (lg_cmp x y) :: st) n ad E Φ Ψ) : J g M d bc bs pc L (.long y :: .long x :: st) n ad E Φ Ψ := by
  intro l p e R s m args below meth c H locs cells slots ls C h1 h2 hW hS hl
  exact W.lcmp C.1 C.2.1 hd (k l p e R s m args below meth c H locs cells slots ls C h1 h2 hW hS hl)
theorem j_dcmp {x y : UInt64} {op : CmpOp} (hd : decode M.2.1 pc = .ok (.dcmp op, 1)) (k : J g M d bc bs (pc + 1) L (.int (Op.cmpValue (FP.dcmp x y) op) :: st) n ad E Φ Ψ) : J g M d bc bs pc L (.double y :: .double x :: st) n ad E Φ Ψ := by
  intro l p e R s m args below meth c H locs cells slots ls C h1 h2 hW hS hl
  exact lv_dcmp C.1 C.2.1 hd (k l p e R s m args below meth c H locs cells slots ls C h1 h2 hW hS hl)
theorem j_dup {v : Value} (hd : decode M.2.1 pc = .ok (.dup, 1)) (hv : v.category = 1) (k : J g M d bc bs (pc + 1) L (v :: v :: st) n ad E Φ Ψ) : J g M d bc bs pc L (v :: st) n ad E Φ Ψ := by
  intro l p e R s m args below meth c H locs cells slots ls C h1 h2 hW hS hl
  exact lv_dup C.1 C.2.1 hd hv (k l p e R s m args below meth c H locs cells slots ls C h1 h2 hW hS hl)
theorem j_dup2 {v w : Value} (hd : decode M.2.1 pc = .ok (.dup2, 1)) (hv : v.category = 1) (hw : w.category = 1) (k : J g M d bc bs (pc + 1) L (v :: w :: v :: w :: st) n ad E Φ Ψ) : J g M d bc bs pc L (v :: w :: st) n ad E Φ Ψ := by
  intro l p e R s m args below meth c H locs cells slots ls C h1 h2 hW hS hl
  exact lv_dup2_11 C.1 C.2.1 hd hv hw (k l p e R s m args below meth c H locs cells slots ls C h1 h2 hW hS hl)
theorem j_pop {v : Value} (hd : decode M.2.1 pc = .ok (.pop, 1)) (hv : v.category = 1) (k : J g M d bc bs (pc + 1) L (st) n ad E Φ Ψ) : J g M d bc bs pc L (v :: st) n ad E Φ Ψ := by
  intro l p e R s m args below meth c H locs cells slots ls C h1 h2 hW hS hl
  exact lv_pop C.1 C.2.1 hd hv (k l p e R s m args below meth c H locs cells slots ls C h1 h2 hW hS hl)
theorem j_if_eq {x : Int32} {off : Int} {tgt : Nat} (hd : decode M.2.1 pc = .ok (.ifCond .eq off, 3)) (ht : (pc : Int) + off = (tgt : Int)) (kt : x = 0 → J g M d bc bs tgt L st n ad E Φ Ψ) (kf : ¬ x = 0 → J g M d bc bs (pc + 3) L st n ad E Φ Ψ) : J g M d bc bs pc L (.int x :: st) n ad E Φ Ψ := by
  intro l p e R s m args below meth c H locs cells slots ls C h1 h2 hW hS hl
  exact lv_if_eq C.1 C.2.1 hd ht (fun q => kt q l p e R s m args below meth c H locs cells slots ls C h1 h2 hW hS hl) (fun q => kf q l p e R s m args below meth c H locs cells slots ls C h1 h2 hW hS hl)
theorem j_if_eq_t {x : Int32} {off : Int} {tgt : Nat} (hd : decode M.2.1 pc = .ok (.ifCond .eq off, 3)) (ht : (pc : Int) + off = (tgt : Int)) (h : x = 0) (kt : J g M d bc bs tgt L st n ad E Φ Ψ) : J g M d bc bs pc L (.int x :: st) n ad E Φ Ψ := j_if_eq hd ht (fun _ => kt) (fun q => absurd h q)
theorem j_if_eq_f {x : Int32} {off : Int} {tgt : Nat} (hd : decode M.2.1 pc = .ok (.ifCond .eq off, 3)) (ht : (pc : Int) + off = (tgt : Int)) (h : ¬ x = 0) (kf : J g M d bc bs (pc + 3) L st n ad E Φ Ψ) : J g M d bc bs pc L (.int x :: st) n ad E Φ Ψ := j_if_eq hd ht (fun q => absurd q h) (fun _ => kf)
theorem j_icmp_eq {x y : Int32} {off : Int} {tgt : Nat} (hd : decode M.2.1 pc = .ok (.if_icmp .eq off, 3)) (ht : (pc : Int) + off = (tgt : Int)) (kt : x = y → J g M d bc bs tgt L st n ad E Φ Ψ) (kf : ¬ x = y → J g M d bc bs (pc + 3) L st n ad E Φ Ψ) : J g M d bc bs pc L (.int y :: .int x :: st) n ad E Φ Ψ := by
  intro l p e R s m args below meth c H locs cells slots ls C h1 h2 hW hS hl
  exact lv_icmp_eq C.1 C.2.1 hd ht (fun q => kt q l p e R s m args below meth c H locs cells slots ls C h1 h2 hW hS hl) (fun q => kf q l p e R s m args below meth c H locs cells slots ls C h1 h2 hW hS hl)
theorem j_icmp_eq_t {x y : Int32} {off : Int} {tgt : Nat} (hd : decode M.2.1 pc = .ok (.if_icmp .eq off, 3)) (ht : (pc : Int) + off = (tgt : Int)) (h : x = y) (kt : J g M d bc bs tgt L st n ad E Φ Ψ) : J g M d bc bs pc L (.int y :: .int x :: st) n ad E Φ Ψ := j_icmp_eq hd ht (fun _ => kt) (fun q => absurd h q)
theorem j_icmp_eq_f {x y : Int32} {off : Int} {tgt : Nat} (hd : decode M.2.1 pc = .ok (.if_icmp .eq off, 3)) (ht : (pc : Int) + off = (tgt : Int)) (h : ¬ x = y) (kf : J g M d bc bs (pc + 3) L st n ad E Φ Ψ) : J g M d bc bs pc L (.int y :: .int x :: st) n ad E Φ Ψ := j_icmp_eq hd ht (fun q => absurd q h) (fun _ => kf)
theorem j_if_ne {x : Int32} {off : Int} {tgt : Nat} (hd : decode M.2.1 pc = .ok (.ifCond .ne off, 3)) (ht : (pc : Int) + off = (tgt : Int)) (kt : ¬ x = 0 → J g M d bc bs tgt L st n ad E Φ Ψ) (kf : x = 0 → J g M d bc bs (pc + 3) L st n ad E Φ Ψ) : J g M d bc bs pc L (.int x :: st) n ad E Φ Ψ := by
  intro l p e R s m args below meth c H locs cells slots ls C h1 h2 hW hS hl
  exact lv_if_ne C.1 C.2.1 hd ht (fun q => kt q l p e R s m args below meth c H locs cells slots ls C h1 h2 hW hS hl) (fun q => kf q l p e R s m args below meth c H locs cells slots ls C h1 h2 hW hS hl)
theorem j_if_ne_t {x : Int32} {off : Int} {tgt : Nat} (hd : decode M.2.1 pc = .ok (.ifCond .ne off, 3)) (ht : (pc : Int) + off = (tgt : Int)) (h : ¬ x = 0) (kt : J g M d bc bs tgt L st n ad E Φ Ψ) : J g M d bc bs pc L (.int x :: st) n ad E Φ Ψ := j_if_ne hd ht (fun _ => kt) (fun q => absurd q h)
theorem j_if_ne_f {x : Int32} {off : Int} {tgt : Nat} (hd : decode M.2.1 pc = .ok (.ifCond .ne off, 3)) (ht : (pc : Int) + off = (tgt : Int)) (h : x = 0) (kf : J g M d bc bs (pc + 3) L st n ad E Φ Ψ) : J g M d bc bs pc L (.int x :: st) n ad E Φ Ψ := j_if_ne hd ht (fun q => absurd h q) (fun _ => kf)
theorem j_icmp_ne {x y : Int32} {off : Int} {tgt : Nat} (hd : decode M.2.1 pc = .ok (.if_icmp .ne off, 3)) (ht : (pc : Int) + off = (tgt : Int)) (kt : ¬ x = y → J g M d bc bs tgt L st n ad E Φ Ψ) (kf : x = y → J g M d bc bs (pc + 3) L st n ad E Φ Ψ) : J g M d bc bs pc L (.int y :: .int x :: st) n ad E Φ Ψ := by
  intro l p e R s m args below meth c H locs cells slots ls C h1 h2 hW hS hl
  exact lv_icmp_ne C.1 C.2.1 hd ht (fun q => kt q l p e R s m args below meth c H locs cells slots ls C h1 h2 hW hS hl) (fun q => kf q l p e R s m args below meth c H locs cells slots ls C h1 h2 hW hS hl)
theorem j_icmp_ne_t {x y : Int32} {off : Int} {tgt : Nat} (hd : decode M.2.1 pc = .ok (.if_icmp .ne off, 3)) (ht : (pc : Int) + off = (tgt : Int)) (h : ¬ x = y) (kt : J g M d bc bs tgt L st n ad E Φ Ψ) : J g M d bc bs pc L (.int y :: .int x :: st) n ad E Φ Ψ := j_icmp_ne hd ht (fun _ => kt) (fun q => absurd q h)
theorem j_icmp_ne_f {x y : Int32} {off : Int} {tgt : Nat} (hd : decode M.2.1 pc = .ok (.if_icmp .ne off, 3)) (ht : (pc : Int) + off = (tgt : Int)) (h : x = y) (kf : J g M d bc bs (pc + 3) L st n ad E Φ Ψ) : J g M d bc bs pc L (.int y :: .int x :: st) n ad E Φ Ψ := j_icmp_ne hd ht (fun q => absurd h q) (fun _ => kf)
theorem j_if_lt {x : Int32} {off : Int} {tgt : Nat} (hd : decode M.2.1 pc = .ok (.ifCond .lt off, 3)) (ht : (pc : Int) + off = (tgt : Int)) (kt : x < 0 → J g M d bc bs tgt L st n ad E Φ Ψ) (kf : ¬ x < 0 → J g M d bc bs (pc + 3) L st n ad E Φ Ψ) : J g M d bc bs pc L (.int x :: st) n ad E Φ Ψ := by
  intro l p e R s m args below meth c H locs cells slots ls C h1 h2 hW hS hl
  exact lv_if_lt C.1 C.2.1 hd ht (fun q => kt q l p e R s m args below meth c H locs cells slots ls C h1 h2 hW hS hl) (fun q => kf q l p e R s m args below meth c H locs cells slots ls C h1 h2 hW hS hl)
theorem j_if_lt_t {x : Int32} {off : Int} {tgt : Nat} (hd : decode M.2.1 pc = .ok (.ifCond .lt off, 3)) (ht : (pc : Int) + off = (tgt : Int)) (h : x < 0) (kt : J g M d bc bs tgt L st n ad E Φ Ψ) : J g M d bc bs pc L (.int x :: st) n ad E Φ Ψ := j_if_lt hd ht (fun _ => kt) (fun q => absurd h q)
theorem j_if_lt_f {x : Int32} {off : Int} {tgt : Nat} (hd : decode M.2.1 pc = .ok (.ifCond .lt off, 3)) (ht : (pc : Int) + off = (tgt : Int)) (h : ¬ x < 0) (kf : J g M d bc bs (pc + 3) L st n ad E Φ Ψ) : J g M d bc bs pc L (.int x :: st) n ad E Φ Ψ := j_if_lt hd ht (fun q => absurd q h) (fun _ => kf)
theorem j_icmp_lt {x y : Int32} {off : Int} {tgt : Nat} (hd : decode M.2.1 pc = .ok (.if_icmp .lt off, 3)) (ht : (pc : Int) + off = (tgt : Int)) (kt : x < y → J g M d bc bs tgt L st n ad E Φ Ψ) (kf : ¬ x < y → J g M d bc bs (pc + 3) L st n ad E Φ Ψ) : J g M d bc bs pc L (.int y :: .int x :: st) n ad E Φ Ψ := by
  intro l p e R s m args below meth c H locs cells slots ls C h1 h2 hW hS hl
  exact lv_icmp_lt C.1 C.2.1 hd ht (fun q => kt q l p e R s m args below meth c H locs cells slots ls C h1 h2 hW hS hl) (fun q => kf q l p e R s m args below meth c H locs cells slots ls C h1 h2 hW hS hl)
theorem j_icmp_lt_t {x y : Int32} {off : Int} {tgt : Nat} (hd : decode M.2.1 pc = .ok (.if_icmp .lt off, 3)) (ht : (pc : Int) + off = (tgt : Int)) (h : x < y) (kt : J g M d bc bs tgt L st n ad E Φ Ψ) : J g M d bc bs pc L (.int y :: .int x :: st) n ad E Φ Ψ := j_icmp_lt hd ht (fun _ => kt) (fun q => absurd h q)
theorem j_icmp_lt_f {x y : Int32} {off : Int} {tgt : Nat} (hd : decode M.2.1 pc = .ok (.if_icmp .lt off, 3)) (ht : (pc : Int) + off = (tgt : Int)) (h : ¬ x < y) (kf : J g M d bc bs (pc + 3) L st n ad E Φ Ψ) : J g M d bc bs pc L (.int y :: .int x :: st) n ad E Φ Ψ := j_icmp_lt hd ht (fun q => absurd q h) (fun _ => kf)
theorem j_if_ge {x : Int32} {off : Int} {tgt : Nat} (hd : decode M.2.1 pc = .ok (.ifCond .ge off, 3)) (ht : (pc : Int) + off = (tgt : Int)) (kt : 0 ≤ x → J g M d bc bs tgt L st n ad E Φ Ψ) (kf : ¬ 0 ≤ x → J g M d bc bs (pc + 3) L st n ad E Φ Ψ) : J g M d bc bs pc L (.int x :: st) n ad E Φ Ψ := by
  intro l p e R s m args below meth c H locs cells slots ls C h1 h2 hW hS hl
  exact lv_if_ge C.1 C.2.1 hd ht (fun q => kt q l p e R s m args below meth c H locs cells slots ls C h1 h2 hW hS hl) (fun q => kf q l p e R s m args below meth c H locs cells slots ls C h1 h2 hW hS hl)
theorem j_if_ge_t {x : Int32} {off : Int} {tgt : Nat} (hd : decode M.2.1 pc = .ok (.ifCond .ge off, 3)) (ht : (pc : Int) + off = (tgt : Int)) (h : 0 ≤ x) (kt : J g M d bc bs tgt L st n ad E Φ Ψ) : J g M d bc bs pc L (.int x :: st) n ad E Φ Ψ := j_if_ge hd ht (fun _ => kt) (fun q => absurd h q)
theorem j_if_ge_f {x : Int32} {off : Int} {tgt : Nat} (hd : decode M.2.1 pc = .ok (.ifCond .ge off, 3)) (ht : (pc : Int) + off = (tgt : Int)) (h : ¬ 0 ≤ x) (kf : J g M d bc bs (pc + 3) L st n ad E Φ Ψ) : J g M d bc bs pc L (.int x :: st) n ad E Φ Ψ := j_if_ge hd ht (fun q => absurd q h) (fun _ => kf)
theorem j_icmp_ge {x y : Int32} {off : Int} {tgt : Nat} (hd : decode M.2.1 pc = .ok (.if_icmp .ge off, 3)) (ht : (pc : Int) + off = (tgt : Int)) (kt : y ≤ x → J g M d bc bs tgt L st n ad E Φ Ψ) (kf : ¬ y ≤ x → J g M d bc bs (pc + 3) L st n ad E Φ Ψ) : J g M d bc bs pc L (.int y :: .int x :: st) n ad E Φ Ψ := by
  intro l p e R s m args below meth c H locs cells slots ls C h1 h2 hW hS hl
  exact lv_icmp_ge C.1 C.2.1 hd ht (fun q => kt q l p e R s m args below meth c H locs cells slots ls C h1 h2 hW hS hl) (fun q => kf q l p e R s m args below meth c H locs cells slots ls C h1 h2 hW hS hl)
theorem j_icmp_ge_t {x y : Int32} {off : Int} {tgt : Nat} (hd : decode M.2.1 pc = .ok (.if_icmp .ge off, 3)) (ht : (pc : Int) + off = (tgt : Int)) (h : y ≤ x) (kt : J g M d bc bs tgt L st n ad E Φ Ψ) : J g M d bc bs pc L (.int y :: .int x :: st) n ad E Φ Ψ := j_icmp_ge hd ht (fun _ => kt) (fun q => absurd h q)
theorem j_icmp_ge_f {x y : Int32} {off : Int} {tgt : Nat} (hd : decode M.2.1 pc = .ok (.if_icmp .ge off, 3)) (ht : (pc : Int) + off = (tgt : Int)) (h : ¬ y ≤ x) (kf : J g M d bc bs (pc + 3) L st n ad E Φ Ψ) : J g M d bc bs pc L (.int y :: .int x :: st) n ad E Φ Ψ := j_icmp_ge hd ht (fun q => absurd q h) (fun _ => kf)
theorem j_if_gt {x : Int32} {off : Int} {tgt : Nat} (hd : decode M.2.1 pc = .ok (.ifCond .gt off, 3)) (ht : (pc : Int) + off = (tgt : Int)) (kt : 0 < x → J g M d bc bs tgt L st n ad E Φ Ψ) (kf : ¬ 0 < x → J g M d bc bs (pc + 3) L st n ad E Φ Ψ) : J g M d bc bs pc L (.int x :: st) n ad E Φ Ψ := by
  intro l p e R s m args below meth c H locs cells slots ls C h1 h2 hW hS hl
  exact lv_if_gt C.1 C.2.1 hd ht (fun q => kt q l p e R s m args below meth c H locs cells slots ls C h1 h2 hW hS hl) (fun q => kf q l p e R s m args below meth c H locs cells slots ls C h1 h2 hW hS hl)
theorem j_if_gt_t {x : Int32} {off : Int} {tgt : Nat} (hd : decode M.2.1 pc = .ok (.ifCond .gt off, 3)) (ht : (pc : Int) + off = (tgt : Int)) (h : 0 < x) (kt : J g M d bc bs tgt L st n ad E Φ Ψ) : J g M d bc bs pc L (.int x :: st) n ad E Φ Ψ := j_if_gt hd ht (fun _ => kt) (fun q => absurd h q)
theorem j_if_gt_f {x : Int32} {off : Int} {tgt : Nat} (hd : decode M.2.1 pc = .ok (.ifCond .gt off, 3)) (ht : (pc : Int) + off = (tgt : Int)) (h : ¬ 0 < x) (kf : J g M d bc bs (pc + 3) L st n ad E Φ Ψ) : J g M d bc bs pc L (.int x :: st) n ad E Φ Ψ := j_if_gt hd ht (fun q => absurd q h) (fun _ => kf)
theorem j_icmp_gt {x y : Int32} {off : Int} {tgt : Nat} (hd : decode M.2.1 pc = .ok (.if_icmp .gt off, 3)) (ht : (pc : Int) + off = (tgt : Int)) (kt : y < x → J g M d bc bs tgt L st n ad E Φ Ψ) (kf : ¬ y < x → J g M d bc bs (pc + 3) L st n ad E Φ Ψ) : J g M d bc bs pc L (.int y :: .int x :: st) n ad E Φ Ψ := by
  intro l p e R s m args below meth c H locs cells slots ls C h1 h2 hW hS hl
  exact lv_icmp_gt C.1 C.2.1 hd ht (fun q => kt q l p e R s m args below meth c H locs cells slots ls C h1 h2 hW hS hl) (fun q => kf q l p e R s m args below meth c H locs cells slots ls C h1 h2 hW hS hl)
theorem j_icmp_gt_t {x y : Int32} {off : Int} {tgt : Nat} (hd : decode M.2.1 pc = .ok (.if_icmp .gt off, 3)) (ht : (pc : Int) + off = (tgt : Int)) (h : y < x) (kt : J g M d bc bs tgt L st n ad E Φ Ψ) : J g M d bc bs pc L (.int y :: .int x :: st) n ad E Φ Ψ := j_icmp_gt hd ht (fun _ => kt) (fun q => absurd h q)
theorem j_icmp_gt_f {x y : Int32} {off : Int} {tgt : Nat} (hd : decode M.2.1 pc = .ok (.if_icmp .gt off, 3)) (ht : (pc : Int) + off = (tgt : Int)) (h : ¬ y < x) (kf : J g M d bc bs (pc + 3) L st n ad E Φ Ψ) : J g M d bc bs pc L (.int y :: .int x :: st) n ad E Φ Ψ := j_icmp_gt hd ht (fun q => absurd q h) (fun _ => kf)
theorem j_if_le {x : Int32} {off : Int} {tgt : Nat} (hd : decode M.2.1 pc = .ok (.ifCond .le off, 3)) (ht : (pc : Int) + off = (tgt : Int)) (kt : x ≤ 0 → J g M d bc bs tgt L st n ad E Φ Ψ) (kf : ¬ x ≤ 0 → J g M d bc bs (pc + 3) L st n ad E Φ Ψ) : J g M d bc bs pc L (.int x :: st) n ad E Φ Ψ := by
  intro l p e R s m args below meth c H locs cells slots ls C h1 h2 hW hS hl
  exact lv_if_le C.1 C.2.1 hd ht (fun q => kt q l p e R s m args below meth c H locs cells slots ls C h1 h2 hW hS hl) (fun q => kf q l p e R s m args below meth c H locs cells slots ls C h1 h2 hW hS hl)
theorem j_if_le_t {x : Int32} {off : Int} {tgt : Nat} (hd : decode M.2.1 pc = .ok (.ifCond .le off, 3)) (ht : (pc : Int) + off = (tgt : Int)) (h : x ≤ 0) (kt : J g M d bc bs tgt L st n ad E Φ Ψ) : J g M d bc bs pc L (.int x :: st) n ad E Φ Ψ := j_if_le hd ht (fun _ => kt) (fun q => absurd h q)
theorem j_if_le_f {x : Int32} {off : Int} {tgt : Nat} (hd : decode M.2.1 pc = .ok (.ifCond .le off, 3)) (ht : (pc : Int) + off = (tgt : Int)) (h : ¬ x ≤ 0) (kf : J g M d bc bs (pc + 3) L st n ad E Φ Ψ) : J g M d bc bs pc L (.int x :: st) n ad E Φ Ψ := j_if_le hd ht (fun q => absurd q h) (fun _ => kf)
theorem j_icmp_le {x y : Int32} {off : Int} {tgt : Nat} (hd : decode M.2.1 pc = .ok (.if_icmp .le off, 3)) (ht : (pc : Int) + off = (tgt : Int)) (kt : x ≤ y → J g M d bc bs tgt L st n ad E Φ Ψ) (kf : ¬ x ≤ y → J g M d bc bs (pc + 3) L st n ad E Φ Ψ) : J g M d bc bs pc L (.int y :: .int x :: st) n ad E Φ Ψ := by
  intro l p e R s m args below meth c H locs cells slots ls C h1 h2 hW hS hl
  exact lv_icmp_le C.1 C.2.1 hd ht (fun q => kt q l p e R s m args below meth c H locs cells slots ls C h1 h2 hW hS hl) (fun q => kf q l p e R s m args below meth c H locs cells slots ls C h1 h2 hW hS hl)
theorem j_icmp_le_t {x y : Int32} {off : Int} {tgt : Nat} (hd : decode M.2.1 pc = .ok (.if_icmp .le off, 3)) (ht : (pc : Int) + off = (tgt : Int)) (h : x ≤ y) (kt : J g M d bc bs tgt L st n ad E Φ Ψ) : J g M d bc bs pc L (.int y :: .int x :: st) n ad E Φ Ψ := j_icmp_le hd ht (fun _ => kt) (fun q => absurd h q)
theorem j_icmp_le_f {x y : Int32} {off : Int} {tgt : Nat} (hd : decode M.2.1 pc = .ok (.if_icmp .le off, 3)) (ht : (pc : Int) + off = (tgt : Int)) (h : ¬ x ≤ y) (kf : J g M d bc bs (pc + 3) L st n ad E Φ Ψ) : J g M d bc bs pc L (.int y :: .int x :: st) n ad E Φ Ψ := j_icmp_le hd ht (fun q => absurd q h) (fun _ => kf)
theorem j_goto {off : Int} {tgt : Nat} (hd : decode M.2.1 pc = .ok (.goto off, 3)) (ht : (pc : Int) + off = (tgt : Int)) (k : J g M d bc bs tgt L st n ad E Φ Ψ) : J g M d bc bs pc L st n ad E Φ Ψ := by
  intro l p e R s m args below meth c H locs cells slots ls C h1 h2 hW hS hl
  exact lv_goto C.1 C.2.1 hd ht (k l p e R s m args below meth c H locs cells slots ls C h1 h2 hW hS hl)
theorem j_tableIn {dflt lo hi : Int} {offs : Array Int} {len : Nat} {x : Int32} {off : Int} {tgt : Nat} (hd : decode M.2.1 pc = .ok (.tableswitch dflt lo hi offs, len)) (q1 : ¬ x.toInt < lo) (q2 : ¬ hi < x.toInt) (ho : offs[(x.toInt - lo).toNat]? = some off) (ht : (pc : Int) + off = (tgt : Int)) (k : J g M d bc bs tgt L st n ad E Φ Ψ) : J g M d bc bs pc L (.int x :: st) n ad E Φ Ψ := by
  intro l p e R s m args below meth c H locs cells slots ls C h1 h2 hW hS hl
  exact lv_tableIn C.1 C.2.1 hd q1 q2 ho ht (k l p e R s m args below meth c H locs cells slots ls C h1 h2 hW hS hl)
theorem j_tableOut {dflt lo hi : Int} {offs : Array Int} {len : Nat} {x : Int32} {tgt : Nat} (hd : decode M.2.1 pc = .ok (.tableswitch dflt lo hi offs, len)) (q1 : x.toInt < lo ∨ hi < x.toInt) (ht : (pc : Int) + dflt = (tgt : Int)) (k : J g M d bc bs tgt L st n ad E Φ Ψ) : J g M d bc bs pc L (.int x :: st) n ad E Φ Ψ := by
  intro l p e R s m args below meth c H locs cells slots ls C h1 h2 hW hS hl
  exact lv_tableOut C.1 C.2.1 hd q1 ht (k l p e R s m args below meth c H locs cells slots ls C h1 h2 hW hS hl)
theorem j_topi {x y : Int32} (h : x = y) (k : J g M d bc bs pc L (.int y :: st) n ad E Φ Ψ) : J g M d bc bs pc L (.int x :: st) n ad E Φ Ψ := h ▸ k
theorem j_topl {x y : Int64} (h : x = y) (k : J g M d bc bs pc L (.long y :: st) n ad E Φ Ψ) : J g M d bc bs pc L (.long x :: st) n ad E Φ Ψ := h ▸ k
theorem j_world {E' : Nat → va_E} (h : ∀ k, k < n → E k = E' k) (k : J g M d bc bs pc L st n ad E' Φ Ψ) : J g M d bc bs pc L st n ad E Φ Ψ := by
  intro l p e R s m args below meth c H locs cells slots ls C h1 h2 hW hS hl
  exact k l p e R s m args below meth c H locs cells slots ls C h1 h2 (hW.congr (fun _ _ => rfl) h) hS hl
theorem j_drop {n' : Nat} (h : n' ≤ n) (k : J g M d bc bs pc L st n' ad E Φ Ψ) : J g M d bc bs pc L st n ad E Φ Ψ := by
  intro l p e R s m args below meth c H locs cells slots ls C h1 h2 hW hS hl
  exact k l p e R s m args below meth c H locs cells slots ls C h1 h2 (hW.less h) hS hl
theorem j_bud {bc' bs' : Nat} (q1 : bc' ≤ bc) (q2 : bs' ≤ bs) (k : J g M d bc' bs' pc L st n ad E Φ Ψ) : J g M d bc bs pc L st n ad E Φ Ψ := by
  intro l p e R s m args below meth c H locs cells slots ls C h1 h2 hW hS hl
  exact k l p e R s m args below meth c H locs cells slots ls C (by omega) (by omega) hW hS hl
theorem j_dep {d' : Nat} (q : d' ≤ d) (k : J g M d' bc bs pc L st n ad E Φ Ψ) : J g M d bc bs pc L st n ad E Φ Ψ := by
  intro l p e R s m args below meth c H locs cells slots ls C h1 h2 hW hS hl
  obtain ⟨c1, c2, c3, c4, c5, c6, c7, c8, c9, c10, c11, c12, c13⟩ := C
  exact k l p e R s m args below meth c H locs cells slots ls ⟨c1, c2, c3, c4, c5, c6, c7, c8, c9, c10, by omega, by omega, c13⟩ h1 h2 hW hS hl
theorem j_locals {L' : List (Option Value)} (h : ∀ (i : Nat) (v : Value), L'[i]? = some (some v) → L[i]? = some (some v)) (k : J g M d bc bs pc L' st n ad E Φ Ψ) : J g M d bc bs pc L st n ad E Φ Ψ := by
  intro l p e R s m args below meth c H locs cells slots ls C h1 h2 hW hS hl
  exact k l p e R s m args below meth c H locs cells slots ls C h1 h2 hW hS (lh_sub hl h)
theorem j_post {Φ' : Option Value → jR} {Ψ' : String → jR} (q1 : ∀ v n ad E, Φ' v n ad E → Φ v n ad E) (q2 : ∀ x n ad E, Ψ' x n ad E → Ψ x n ad E) (k : J g M d bc bs pc L st n ad E Φ' Ψ') : J g M d bc bs pc L st n ad E Φ Ψ := by
  intro l p e R s m args below meth c H locs cells slots ls C h1 h2 hW hS hl T hT X
  obtain ⟨t, a1, oc, b1, b2, b3⟩ := k l p e R s m args below meth c H locs cells slots ls C h1 h2 hW hS hl T hT X
  refine ⟨t, a1, oc, b1, b2, ?_⟩
  rcases b3 with ⟨⟨⟨v, n', ad', E', e1, e2, e3⟩, hF⟩, hL⟩ | ⟨q, e0, X0, ce, L0, ⟨⟨n', ad', E', e2, e3⟩, hF⟩, hr⟩
  · exact Or.inl ⟨⟨⟨v, n', ad', E', e1, q1 _ _ _ _ e2, e3⟩, hF⟩, hL⟩
  · exact Or.inr ⟨q, e0, X0, ce, L0, ⟨⟨n', ad', E', q2 _ _ _ _ e2, e3⟩, hF⟩, hr⟩
/-- two places of the world have two addresses -/
theorem j_inj (h : (∀ i j, i < n → j < n → ad i = ad j → i = j) → J g M d bc bs pc L st n ad E Φ Ψ) : J g M d bc bs pc L st n ad E Φ Ψ := by
  intro l p e R s m args below meth c H locs cells slots ls C h1 h2 hW hS hl
  exact h (fun i j hi hj q => hW.inj hi hj q) l p e R s m args below meth c H locs cells slots ls C h1 h2 hW hS hl
theorem j_iret {v : Int32} (hd : decode M.2.1 pc = .ok (.ireturn, 1)) (hr : M.2.2.2.1 = some .int) (h : Φ (some (.int v)) n ad E) : J g M d bc bs pc L [.int v] n ad E Φ Ψ := by
  intro l p e R s m args below meth c H locs cells slots ls C h1 h2 hW hS hl
  refine vx_ret (W.widen (k := R.cells) (n := R.slots) (by omega) (by omega) ?_)
  exact W.iret C.1 C.2.1 (C.2.2.2.1.trans hr) (fun t ht hq => ⟨⟨_, _, _, _, rfl, h, by rw [ht]; exact hW⟩, hS.F ht⟩) hS.2.2 hd C.2.2.2.2.1
theorem j_lret {v : Int64} (hd : decode M.2.1 pc = .ok (.lreturn, 1)) (hr : M.2.2.2.1 = some .long) (h : Φ (some (.long v)) n ad E) : J g M d bc bs pc L [.long v] n ad E Φ Ψ := by
  intro l p e R s m args below meth c H locs cells slots ls C h1 h2 hW hS hl
  refine vx_ret (W.widen (k := R.cells) (n := R.slots) (by omega) (by omega) ?_)
  exact W.lret C.1 C.2.1 (C.2.2.2.1.trans hr) (fun t ht hq => ⟨⟨_, _, _, _, rfl, h, by rw [ht]; exact hW⟩, hS.F ht⟩) hS.2.2 hd C.2.2.2.2.1
theorem j_dret {v : UInt64} (hd : decode M.2.1 pc = .ok (.dreturn, 1)) (hr : M.2.2.2.1 = some .double) (h : Φ (some (.double v)) n ad E) : J g M d bc bs pc L [.double v] n ad E Φ Ψ := by
  intro l p e R s m args below meth c H locs cells slots ls C h1 h2 hW hS hl
  refine vx_ret (W.widen (k := R.cells) (n := R.slots) (by omega) (by omega) ?_)
  exact W.dret C.1 C.2.1 (C.2.2.2.1.trans hr) (fun t ht hq => ⟨⟨_, _, _, _, rfl, h, by rw [ht]; exact hW⟩, hS.F ht⟩) hS.2.2 hd C.2.2.2.2.1
theorem j_zret {v : Int32} (hd : decode M.2.1 pc = .ok (.ireturn, 1)) (hr : M.2.2.2.1 = some .boolean) (hn : narrow .boolean (.int v) = .int v) (h : Φ (some (.int v)) n ad E) : J g M d bc bs pc L [.int v] n ad E Φ Ψ := by
  intro l p e R s m args below meth c H locs cells slots ls C h1 h2 hW hS hl
  refine vx_ret (W.widen (k := R.cells) (n := R.slots) (by omega) (by omega) ?_)
  exact W.zret C.1 C.2.1 (C.2.2.2.1.trans hr) hn (fun t ht hq => ⟨⟨_, _, _, _, rfl, h, by rw [ht]; exact hW⟩, hS.F ht⟩) hS.2.2 hd C.2.2.2.2.1
theorem j_vret (hd : decode M.2.1 pc = .ok (.return_, 1)) (hr : M.2.2.2.1 = none) (h : Φ none n ad E) : J g M d bc bs pc L [] n ad E Φ Ψ := by
  intro l p e R s m args below meth c H locs cells slots ls C h1 h2 hW hS hl
  refine vx_ret (W.widen (k := R.cells) (n := R.slots) (by omega) (by omega) ?_)
  exact W.vret C.1 C.2.1 (C.2.2.2.1.trans hr) (fun t ht hq => ⟨⟨_, _, _, _, rfl, h, by rw [ht]; exact hW⟩, hS.F ht⟩) hS.2.2 hd C.2.2.2.2.1
/-- what a getfield or putfield of own's pool entry idx means: field i of the objects of class ci -/
def jFl (own : String) (idx : Nat) (C : String) (T : u_T) (N ci i : Nat) : Prop := vwCl[ci]? = some (C, T, N) ∧ i < N ∧ (∀ w ∈ u_ws C T N, w ∈ TT) ∧ (Cond.fieldLink own idx (T i).1 (T i).2.1 (T i).2.2.1 ∈ TT ∨ ∃ host, Cond.fieldLinkNest own idx (T i).1 (T i).2.1 (T i).2.2.1 host ∈ NW)
def jFp (T : u_T) (N : Nat) (ty0 : Nat → FieldType) : Prop := (∀ k, k < N → parseFieldDescriptor (T k).2.2.1 = some (ty0 k)) ∧ ∀ a, a < N → ∀ b, b < N → a ≠ b → (T a).2.1 ≠ (T b).2.1
theorem j_get {C0 : String} {T0 : u_T} {N0 ci i idx k : Nat} {fs : List Value} {v : Value} (f : jFl M.1.cls idx C0 T0 N0 ci i) (hd : decode M.2.1 pc = .ok (.getfield idx, 3)) (hk : k < n) (hE : E k = .inr (ci, fs)) (hv : fs[i]? = some v) (kk : J g M d bc bs (pc + 3) L (v :: st) n ad E Φ Ψ) : J g M d bc bs pc L (.ref (ad k) :: st) n ad E Φ Ψ := by
  intro l p e R s m args below meth c H locs cells slots ls C h1 h2 hW hS hl
  obtain ⟨f1, f2, f3, f4⟩ := f
  have hts := C.2.2.2.2.2.2.1
  have hK := C.2.2.2.2.2.2.2.2.2.2.2.2
  rcases f4 with f4 | ⟨host, f4⟩
  · exact va_get C.1 C.2.1 hts f3 C.2.2.2.2.2.1 hK.1 hW.1 k (by rw [jws_at hk, hE]) f1 i f2 (hts _ f4) (fun _ h9 => h9) hv hd (kk l p e R s m args below meth c H locs cells slots ls C h1 h2 hW hS hl)
  · exact va_getN C.1 C.2.1 hts f3 C.2.2.2.2.2.1 hK.1 hW.1 k (by rw [jws_at hk, hE]) f1 i f2 (va_Nw.use rfl (hK.2.2.2.2.2.2.2.2.1 _ f4)) (fun _ h9 => h9) hv hd (kk l p e R s m args below meth c H locs cells slots ls C h1 h2 hW hS hl)
theorem j_put {C0 : String} {T0 : u_T} {ty0 : Nat → FieldType} {N0 ci i idx k : Nat} {fs : List Value} {v : Value} (f : jFl M.1.cls idx C0 T0 N0 ci i) (fp : jFp T0 N0 ty0) (hd : decode M.2.1 pc = .ok (.putfield idx, 3)) (hk : k < n) (hE : E k = .inr (ci, fs)) (hfin : (T0 i).2.2.2 = false ∨ (M.1.name = "<init>" ∧ (T0 i).1 = M.1.cls ∧ Cond.fieldLink M.1.cls idx (T0 i).1 (T0 i).2.1 (T0 i).2.2.1 ∈ TT ∧ (T0 i).2.2.2 = true)) (hn : narrow (ty0 i) v = v) (hfit : fits (ty0 i) v = true) (hlen : i < fs.length) (kk : J g M d bc bs (pc + 3) L st n ad (va_up E k (.inr (ci, fs.set i v))) Φ Ψ) : J g M d bc bs pc L (v :: .ref (ad k) :: st) n ad E Φ Ψ := by
  intro l p e R s m args below meth c H locs cells slots ls C h1 h2 hW hS hl
  obtain ⟨f1, f2, f3, f4⟩ := f
  have hts := C.2.2.2.2.2.2.1
  have hK := C.2.2.2.2.2.2.2.2.2.2.2.2
  have K : ∀ (H1 : Heap) (locs1 : List Loc), va_P g.2.1 vwCl ((jws n ad E).set k (ad k, .inr (ci, fs.set i v))) H1 → va_D (jA g) ((jws n ad E).set k (ad k, .inr (ci, fs.set i v))) → va_S (jA g) s.heap H1 locs1 → W p l e R s m args below meth c H1 locs1 cells slots (vx_MQ below (jQ g Φ) (jX g Ψ) args s R.cells R.slots (jA g)) (F0 m (pc + 3) ls st) := by
    intro H1 locs1 q1 q2 q3
    rw [jws_set hk] at q1 q2
    exact kk l p e R s m args below meth c H1 locs1 cells slots ls C h1 h2 ⟨q1, q2⟩ q3 hl
  rcases hfin with hfin | ⟨hi, hdecl, hlk, hfin⟩
  · rcases f4 with f4 | ⟨host, f4⟩
    · exact va_put C.1 C.2.1 hts f3 ty0 fp.1 fp.2 C.2.2.2.2.2.1 hK.1 hW.1 hW.2 hS k (by rw [jws_at hk, hE]) f1 i f2 (hts _ f4) (fun _ h9 => h9) hfin (fp.1 i f2) hn hfit hlen hd K
    · exact va_putN C.1 C.2.1 hts f3 ty0 fp.1 fp.2 C.2.2.2.2.2.1 hK.1 hW.1 hW.2 hS k (by rw [jws_at hk, hE]) f1 i f2 (va_Nw.use rfl (hK.2.2.2.2.2.2.2.2.1 _ f4)) (fun _ h9 => h9) hfin (fp.1 i f2) hn hfit hlen hd K
  · exact va_putF C.1 C.2.1 hts f3 ty0 fp.1 fp.2 C.2.2.2.2.2.1 hK.1 hW.1 hW.2 hS k (by rw [jws_at hk, hE]) f1 i f2 (hts _ hlk) (fun _ h9 => h9) hfin (C.2.2.2.2.2.2.2.2.1.trans hi) hdecl (fp.1 i f2) hn hfit hlen hd K
/-! arrays -/
abbrev aI (g : jG) (N : Nat) (f : Nat → Int32) : va_E := .inl (g.2.2.1.1, N, .inl f)
abbrev aL (g : jG) (N : Nat) (f : Nat → Int64) : va_E := .inl (g.2.2.1.2.1, N, .inr (.inl f))
abbrev aO (g : jG) (N : Nat) (f : Nat → Option Nat) : va_E := .inl (g.2.2.1.2.2, N, .inr (.inr (.inr (.inr f))))
theorem j_iald {k N j : Nat} {f : Nat → Int32} {x : Int32} (hd : decode M.2.1 pc = .ok (.iaload, 1)) (hk : k < n) (hE : E k = aI g N f) (hN : N < 2 ^ 31) (hj : j < N) (hx : f j = x) (kk : J g M d bc bs (pc + 1) L (.int x :: st) n ad E Φ Ψ) : J g M d bc bs pc L (.int (nI j) :: .ref (ad k) :: st) n ad E Φ Ψ := by
  intro l p e R s m args below meth c H locs cells slots ls C h1 h2 hW hS hl
  have K := kk l p e R s m args below meth c H locs cells slots ls C h1 h2 hW hS hl
  rw [← hx, ← nI_clamp (show j < 2 ^ 31 by omega)] at K
  exact va_iald C.1 C.2.1 C.2.2.2.2.2.2.2.2.2.2.2.2.1 hW.1 k 0 (by rw [jws_at hk, hE]) rfl (vp_in_nI hj hN) hd K
theorem j_iast {k N j : Nat} {f : Nat → Int32} {x : Int32} (hd : decode M.2.1 pc = .ok (.iastore, 1)) (hk : k < n) (hE : E k = aI g N f) (hN : N < 2 ^ 31) (hj : j < N) (kk : J g M d bc bs (pc + 1) L st n ad (va_up E k (aI g N (upd f j x))) Φ Ψ) : J g M d bc bs pc L (.int x :: .int (nI j) :: .ref (ad k) :: st) n ad E Φ Ψ := by
  intro l p e R s m args below meth c H locs cells slots ls C h1 h2 hW hS hl
  refine va_iast C.1 C.2.1 C.2.2.2.2.2.2.2.2.2.2.2.2.1 hW.1 hW.2 hS k 0 (by rw [jws_at hk, hE]) rfl (vp_in_nI hj hN) hd (fun H1 locs1 q1 q2 q3 => ?_)
  rw [jws_set hk, nI_clamp (show j < 2 ^ 31 by omega)] at q1 q2
  exact kk l p e R s m args below meth c H1 locs1 cells slots ls C h1 h2 ⟨q1, q2⟩ q3 hl
theorem j_lald {k N j : Nat} {f : Nat → Int64} {x : Int64} (hd : decode M.2.1 pc = .ok (.laload, 1)) (hk : k < n) (hE : E k = aL g N f) (hN : N < 2 ^ 31) (hj : j < N) (hx : f j = x) (kk : J g M d bc bs (pc + 1) L (.long x :: st) n ad E Φ Ψ) : J g M d bc bs pc L (.int (nI j) :: .ref (ad k) :: st) n ad E Φ Ψ := by
  intro l p e R s m args below meth c H locs cells slots ls C h1 h2 hW hS hl
  have K := kk l p e R s m args below meth c H locs cells slots ls C h1 h2 hW hS hl
  rw [← hx, ← nI_clamp (show j < 2 ^ 31 by omega)] at K
  exact va_lald C.1 C.2.1 C.2.2.2.2.2.2.2.2.2.2.2.2.1 hW.1 k 1 (by rw [jws_at hk, hE]) rfl (vp_in_nI hj hN) hd K
theorem j_last {k N j : Nat} {f : Nat → Int64} {x : Int64} (hd : decode M.2.1 pc = .ok (.lastore, 1)) (hk : k < n) (hE : E k = aL g N f) (hN : N < 2 ^ 31) (hj : j < N) (kk : J g M d bc bs (pc + 1) L st n ad (va_up E k (aL g N (vp_updL f j x))) Φ Ψ) : J g M d bc bs pc L (.long x :: .int (nI j) :: .ref (ad k) :: st) n ad E Φ Ψ := by
  intro l p e R s m args below meth c H locs cells slots ls C h1 h2 hW hS hl
  refine va_last C.1 C.2.1 C.2.2.2.2.2.2.2.2.2.2.2.2.1 hW.1 hW.2 hS k 1 (by rw [jws_at hk, hE]) rfl (vp_in_nI hj hN) hd (fun H1 locs1 q1 q2 q3 => ?_)
  rw [jws_set hk, nI_clamp (show j < 2 ^ 31 by omega)] at q1 q2
  exact kk l p e R s m args below meth c H1 locs1 cells slots ls C h1 h2 ⟨q1, q2⟩ q3 hl
theorem j_aald {k N j : Nat} {f : Nat → Option Nat} {a : Nat} (hd : decode M.2.1 pc = .ok (.aaload, 1)) (hk : k < n) (hE : E k = aO g N f) (hN : N < 2 ^ 31) (hj : j < N) (hx : f j = some a) (kk : J g M d bc bs (pc + 1) L (.ref a :: st) n ad E Φ Ψ) : J g M d bc bs pc L (.int (nI j) :: .ref (ad k) :: st) n ad E Φ Ψ := by
  intro l p e R s m args below meth c H locs cells slots ls C h1 h2 hW hS hl
  have K := kk l p e R s m args below meth c H locs cells slots ls C h1 h2 hW hS hl
  have hlt : (nI j).toNatClampNeg < N := by rw [nI_clamp (show j < 2 ^ 31 by omega)]; exact hj
  have hin : vp_in (nI j) N := vp_in_nI hj hN
  have hc := hW.1 k _ (jws_at hk)
  rw [hE] at hc
  exact W.aald (v := .ref a) (ty := .array .int) C.1 C.2.1 (show H[ad k]? = some (vp_cell _ _) from hc) ((C.2.2.2.2.2.2.2.2.2.2.2.2.1.2 2 _ rfl).1 N (fun j => va_rf (f j))) rfl (fun q => by cases q) (by show ¬ (_ ∨ (arrV _ _ _).slots.size ≤ _); rw [arrV_size]; exact hin) (by show (arrV _ _ _).slots[_]? = _; rw [arrV_read _ _ hlt, nI_clamp (show j < 2 ^ 31 by omega), hx]; rfl) rfl rfl hd K
theorem j_alen {k : Nat} {cA : ClassId} {x : vp_A} {ty : FieldType} (t0 : Nat) (hd : decode M.2.1 pc = .ok (.arraylength, 1)) (hk : k < n) (hE : E k = .inl (cA, x)) (ht : (jT g)[t0]? = some (cA, ty)) (kk : J g M d bc bs (pc + 1) L (.int (nI x.1) :: st) n ad E Φ Ψ) : J g M d bc bs pc L (.ref (ad k) :: st) n ad E Φ Ψ := by
  intro l p e R s m args below meth c H locs cells slots ls C h1 h2 hW hS hl
  exact va_alen C.1 C.2.1 C.2.2.2.2.2.2.2.2.2.2.2.2.1 hW.1 k t0 (by rw [jws_at hk, hE]) ht rfl hd (kk l p e R s m args below meth c H locs cells slots ls C h1 h2 hW hS hl)
theorem j_slen (hd : decode M.2.1 pc = .ok (.arraylength, 1)) (kk : J g M d bc bs (pc + 1) L (.int (nI g.1.2.2.1) :: st) n ad E Φ Ψ) : J g M d bc bs pc L (.ref g.1.2.1 :: st) n ad E Φ Ψ := by
  intro l p e R s m args below meth c H locs cells slots ls C h1 h2 hW hS hl
  obtain ⟨-, -, -, -, hX, hb1, hb2, -⟩ := C.2.2.2.2.2.2.2.2.2.2.2.2
  exact va_slen C.1 C.2.1 hX (Nat.lt_of_lt_of_le hb1 hb2) (Nat.not_le.mpr hb1) hS hd (kk l p e R s m args below meth c H locs cells slots ls C h1 h2 hW hS hl)
theorem j_sald {j : Nat} (hd : decode M.2.1 pc = .ok (.iaload, 1)) (hN : g.1.2.2.1 < 2 ^ 31) (hj : j < g.1.2.2.1) (kk : J g M d bc bs (pc + 1) L (.int (g.1.2.2.2 j) :: st) n ad E Φ Ψ) : J g M d bc bs pc L (.int (nI j) :: .ref g.1.2.1 :: st) n ad E Φ Ψ := by
  intro l p e R s m args below meth c H locs cells slots ls C h1 h2 hW hS hl
  obtain ⟨-, -, -, -, hX, hb1, hb2, -⟩ := C.2.2.2.2.2.2.2.2.2.2.2.2
  have K := kk l p e R s m args below meth c H locs cells slots ls C h1 h2 hW hS hl
  rw [← nI_clamp (show j < 2 ^ 31 by omega)] at K
  exact va_sld C.1 C.2.1 hX (Nat.lt_of_lt_of_le hb1 hb2) (Nat.not_le.mpr hb1) hS (vp_in_nI hj hN) hd K
end JR
end
section
/-! The rows of J that call, make and throw. -/
section JCALL
variable {g : jG} {M M' : jM} {d bc bs d' bc' bs' pc nA idx : Nat} {L : List (Option Value)} {st rest As : List Value} {n : Nat} {ad : Nat → Nat} {E : Nat → va_E} {Φ Φ' : Option Value → jR} {Ψ Ψ' : String → jR}
/-- facts of a callee that its calls share -/
def jYm (M' : jM) (nA : Nat) : Prop := jCode M' ∈ TT ∧ Cond.initialized M'.1.cls ∈ TT ∧ (M'.1.cls ≠ "java/lang/invoke/MethodHandle" ∧ M'.1.cls ≠ "java/lang/invoke/VarHandle") ∧ (parseMethodDescriptor M'.1.desc).map (fun d => d.parameters.length) = some nA ∧ plainName M'.1.cls = true ∧ M'.2.2.1 ≤ 13
theorem j_goes {p : Program} {l : Launch} {e : Env} {R : Room} {s : State} {m : MethodId} {args : Array Value} {below : List Frame} {meth : Method} {c : Code} {H : Heap} {locs : List Loc} {cells slots mc ms : Nat} {ls : Array Slot} {st0 : List Value} {Q : State → Prop} {a : Array Value}
    (hr : vx_Run p l e R s m args below meth c H locs cells slots mc ms (F0 m pc ls st0) rest (jQ g Φ' a) (jX g Ψ') (jA g)) (hS : va_S (jA g) s.heap H locs)
    (kk : ∀ (v : Option Value) (n' : Nat) (ad' : Nat → Nat) (E' : Nat → va_E) (H1 : Heap) (locs1 : List Loc), Φ' v n' ad' E' → jWd g n' ad' E' H1 → va_S (jA g) s.heap H1 locs1 → W p l e R s m args below meth c H1 locs1 (cells + mc) (slots + ms) Q (F0 m (pc + 3) ls (v.toList ++ rest)))
    (kx : ∀ (X : String) (ce : Cell) (q : Addr) (n' : Nat) (ad' : Nat → Nat) (E' : Nat → va_E) (H1 : Heap) (locs1 : List Loc), Ψ' X n' ad' E' → jWd g n' ad' E' H1 → va_S (jA g) s.heap H1 locs1 → H1[q]? = some ce → ce.vm = .none → s.vm.findClass X = some ce.cls → vx_W p l e R s m args below meth c H1 locs1 (cells + mc) (slots + ms) Q (F0 m pc ls rest) q) :
    W p l e R s m args below meth c H locs cells slots Q (F0 m pc ls st0) := by
  intro T hT X
  rcases hr T hT X with ⟨v, st₀, t, T', L, h0, X', hL, e1, e2, ⟨⟨v2, n', ad', E', hv, hp, hb⟩, hF⟩, st⟩ | ⟨q, st₀, t, T', L, Ex, ce, h0, X', hL, e1, e2, ⟨⟨n', ad', E', hp, hb⟩, hF⟩, hce, hcv, hcl, st⟩
  · obtain rfl : v = v2 := Outcome.returned.inj hv
    obtain ⟨k1, k2, k3⟩ := vx_keep h0 e1 hS (fun _ _ h => h) (fun _ h => h) hL hF
    obtain ⟨t2, a1, b1⟩ := kk v n' ad' E' T'.heap (locs ++ L) hp (by rw [e1]; exact hb) k3 T' rfl X'
    exact ⟨t2, st t2 a1, b1⟩
  · obtain ⟨k1, k2, k3⟩ := vx_keep h0 e1 hS (fun _ _ h => h) (fun _ h => h) hL hF
    obtain ⟨t2, a1, b1⟩ := kx Ex ce q n' ad' E' T'.heap (locs ++ L) hp (by rw [e1]; exact hb) k3 (by rw [e1]; exact hce) hcv hcl T' rfl X'
    exact ⟨t2, st.trans a1, b1⟩
theorem jW_pay {s : State} {args : Array Value} (hts : ∀ w ∈ TT, w.before args s = true) (h : jCode M' ∈ TT) : ∀ w ∈ jW M', ∀ (a' : Array Value) (U : State), s.WarmedH U.vm → w.before a' U = true := fun w hw a' U hW => word_at hW (jW_good h w hw).2 (hts w (jW_good h w hw).1)
theorem jB {R : Room} {s : State} {args : Array Value} {own : String} (hts : ∀ w ∈ TT, w.before args s = true) (f : jYm M' nA) (hh : M'.2.2.2.2 = []) (hl : Cond.methodLink own idx M'.1 ∈ TT) (hd : d' + 1 ≤ R.frames) (hlo : 32 * (d' + 1) ≤ R.locals) :
    CallB R s args own idx M'.1 M'.2.1 M'.2.2.1 M'.2.2.2.1 (jW M') ({ frames := d', cells := bc', slots := bs', locals := 32 * d' }) bc' bs' nA := by
  obtain ⟨f1, f2, f3, f4, f5, f6⟩ := f
  have hc : jCode M' = .code M'.1 M'.2.1 M'.2.2.1 M'.2.2.2.1 := by unfold jCode; rw [hh]; rfl
  refine ⟨rfl, rfl, hd, by show 8 + (M'.2.2.1 + 11) + 32 * d' ≤ R.locals; omega, jW_pay hts f1, by rw [← hc]; exact List.mem_cons_self, by rw [← hc]; exact hts _ f1, hts _ f2, f3, fun sig h => ?_, hts _ hl⟩
  rw [h] at f4
  exact (Option.some.inj f4).symm
theorem jOut {p : Program} {l : Launch} {e : Env} {R : Room} {s : State} {m : MethodId} {args : Array Value} {below : List Frame} {meth : Method} {c : Code} {H : Heap} {locs : List Loc} {cells slots : Nat} {ls : Array Slot} {q : Addr} {ce : Cell} {X : String} (C : jC g M d l p R s m args meth c) (hh : M.2.2.2.2 = []) (hΨ : Ψ X n ad E) (hW : jWd g n ad E H) (hS : va_S (jA g) s.heap H locs) (e1 : H[q]? = some ce) (e2 : ce.vm = .none) (e3 : s.vm.findClass X = some ce.cls) (hc : cells ≤ R.cells) (hs : slots ≤ R.slots) :
    vx_W p l e R s m args below meth c H locs cells slots (vx_MQ below (jQ g Φ) (jX g Ψ) args s R.cells R.slots (jA g)) (F0 m pc ls rest) q := by
  refine vx_out (E := X) ?_ C.2.2.2.2.1 e1 e2 e3 (fun t ht _ => ⟨⟨n, ad, E, hΨ, by rw [ht]; exact hW⟩, hS.F ht⟩) hS.2.2 hc hs
  have := C.2.2.2.2.2.2.2.1
  rw [hh] at this
  intro x hx
  rw [this] at hx
  cases hx
/-- how a thrown class is met: passed on, or caught -/
def jMeets (g : jG) (M : jM) (d bc bs pc : Nat) (L : List (Option Value)) (Φ : Option Value → jR) (Ψ : String → jR) (X : String) (n : Nat) (ad : Nat → Nat) (E : Nat → va_E) : Prop :=
  (M.2.2.2.2 = [] ∧ Ψ X n ad E) ∨ ∃ (pre : List ExceptionTableEntry) (x : ExceptionTableEntry) (suf : List ExceptionTableEntry) (name : String), tableOf M.2.2.2.2 = pre ++ x :: suf ∧ (∀ z ∈ pre, covers z pc = false ∨ (z.catchType ≠ 0 ∧ ∃ nm : String, Cond.classLink M.1.cls z.catchType nm ∈ TT ∧ (X, nm) ∈ jNc)) ∧ covers x pc = true ∧ x.catchType ≠ 0 ∧ Cond.classLink M.1.cls x.catchType name ∈ TT ∧ Cond.castable X name ∈ NW ∧ ∀ q : Nat, J g M d bc bs x.handlerPc L [.ref q] n ad E Φ Ψ
theorem jMeet {l : Launch} {p : Program} {e : Env} {R : Room} {s : State} {m : MethodId} {args : Array Value} {below : List Frame} {meth : Method} {c : Code} {H : Heap} {locs : List Loc} {cells slots : Nat} {ls : Array Slot} {q : Addr} {ce : Cell} {X : String} (C : jC g M d l p R s m args meth c) (h1 : cells + bc ≤ R.cells) (h2 : slots + bs ≤ R.slots) (hl : lh ls M.2.2.1 L) (hΨ : jMeets g M d bc bs pc L Φ Ψ X n ad E) (hW : jWd g n ad E H) (hS : va_S (jA g) s.heap H locs) (e1 : H[q]? = some ce) (e2 : ce.vm = .none) (e3 : s.vm.findClass X = some ce.cls) :
    vx_W p l e R s m args below meth c H locs cells slots (vx_MQ below (jQ g Φ) (jX g Ψ) args s R.cells R.slots (jA g)) (F0 m pc ls rest) q := by
  rcases hΨ with ⟨hh, hΨ⟩ | ⟨pre, x, suf, name, t1, t2, t3, t4, t5, t6, t7⟩
  · exact jOut C hh hΨ hW hS e1 e2 e3 (by omega) (by omega)
  · have hts := C.2.2.2.2.2.2.1
    have hK := C.2.2.2.2.2.2.2.2.2.2.2.2
    refine vx_catch (E := X) C.2.2.2.2.2.1 pre x suf (C.2.2.2.2.2.2.2.1.trans t1) (fun z hz => ?_) t3 t4 (hts _ t5) (va_Nw.use rfl (hK.2.2.2.2.2.2.2.2.1 _ t6)) e1 e2 e3 (t7 q l p e R s m args below meth c H locs cells slots ls C h1 h2 hW hS hl)
    rcases t2 z hz with a | ⟨a, nm, b1, b2⟩
    · exact Or.inl a
    · exact Or.inr ⟨a, nm, hts _ b1, hK.2.2.2.2.2.2.2.2.2 _ b2⟩
theorem j_callV {k ci N0 : Nat} {T0 : u_T} {fs : List Value} (f : jYm M' nA) (fi : Cond.instanceMethod M'.1 ∈ TT) (fs' : Cond.selects M'.1.cls M'.1 M'.1 ∈ TT) (hh : M'.2.2.2.2 = []) (hl : Cond.methodLink M.1.cls idx M'.1 ∈ TT) (hcl : vwCl[ci]? = some (M'.1.cls, T0, N0)) (hd : decode M.2.1 pc = .ok (.invokevirtual idx, 3)) (hdep : d' + 1 ≤ d) (hk : k < n) (hE : E k = .inr (ci, fs)) (hA : As.length = nA) (hst : As.reverse ++ .ref (ad k) :: rest = st) (hcat : (rest.map fun v => v.category).sum ≤ 8) (hnL : (lg_sl (.ref (ad k) :: As)).length ≤ M'.2.2.1)
    (hJ : JE g M' d' bc' bs' (.ref (ad k) :: As) n ad E Φ' Ψ') (kk : ∀ v n' ad' E', Φ' v n' ad' E' → J g M d bc bs (pc + 3) L (v.toList ++ rest) n' ad' E' Φ Ψ) (kx : ∀ X n' ad' E', Ψ' X n' ad' E' → jMeets g M d bc bs pc L Φ Ψ X n' ad' E') : J g M d (bc' + bc) (bs' + bs) pc L st n ad E Φ Ψ := by
  intro l p e R s m args below meth c H locs cells slots ls C h1 h2 hW hS hlh
  subst hst
  have hts := C.2.2.2.2.2.2.1
  have hK := C.2.2.2.2.2.2.2.2.2.2.2.2
  have hdR := C.2.2.2.2.2.2.2.2.2.2.1
  have hlR := C.2.2.2.2.2.2.2.2.2.2.2.1
  have hM := jMet f.2.2.2.2.1 C.2.2.2.2.2.2.2.2.2.1 hnL hJ
  refine j_goes (vx_runV ⟨C.1, C.2.1, C.2.2.1, C.2.2.2.2.2.1, hts⟩ hM ⟨jB hts f hh hl (by omega) (by omega), hts _ fi, hts _ fs'⟩ ⟨jPre.blind, va_recv hK.1 hW.1 hcl (by rw [jws_at hk, hE]), fun U hU hWm => ⟨rfl, hK.to hS hU hWm, by rw [hU]; exact hW⟩⟩ rfl hA hlh.1 rfl (lv_room hcat) hd ⟨by omega, by omega⟩) hS
    (fun v n' ad' E' H1 locs1 q1 q2 q3 => kk v n' ad' E' q1 l p e R s m args below meth c H1 locs1 _ _ ls C (by omega) (by omega) q2 q3 hlh)
    (fun X ce q n' ad' E' H1 locs1 q1 q2 q3 q4 q5 q6 => jMeet C (by omega) (by omega) hlh (kx X n' ad' E' q1) q2 q3 q4 q5 q6)
theorem j_callS (f : jYm M' nA) (fi : Cond.static M'.1 ∈ TT) (hl : Cond.methodLink M.1.cls idx M'.1 ∈ TT) (hd : decode M.2.1 pc = .ok (.invokestatic idx, 3)) (hdep : d' + 1 ≤ d) (hA : As.length = nA) (hst : As.reverse ++ rest = st) (hcat : (rest.map fun v => v.category).sum ≤ 8) (hnL : (lg_sl As).length ≤ M'.2.2.1)
    (hJ : JE g M' d' bc' bs' As n ad E Φ' Ψ') (kk : ∀ v n' ad' E', Φ' v n' ad' E' → J g M d bc bs (pc + 3) L (v.toList ++ rest) n' ad' E' Φ Ψ) (kx : ∀ X n' ad' E', Ψ' X n' ad' E' → jMeets g M d bc bs pc L Φ Ψ X n' ad' E') : J g M d (bc' + bc) (bs' + bs) pc L st n ad E Φ Ψ := by
  intro l p e R s m args below meth c H locs cells slots ls C h1 h2 hW hS hlh
  subst hst
  have hts := C.2.2.2.2.2.2.1
  have hK := C.2.2.2.2.2.2.2.2.2.2.2.2
  have hdR := C.2.2.2.2.2.2.2.2.2.2.1
  have hlR := C.2.2.2.2.2.2.2.2.2.2.2.1
  have hM := jMet f.2.2.2.2.1 C.2.2.2.2.2.2.2.2.2.1 hnL hJ
  have hr : vx_Run p l e R s m args below meth c H locs cells slots bc' bs' (F0 m pc ls (As.reverse ++ rest)) rest (jQ g Φ' As.toArray) (jX g Ψ') (jA g) := by
    by_cases hh : M'.2.2.2.2.isEmpty = true
    · exact vx_runS ⟨C.1, C.2.1, C.2.2.1, C.2.2.2.2.2.1, hts⟩ hM ⟨jB hts f (List.isEmpty_iff.mp hh) hl (by omega) (by omega), hts _ fi⟩ ⟨jPre.blind, fun U hU hWm => ⟨rfl, hK.to hS hU hWm, by rw [hU]; exact hW⟩⟩ rfl hA hlh.1 rfl (lv_room hcat) hd ⟨by omega, by omega⟩
    · have hc : jCode M' = .codeWith M'.1 M'.2.1 M'.2.2.1 M'.2.2.2.1 M'.2.2.2.2 := if_neg hh
      obtain ⟨f1, f2, f3, f4, f5, f6⟩ := f
      refine vx_runSX (hh := M'.2.2.2.2) ⟨C.1, C.2.1, C.2.2.1, C.2.2.2.2.2.1, hts⟩ hM ⟨⟨rfl, rfl, by show d' + 1 ≤ R.frames; omega, by show 8 + (M'.2.2.1 + 11) + 32 * d' ≤ R.locals; omega, jW_pay hts f1, by rw [← hc]; exact List.mem_cons_self⟩, by rw [← hc]; exact hts _ f1, hts _ f2, f3, fun sig h => ?_, hts _ hl, hts _ fi⟩ ⟨jPre.blind, fun U hU hWm => ⟨rfl, hK.to hS hU hWm, by rw [hU]; exact hW⟩⟩ rfl hA hlh.1 rfl (lv_room hcat) hd ⟨by omega, by omega⟩
      rw [h] at f4
      exact (Option.some.inj f4).symm
  exact j_goes hr hS
    (fun v n' ad' E' H1 locs1 q1 q2 q3 => kk v n' ad' E' q1 l p e R s m args below meth c H1 locs1 _ _ ls C (by omega) (by omega) q2 q3 hlh)
    (fun X ce q n' ad' E' H1 locs1 q1 q2 q3 q4 q5 q6 => jMeet C (by omega) (by omega) hlh (kx X n' ad' E' q1) q2 q3 q4 q5 q6)
/-- a constructor of our own -/
theorem j_callI {k : Nat} (f : jYm M' nA) (hn1 : M'.1.name = "<init>") (hr1 : M'.2.2.2.1 = none) (fi : Cond.instanceMethod M'.1 ∈ TT) (hh : M'.2.2.2.2 = []) (hl : Cond.methodLink M.1.cls idx M'.1 ∈ TT ∨ ∃ host, Cond.methodLinkNest M.1.cls idx M'.1 host ∈ NW) (hd : decode M.2.1 pc = .ok (.invokespecial idx, 3)) (hdep : d' + 1 ≤ d) (hA : As.length = nA) (hst : As.reverse ++ .ref (ad k) :: rest = st) (hcat : (rest.map fun v => v.category).sum ≤ 8) (hnL : (lg_sl (.ref (ad k) :: As)).length ≤ M'.2.2.1)
    (hJ : JE g M' d' bc' bs' (.ref (ad k) :: As) n ad E Φ' Ψ') (kk : ∀ v n' ad' E', Φ' v n' ad' E' → J g M d bc bs (pc + 3) L (v.toList ++ rest) n' ad' E' Φ Ψ) (kx : ∀ X n' ad' E', Ψ' X n' ad' E' → jMeets g M d bc bs pc L Φ Ψ X n' ad' E') : J g M d (bc' + bc) (bs' + bs) pc L st n ad E Φ Ψ := by
  intro l p e R s m args below meth c H locs cells slots ls C h1 h2 hW hS hlh
  subst hst
  have hts := C.2.2.2.2.2.2.1
  have hK := C.2.2.2.2.2.2.2.2.2.2.2.2
  have hdR := C.2.2.2.2.2.2.2.2.2.2.1
  have hlR := C.2.2.2.2.2.2.2.2.2.2.2.1
  have hM := jMet f.2.2.2.2.1 C.2.2.2.2.2.2.2.2.2.1 hnL hJ
  have hr : vx_Run p l e R s m args below meth c H locs cells slots bc' bs' (F0 m pc ls (As.reverse ++ .ref (ad k) :: rest)) rest (jQ g Φ' (Value.ref (ad k) :: As).toArray) (jX g Ψ') (jA g) := by
    obtain ⟨f1, f2, f3, f4, f5, f6⟩ := f
    have hc : jCode M' = .code M'.1 M'.2.1 M'.2.2.1 none := by unfold jCode; rw [hh, hr1]; rfl
    have hsig : ∀ sig, parseMethodDescriptor M'.1.desc = some sig → nA = sig.parameters.length := fun sig h => by
      rw [h] at f4
      exact (Option.some.inj f4).symm
    rcases hl with hl | ⟨host, hl⟩
    · exact vx_runI ⟨C.1, C.2.1, C.2.2.1, C.2.2.2.2.2.1, hts⟩ hM ⟨⟨rfl, rfl, by show d' + 1 ≤ R.frames; omega, by show 8 + (M'.2.2.1 + 11) + 32 * d' ≤ R.locals; omega, jW_pay hts f1, by rw [← hc]; exact List.mem_cons_self, by rw [← hc]; exact hts _ f1, hts _ f2, f3, hsig, hts _ hl⟩, hn1, hts _ fi⟩ ⟨jPre.blind, fun U hU hWm => ⟨rfl, hK.to hS hU hWm, by rw [hU]; exact hW⟩⟩ rfl hA hlh.1 rfl (lv_room hcat) hd ⟨by omega, by omega⟩
    · exact vx_runIN ⟨C.1, C.2.1, C.2.2.1, C.2.2.2.2.2.1, hts⟩ hM ⟨⟨⟨rfl, rfl, by show d' + 1 ≤ R.frames; omega, by show 8 + (M'.2.2.1 + 11) + 32 * d' ≤ R.locals; omega, jW_pay hts f1, by rw [← hc]; exact List.mem_cons_self⟩, by rw [← hc]; exact hts _ f1, hts _ f2, f3, hsig, va_Nw.use rfl (hK.2.2.2.2.2.2.2.2.1 _ hl)⟩, hn1, hts _ fi⟩ ⟨jPre.blind, fun U hU hWm => ⟨rfl, hK.to hS hU hWm, by rw [hU]; exact hW⟩⟩ rfl hA hlh.1 rfl (lv_room hcat) hd ⟨by omega, by omega⟩
  exact j_goes hr hS
    (fun v n' ad' E' H1 locs1 q1 q2 q3 => kk v n' ad' E' q1 l p e R s m args below meth c H1 locs1 _ _ ls C (by omega) (by omega) q2 q3 hlh)
    (fun X ce q n' ad' E' H1 locs1 q1 q2 q3 q4 q5 q6 => jMeet C (by omega) (by omega) hlh (kx X n' ad' E' q1) q2 q3 q4 q5 q6)
/-- Object.<init> -/
theorem j_objInit {a : Nat} (f1 : Cond.methodLink M.1.cls idx Lib.objectInit ∈ TT) (f2 : Cond.instanceMethod Lib.objectInit ∈ TT) (f3 : Cond.code Lib.objectInit ⟨#[0xb1]⟩ 1 none ∈ TT) (hd : decode M.2.1 pc = .ok (.invokespecial idx, 3)) (hdep : 1 ≤ d) (hcat : (rest.map fun v => v.category).sum ≤ 8) (kk : J g M d bc bs (pc + 3) L rest n ad E Φ Ψ) : J g M d bc bs pc L (.ref a :: rest) n ad E Φ Ψ := by
  intro l p e R s m args below meth c H locs cells slots ls C h1 h2 hW hS hlh
  have hts := C.2.2.2.2.2.2.1
  have hdR := C.2.2.2.2.2.2.2.2.2.2.1
  have hlR := C.2.2.2.2.2.2.2.2.2.2.2.1
  exact W.objInit C.1 C.2.1 C.2.2.2.2.2.1 (hts _ f1) (hts _ f2) (hts _ f3) rfl (hlh.1.trans C.2.2.1.symm) rfl hd (by omega) (by show 2 * 0 + _ + 12 ≤ _; omega) (kk l p e R s m args below meth c H locs cells slots ls C h1 h2 hW hS hlh)
/-! Math -/
theorem j_mmax {x y : Int32} (f1 : Cond.methodLink M.1.cls idx Lib.Math.max.name ∈ TT) (f2 : Cond.static Lib.Math.max.name ∈ TT) (f3 : Cond.initialized "java/lang/Math" ∈ TT) (f4 : Cond.code Lib.Math.max.name Lib.Math.max.code 2 (some .int) ∈ TT) (hd : decode M.2.1 pc = .ok (.invokestatic idx, 3)) (hdep : 1 ≤ d) (hcat : (rest.map fun v => v.category).sum ≤ 8) (kk : J g M d bc bs (pc + 3) L (.int (if x < y then y else x) :: rest) n ad E Φ Ψ) : J g M d bc bs pc L (.int y :: .int x :: rest) n ad E Φ Ψ := by
  intro l p e R s m args below meth c H locs cells slots ls C h1 h2 hW hS hlh
  have hts := C.2.2.2.2.2.2.1
  have hdR := C.2.2.2.2.2.2.2.2.2.2.1
  have hlR := C.2.2.2.2.2.2.2.2.2.2.2.1
  exact va_mmax C.1 C.2.1 (C.2.2.1.trans hlh.1.symm) C.2.2.2.2.2.1 (hts _ f1) (hts _ f2) (hts _ f3) (hts _ f4) (by omega) (by omega) (by omega) (by omega) hd (kk l p e R s m args below meth c H locs cells slots ls C h1 h2 hW hS hlh)
theorem j_mmin {x y : Int32} (f1 : Cond.methodLink M.1.cls idx Lib.Math.min.name ∈ TT) (f2 : Cond.static Lib.Math.min.name ∈ TT) (f3 : Cond.initialized "java/lang/Math" ∈ TT) (f4 : Cond.code Lib.Math.min.name Lib.Math.min.code 2 (some .int) ∈ TT) (hd : decode M.2.1 pc = .ok (.invokestatic idx, 3)) (hdep : 1 ≤ d) (hcat : (rest.map fun v => v.category).sum ≤ 8) (kk : J g M d bc bs (pc + 3) L (.int (if y < x then y else x) :: rest) n ad E Φ Ψ) : J g M d bc bs pc L (.int y :: .int x :: rest) n ad E Φ Ψ := by
  intro l p e R s m args below meth c H locs cells slots ls C h1 h2 hW hS hlh
  have hts := C.2.2.2.2.2.2.1
  have hdR := C.2.2.2.2.2.2.2.2.2.2.1
  have hlR := C.2.2.2.2.2.2.2.2.2.2.2.1
  exact va_mmin C.1 C.2.1 (C.2.2.1.trans hlh.1.symm) C.2.2.2.2.2.1 (hts _ f1) (hts _ f2) (hts _ f3) (hts _ f4) (by omega) (by omega) (by omega) (by omega) hd (kk l p e R s m args below meth c H locs cells slots ls C h1 h2 hW hS hlh)
theorem j_mmaxl {x y : Int64} (f1 : Cond.methodLink M.1.cls idx Lib.MathLoose.max_long.x ∈ TT) (f2 : Cond.static Lib.MathLoose.max_long.x ∈ TT) (f3 : Cond.initialized "java/lang/Math" ∈ TT) (f4 : Cond.code Lib.MathLoose.max_long.x Lib.MathLoose.max_long.code 4 (some .long) ∈ TT) (hd : decode M.2.1 pc = .ok (.invokestatic idx, 3)) (hdep : 1 ≤ d) (hcat : (rest.map fun v => v.category).sum ≤ 8) (kk : J g M d bc bs (pc + 3) L (.long (if y < x then x else y) :: rest) n ad E Φ Ψ) : J g M d bc bs pc L (.long y :: .long x :: rest) n ad E Φ Ψ := by
  intro l p e R s m args below meth c H locs cells slots ls C h1 h2 hW hS hlh
  have hts := C.2.2.2.2.2.2.1
  have hdR := C.2.2.2.2.2.2.2.2.2.2.1
  have hlR := C.2.2.2.2.2.2.2.2.2.2.2.1
  exact va_mmax_long C.1 C.2.1 (C.2.2.1.trans hlh.1.symm) C.2.2.2.2.2.1 (hts _ f1) (hts _ f2) (hts _ f3) (hts _ f4) (by omega) (by omega) (by omega) (by omega) hd (kk l p e R s m args below meth c H locs cells slots ls C h1 h2 hW hS hlh)
/-- System.arraycopy between int rows -/
theorem j_copy {k0 k1 n0 n1 sp dp cnt : Nat} {f0 f1 : Nat → Int32} (w1 : Cond.methodLink M.1.cls idx arraycopyName ∈ TT) (w2 : Cond.native arraycopyName ∈ TT) (w3 : Cond.static arraycopyName ∈ TT) (w4 : Cond.initialized "java/lang/System" ∈ TT) (hd : decode M.2.1 pc = .ok (.invokestatic idx, 3)) (hdep : 2 ≤ d) (hcat : (rest.map fun v => v.category).sum ≤ 8) (hk0 : k0 < n) (hE0 : E k0 = aI g n0 f0) (hk1 : k1 < n) (hE1 : E k1 = aI g n1 f1) (q0 : n0 < 2 ^ 31) (q1 : n1 < 2 ^ 31) (q2 : sp + cnt ≤ n0) (q3 : dp + cnt ≤ n1)
    (kk : J g M d bc bs (pc + 3) L rest n ad (va_up E k1 (aI g n1 (va_cpy f0 f1 sp dp cnt))) Φ Ψ) : J g M d bc bs pc L (.int (nI cnt) :: .int (nI dp) :: .ref (ad k1) :: .int (nI sp) :: .ref (ad k0) :: rest) n ad E Φ Ψ := by
  intro l p e R s m args below meth c H locs cells slots ls C h1 h2 hW hS hlh
  have hts := C.2.2.2.2.2.2.1
  have hdR := C.2.2.2.2.2.2.2.2.2.2.1
  have hlR := C.2.2.2.2.2.2.2.2.2.2.2.1
  have hK := C.2.2.2.2.2.2.2.2.2.2.2.2
  have hfw : nativeFrameWords "java/lang/System" "arraycopy" 5 ≤ 40 := by decide +kernel
  refine va_copyi C.1 C.2.1 (C.2.2.1.trans hlh.1.symm) C.2.2.2.2.2.1 (hts _ w1) (hts _ w2) (hts _ w3) (hts _ w4) hK.1 hW.1 hW.2 hS k0 k1 0 0 (by rw [jws_at hk0, hE0]) (by rw [jws_at hk1, hE1]) rfl rfl rfl (nI_pos (by omega)) (nI_pos (by omega)) (nI_pos (by omega)) (by rw [nI_clamp (by omega), nI_clamp (by omega)]; exact q2) (by rw [nI_clamp (by omega), nI_clamp (by omega)]; exact q3) (fun i _ => rfl) (by omega) (by omega) hd (fun H1 locs1 r1 r2 r3 => ?_)
  rw [nI_clamp (by omega), nI_clamp (by omega), nI_clamp (by omega), jws_set hk1] at r1 r2
  exact kk l p e R s m args below meth c H1 locs1 cells slots ls C h1 h2 ⟨r1, r2⟩ r3 hlh
/-! new -/
theorem j_new {C0 : String} {T0 : u_T} {ty0 : Nat → FieldType} {N0 ci : Nat} {fs : List Value} (hc : vwCl[ci]? = some (C0, T0, N0)) (f3 : ∀ w ∈ u_ws C0 T0 N0, w ∈ TT) (fp : jFp T0 N0 ty0) (w1 : Cond.classLink M.1.cls idx C0 ∈ TT) (w2 : Cond.instantiable C0 N0 ∈ TT) (w3 : Cond.initialized C0 ∈ TT) (hfs : ∀ j, j < N0 → defaultValue (ty0 j) = vp_V fs j) (hd : decode M.2.1 pc = .ok (.new idx, 3))
    (kk : ∀ ad' : Nat → Nat, (∀ i, i < n → ad' i = ad i) → J g M d bc bs (pc + 3) L (.ref (ad' n) :: st) (n + 1) ad' (va_up E n (.inr (ci, fs))) Φ Ψ) : J g M d (bc + 1) (bs + N0) pc L st n ad E Φ Ψ := by
  intro l p e R s m args below meth c H locs cells slots ls C h1 h2 hW hS hlh
  have hts := C.2.2.2.2.2.2.1
  have hK := C.2.2.2.2.2.2.2.2.2.2.2.2
  refine va_new C.1 C.2.1 hts f3 ty0 fp.1 C.2.2.2.2.2.1 (hts _ w1) (hts _ w2) (hts _ w3) hK.1 hW.1 hW.2 hS (fun q hq => Nat.le_trans hK.2.2.2.2.2.2.1 hq) hc hfs (by omega) (by omega) hd (fun q H1 r1 r2 r3 => ?_)
  rw [jws_push] at r1 r2
  have K := kk (va_up ad n q) (fun i hi => if_neg (Nat.ne_of_lt hi)) l p e R s m args below meth c H1 locs (cells + 1) (slots + N0) ls C (by omega) (by omega) ⟨r1, r2⟩ r3 hlh
  rwa [show va_up ad n q n = q from if_pos rfl] at K
theorem jRAi {s : State} {a b : ClassId} (h1 : va_RA s a .int) (h2 : va_RA s b .int) : a = b := Option.some.inj (Eq.trans (Eq.symm h1) h2)
theorem jRAl {s : State} {a b : ClassId} (h1 : va_RA s a .long) (h2 : va_RA s b .long) : a = b := Option.some.inj (Eq.trans (Eq.symm h1) h2)
theorem jRAo {s : State} {a b : ClassId} (h1 : va_RA s a (.array .int)) (h2 : va_RA s b (.array .int)) : a = b := Option.some.inj (Eq.trans (Eq.symm h1) h2)
theorem j_newI {N : Nat} (w1 : Cond.arrayClass .int ∈ TT) (hN : N ≤ 100000) (hd : decode M.2.1 pc = .ok (.newarray .int, 2)) (kk : ∀ ad' : Nat → Nat, (∀ i, i < n → ad' i = ad i) → J g M d bc bs (pc + 2) L (.ref (ad' n) :: st) (n + 1) ad' (va_up E n (aI g N (fun _ => 0))) Φ Ψ) : J g M d (bc + 1) (bs + N) pc L (.int (nI N) :: st) n ad E Φ Ψ := by
  intro l p e R s m args below meth c H locs cells slots ls C h1 h2 hW hS hlh
  have hts := C.2.2.2.2.2.2.1
  have hK := C.2.2.2.2.2.2.2.2.2.2.2.2
  refine va_newa (atype := .int) (ty := .int) (a0 := (N, .inl (fun _ => 0))) C.1 C.2.1 (hts _ w1) rfl hK.1 hW.1 hW.2 hS (fun q hq => Nat.le_trans hK.2.2.2.2.2.2.1 hq) (fun _ => rfl) (nI_pos (by omega)) (nI_clamp (by omega)) (by show N * 4 ≤ _; omega) (by omega) (by omega) hd (fun q cA H1 r0 r1 r2 r3 => ?_)
  obtain rfl : cA = g.2.2.1.1 := jRAi (r0.2 3 (cA, .int) rfl).2 (hK.1.2 0 _ rfl).2
  rw [jws_push] at r1 r2
  have K := kk (va_up ad n q) (fun i hi => if_neg (Nat.ne_of_lt hi)) l p e R s m args below meth c H1 locs (cells + 1) (slots + N) ls C (by omega) (by omega) ⟨r1, r2⟩ r3 hlh
  rwa [show va_up ad n q n = q from if_pos rfl] at K
theorem j_newL {N : Nat} (w1 : Cond.arrayClass .long ∈ TT) (hN : N ≤ 100000) (hd : decode M.2.1 pc = .ok (.newarray .long, 2)) (kk : ∀ ad' : Nat → Nat, (∀ i, i < n → ad' i = ad i) → J g M d bc bs (pc + 2) L (.ref (ad' n) :: st) (n + 1) ad' (va_up E n (aL g N (fun _ => 0))) Φ Ψ) : J g M d (bc + 1) (bs + N) pc L (.int (nI N) :: st) n ad E Φ Ψ := by
  intro l p e R s m args below meth c H locs cells slots ls C h1 h2 hW hS hlh
  have hts := C.2.2.2.2.2.2.1
  have hK := C.2.2.2.2.2.2.2.2.2.2.2.2
  refine va_newa (atype := .long) (ty := .long) (a0 := (N, .inr (.inl (fun _ => 0)))) C.1 C.2.1 (hts _ w1) rfl hK.1 hW.1 hW.2 hS (fun q hq => Nat.le_trans hK.2.2.2.2.2.2.1 hq) (fun _ => rfl) (nI_pos (by omega)) (nI_clamp (by omega)) (by show N * 8 ≤ _; omega) (by omega) (by omega) hd (fun q cA H1 r0 r1 r2 r3 => ?_)
  obtain rfl : cA = g.2.2.1.2.1 := jRAl (r0.2 3 (cA, .long) rfl).2 (hK.1.2 1 _ rfl).2
  rw [jws_push] at r1 r2
  have K := kk (va_up ad n q) (fun i hi => if_neg (Nat.ne_of_lt hi)) l p e R s m args below meth c H1 locs (cells + 1) (slots + N) ls C (by omega) (by omega) ⟨r1, r2⟩ r3 hlh
  rwa [show va_up ad n q n = q from if_pos rfl] at K
/-- new int[N][K] -/
theorem j_newII {N K0 : Nat} (w1 : Cond.arrayClass .int ∈ TT) (w2 : Cond.classLink M.1.cls idx "[[I" ∈ TT) (hN : N ≤ 1000) (hK0 : K0 ≤ 1000) (hd : decode M.2.1 pc = .ok (.multianewarray idx 2, 4)) (kk : ∀ ad' : Nat → Nat, (∀ i, i < n → ad' i = ad i) → J g M d bc bs (pc + 4) L (.ref (ad' n) :: st) (n + 1 + N) ad' (fun k => if k < n then E k else if k = n then aO g N (fun i => if i < N then some (ad' (n + 1 + i)) else none) else aI g K0 (fun _ => 0)) Φ Ψ) : J g M d (bc + 1 + N) (bs + N + N * K0) pc L (.int (nI K0) :: .int (nI N) :: st) n ad E Φ Ψ := by
  intro l p e R s m args below meth c H locs cells slots ls C h1 h2 hW hS hlh
  have hts := C.2.2.2.2.2.2.1
  have hK := C.2.2.2.2.2.2.2.2.2.2.2.2
  have hP0 : va_P g.2.1 vwCl (jws n ad E ++ va_pl [] (fun _ => aI g K0 (fun _ => 0))) H := by
    show va_P g.2.1 vwCl (jws n ad E ++ []) H
    rw [List.append_nil]; exact hW.1
  have hD0 : va_D (jA g) (jws n ad E ++ va_pl [] (fun _ => aI g K0 (fun _ => 0))) := by
    show va_D (jA g) (jws n ad E ++ [])
    rw [List.append_nil]; exact hW.2
  refine va_mna (ty := .int) (cy := g.2.2.1.1) (z := (K0, .inl (fun _ => 0))) (N' := N) (K' := K0) C.1 C.2.1 C.2.2.2.2.2.1 (hts _ w2) hK.2.2.2.2.2.2.2.1 (hts _ w1) (hK.1.2 0 _ rfl).2 hK.1 hP0 hD0 hS (fun q hq => Nat.le_trans hK.2.2.2.2.2.2.1 hq) (nI_pos (by omega)) (nI_pos (by omega)) (nI_clamp (by omega)) (nI_clamp (by omega)) (by omega) (by show K0 * 4 ≤ _; omega) (by omega) rfl rfl (by omega) (by omega) (fun c => arrV_new c K0 (.int 0)) hd (fun q r cA H1 rinj rnot r0 r1 r2 r3 => ?_)
  obtain rfl : cA = g.2.2.1.2.2 := jRAo (r0.2 3 (cA, .array .int) rfl).2 (hK.1.2 2 _ rfl).2
  have hX : (jws n ad E ++ [(q, .inl (g.2.2.1.2.2, N, .inr (.inr (.inr (.inr (fun i => if i < N then some (r i) else none))))))]) ++ va_pl ([] ++ (List.range N).map r) (vr_up (fun _ => aI g K0 (fun _ => 0)) ((List.range N).map r) (.inl (g.2.2.1.1, (K0, .inl (fun _ => 0))))) = jws (n + 1 + N) (fun k => if k < n then ad k else if k = n then q else r (k - (n + 1))) (fun k => if k < n then E k else if k = n then aO g N (fun i => if i < N then some (r i) else none) else aI g K0 (fun _ => 0)) := by
    unfold jws
    rw [List.range_add, List.range_succ, List.map_append, List.map_append, List.map_map]
    congr 1
    · congr 1
      · apply List.map_congr_left
        intro k hk
        have := List.mem_range.mp hk
        simp [this]
      · simp
    · unfold va_pl
      rw [List.nil_append, List.map_map]
      apply List.map_congr_left
      intro k hk
      have hk' := List.mem_range.mp hk
      have e1 : ¬ (n + 1 + k < n) := by omega
      have e2 : ¬ (n + 1 + k = n) := by omega
      have e3 : n + 1 + k - (n + 1) = k := by omega
      simp only [Function.comp, e1, e2, e3, if_false]
      rw [vr_up_in (List.mem_map.mpr ⟨k, hk, rfl⟩)]
  rw [hX] at r1 r2
  have K := kk (fun k => if k < n then ad k else if k = n then q else r (k - (n + 1))) (fun i hi => if_pos hi) l p e R s m args below meth c H1 locs (cells + 1 + N) (slots + N + N * K0) ls C (by omega) (by omega) (jWd.congr ⟨r1, r2⟩ (fun _ _ => rfl) (fun k hk => ?_)) r3 hlh
  · simpa using K
  · have : (fun i => if i < N then some (r i) else none) = (fun i => if i < N then some (if n + 1 + i < n then ad (n + 1 + i) else if n + 1 + i = n then q else r (n + 1 + i - (n + 1))) else none) := by
      funext i
      have e1 : ¬ (n + 1 + i < n) := by omega
      have e2 : ¬ (n + 1 + i = n) := by omega
      have e3 : n + 1 + i - (n + 1) = i := by omega
      simp only [e1, e2, e3, if_false]
    rw [this]
/-! throw new X("text") -/
def jTh (own : String) (ik is ic : Nat) (cls text : String) (names : List String) : Prop := own = RX3 ∧ Bundle.fit cls = true ∧ (∀ x ∈ names, Bundle.fit x = true) ∧ Cond.classLink own ik cls ∈ TT ∧ Cond.initialized cls ∈ TT ∧ (is, text) ∈ jStr ∧ (∀ w ∈ vx_atS own ic cls names, w ∈ TT ∨ w ∈ NW) ∧ (∀ w ∈ Cond.classLink own ik cls :: Cond.initialized cls :: vx_atS own ic cls names, vx_ot w = true) ∧ names.length = 2
theorem jTh_hat {s : State} {args : Array Value} {own cls text : String} {ik is ic : Nat} {names : List String} (hts : ∀ w ∈ TT, w.before args s = true) (hK : jK g s) (f : jTh own ik is ic cls text names) : ∀ w ∈ vx_atS own ic cls names, w.before args s = true := fun w hw => by
  rcases f.2.2.2.2.2.2.1 w hw with h | h
  · exact hts w h
  · exact va_Nw.use (jNw_tab (List.mem_filter.mp h).2) (hK.2.2.2.2.2.2.2.2.1 w h)
theorem j_throw {ik is ic : Nat} {cls text : String} {names : List String} (f : jTh M.1.cls ik is ic cls text names) (hh : M.2.2.2.2 = []) (d0 : decode M.2.1 pc = .ok (.new ik, 3)) (d3 : decode M.2.1 (pc + 3) = .ok (.dup, 1)) (d4 : decode M.2.1 (pc + 4) = .ok (.ldc is, 2)) (d6 : decode M.2.1 (pc + 6) = .ok (.invokespecial ic, 3)) (d9 : decode M.2.1 (pc + 9) = .ok (.athrow, 1)) (hdep : 6 ≤ d) (hcat : (st.map fun v => v.category).sum ≤ 8) (h : Ψ cls n ad E) : J g M d (bc + 1) (bs + 6) pc L st n ad E Φ Ψ := by
  intro l p e R s m args below meth c H locs cells slots ls C h1 h2 hW hS hlh
  have hts := C.2.2.2.2.2.2.1
  have hK := C.2.2.2.2.2.2.2.2.2.2.2.2
  have hdR := C.2.2.2.2.2.2.2.2.2.2.1
  have hlR := C.2.2.2.2.2.2.2.2.2.2.2.1
  have hlen := f.2.2.2.2.2.2.2.2
  refine vx_throwS (cls := cls) (text := text) (names := names) (sa := g.2.2.2 is) C.1 C.2.1 C.2.2.2.2.2.2.2.2.2.1 C.2.2.2.2.2.1 f.2.1 f.2.2.1 (hts _ f.2.2.2.1) (hts _ f.2.2.2.2.1) (by rw [f.1]; exact hK.2.1 _ f.2.2.2.2.2.1) (jTh_hat hts hK f) f.2.2.2.2.2.2.2.1 hK.2.2.1 hK.2.2.2.1 hS (hlh.1.trans C.2.2.1.symm) d0 d3 d4 d6 d9 ?_ (by omega) (by rw [hlen]; omega) (by omega) (by omega) C.2.2.2.2.1 (fun t _ hz hq => ⟨⟨n, ad, E, h, ?_⟩, ?_⟩) hS.2.2 (by omega) (by omega)
  · have := C.2.2.2.2.2.2.2.1
    rw [hh] at this
    intro x hx
    rw [this] at hx
    cases hx
  · exact ⟨hW.1.kept (fun k q hk => hq q.1 ((hW.1 k q hk).lt)), hW.2⟩
  · exact ⟨Nat.le_trans hS.1 hz, fun q h1 h2 => (hq q (Nat.lt_of_lt_of_le h1 hS.1)).trans (hS.2.1 q h1 h2)⟩
theorem j_throwW {ik is ic : Nat} {cls text : String} {names : List String} (f : jTh M.1.cls ik is ic cls text names) (hh : M.2.2.2.2 = []) (d0 : decode M.2.1 pc = .ok (.new ik, 3)) (d3 : decode M.2.1 (pc + 3) = .ok (.dup, 1)) (d4 : decode M.2.1 (pc + 4) = .ok (.ldc_w is, 3)) (d6 : decode M.2.1 (pc + 7) = .ok (.invokespecial ic, 3)) (d9 : decode M.2.1 (pc + 10) = .ok (.athrow, 1)) (hdep : 6 ≤ d) (hcat : (st.map fun v => v.category).sum ≤ 8) (h : Ψ cls n ad E) : J g M d (bc + 1) (bs + 6) pc L st n ad E Φ Ψ := by
  intro l p e R s m args below meth c H locs cells slots ls C h1 h2 hW hS hlh
  have hts := C.2.2.2.2.2.2.1
  have hK := C.2.2.2.2.2.2.2.2.2.2.2.2
  have hdR := C.2.2.2.2.2.2.2.2.2.2.1
  have hlR := C.2.2.2.2.2.2.2.2.2.2.2.1
  have hlen := f.2.2.2.2.2.2.2.2
  refine vx_throwSW (cls := cls) (text := text) (names := names) (sa := g.2.2.2 is) C.1 C.2.1 C.2.2.2.2.2.2.2.2.2.1 C.2.2.2.2.2.1 f.2.1 f.2.2.1 (hts _ f.2.2.2.1) (hts _ f.2.2.2.2.1) (by rw [f.1]; exact hK.2.1 _ f.2.2.2.2.2.1) (jTh_hat hts hK f) f.2.2.2.2.2.2.2.1 hK.2.2.1 hK.2.2.2.1 hS (hlh.1.trans C.2.2.1.symm) d0 d3 d4 d6 d9 ?_ (by omega) (by rw [hlen]; omega) (by omega) (by omega) C.2.2.2.2.1 (fun t _ hz hq => ⟨⟨n, ad, E, h, ?_⟩, ?_⟩) hS.2.2 (by omega) (by omega)
  · have := C.2.2.2.2.2.2.2.1
    rw [hh] at this
    intro x hx
    rw [this] at hx
    cases hx
  · exact ⟨hW.1.kept (fun k q hk => hq q.1 ((hW.1 k q hk).lt)), hW.2⟩
  · exact ⟨Nat.le_trans hS.1 hz, fun q h1 h2 => (hq q (Nat.lt_of_lt_of_le h1 hS.1)).trans (hS.2.1 q h1 h2)⟩
end JCALL
end
section
/-! By program: the methods, what links to what. -/
abbrev mX0_init : jM := (yX0_init, cX0_init, 1, none, [])
theorem cm_X0_init : jYm mX0_init 0 := ⟨tt_of 126 (by decide +kernel) rfl, tt_of 52 (by decide +kernel) rfl, ⟨by decide +kernel, by decide +kernel⟩, by decide +kernel, by decide +kernel, by decide +kernel⟩
theorem ci_X0_init : Cond.instanceMethod mX0_init.1 ∈ TT := tt_of 125 (by decide +kernel) rfl
abbrev mX0_countIn : jM := (yX0_countIn, cX0_countIn, 4, none, [])
theorem cm_X0_countIn : jYm mX0_countIn 1 := ⟨tt_of 245 (by decide +kernel) rfl, tt_of 52 (by decide +kernel) rfl, ⟨by decide +kernel, by decide +kernel⟩, by decide +kernel, by decide +kernel, by decide +kernel⟩
theorem ci_X0_countIn : Cond.instanceMethod mX0_countIn.1 ∈ TT := tt_of 243 (by decide +kernel) rfl
theorem cs_X0_countIn : Cond.selects mX0_countIn.1.cls mX0_countIn.1 mX0_countIn.1 ∈ TT := tt_of 244 (by decide +kernel) rfl
abbrev mX0_countOf : jM := (yX0_countOf, cX0_countOf, 7, (some .int), [])
theorem cm_X0_countOf : jYm mX0_countOf 3 := ⟨tt_of 248 (by decide +kernel) rfl, tt_of 52 (by decide +kernel) rfl, ⟨by decide +kernel, by decide +kernel⟩, by decide +kernel, by decide +kernel, by decide +kernel⟩
theorem ct_X0_countOf : Cond.static mX0_countOf.1 ∈ TT := tt_of 247 (by decide +kernel) rfl
abbrev mX0_outWithSwap : jM := (yX0_outWithSwap, cX0_outWithSwap, 6, (some .int), [])
theorem cm_X0_outWithSwap : jYm mX0_outWithSwap 2 := ⟨tt_of 253 (by decide +kernel) rfl, tt_of 52 (by decide +kernel) rfl, ⟨by decide +kernel, by decide +kernel⟩, by decide +kernel, by decide +kernel, by decide +kernel⟩
theorem ci_X0_outWithSwap : Cond.instanceMethod mX0_outWithSwap.1 ∈ TT := tt_of 251 (by decide +kernel) rfl
theorem cs_X0_outWithSwap : Cond.selects mX0_outWithSwap.1.cls mX0_outWithSwap.1 mX0_outWithSwap.1 ∈ TT := tt_of 252 (by decide +kernel) rfl
abbrev mX0_swapped : jM := (yX0_swapped, cX0_swapped, 3, (some .int), [])
theorem cm_X0_swapped : jYm mX0_swapped 3 := ⟨tt_of 256 (by decide +kernel) rfl, tt_of 52 (by decide +kernel) rfl, ⟨by decide +kernel, by decide +kernel⟩, by decide +kernel, by decide +kernel, by decide +kernel⟩
theorem ct_X0_swapped : Cond.static mX0_swapped.1 ∈ TT := tt_of 255 (by decide +kernel) rfl
abbrev mX0_bestPartner : jM := (yX0_bestPartner, cX0_bestPartner, 6, (some .int), [])
theorem cm_X0_bestPartner : jYm mX0_bestPartner 1 := ⟨tt_of 449 (by decide +kernel) rfl, tt_of 52 (by decide +kernel) rfl, ⟨by decide +kernel, by decide +kernel⟩, by decide +kernel, by decide +kernel, by decide +kernel⟩
theorem ci_X0_bestPartner : Cond.instanceMethod mX0_bestPartner.1 ∈ TT := tt_of 447 (by decide +kernel) rfl
theorem cs_X0_bestPartner : Cond.selects mX0_bestPartner.1.cls mX0_bestPartner.1 mX0_bestPartner.1 ∈ TT := tt_of 448 (by decide +kernel) rfl
abbrev mX1_init : jM := (yX1_init, cX1_init, 2, none, [])
theorem cm_X1_init : jYm mX1_init 1 := ⟨tt_of 104 (by decide +kernel) rfl, tt_of 50 (by decide +kernel) rfl, ⟨by decide +kernel, by decide +kernel⟩, by decide +kernel, by decide +kernel, by decide +kernel⟩
theorem ci_X1_init : Cond.instanceMethod mX1_init.1 ∈ TT := tt_of 103 (by decide +kernel) rfl
abbrev mX1_clearAll : jM := (yX1_clearAll, cX1_clearAll, 1, none, [])
theorem cm_X1_clearAll : jYm mX1_clearAll 0 := ⟨tt_of 499 (by decide +kernel) rfl, tt_of 50 (by decide +kernel) rfl, ⟨by decide +kernel, by decide +kernel⟩, by decide +kernel, by decide +kernel, by decide +kernel⟩
theorem ci_X1_clearAll : Cond.instanceMethod mX1_clearAll.1 ∈ TT := tt_of 497 (by decide +kernel) rfl
theorem cs_X1_clearAll : Cond.selects mX1_clearAll.1.cls mX1_clearAll.1 mX1_clearAll.1 ∈ TT := tt_of 498 (by decide +kernel) rfl
abbrev mX1_row : jM := (yX1_row, cX1_row, 3, (some (.array .int)), [])
theorem cm_X1_row : jYm mX1_row 1 := ⟨tt_of 483 (by decide +kernel) rfl, tt_of 50 (by decide +kernel) rfl, ⟨by decide +kernel, by decide +kernel⟩, by decide +kernel, by decide +kernel, by decide +kernel⟩
theorem ci_X1_row : Cond.instanceMethod mX1_row.1 ∈ TT := tt_of 481 (by decide +kernel) rfl
theorem cs_X1_row : Cond.selects mX1_row.1.cls mX1_row.1 mX1_row.1 ∈ TT := tt_of 482 (by decide +kernel) rfl
abbrev mX1_addLatest : jM := (yX1_addLatest, cX1_addLatest, 4, none, [])
theorem cm_X1_addLatest : jYm mX1_addLatest 1 := ⟨tt_of 519 (by decide +kernel) rfl, tt_of 50 (by decide +kernel) rfl, ⟨by decide +kernel, by decide +kernel⟩, by decide +kernel, by decide +kernel, by decide +kernel⟩
theorem ci_X1_addLatest : Cond.instanceMethod mX1_addLatest.1 ∈ TT := tt_of 517 (by decide +kernel) rfl
theorem cs_X1_addLatest : Cond.selects mX1_addLatest.1.cls mX1_addLatest.1 mX1_addLatest.1 ∈ TT := tt_of 518 (by decide +kernel) rfl
abbrev mX1_dropLatest : jM := (yX1_dropLatest, cX1_dropLatest, 1, none, [])
theorem cm_X1_dropLatest : jYm mX1_dropLatest 0 := ⟨tt_of 623 (by decide +kernel) rfl, tt_of 50 (by decide +kernel) rfl, ⟨by decide +kernel, by decide +kernel⟩, by decide +kernel, by decide +kernel, by decide +kernel⟩
theorem ci_X1_dropLatest : Cond.instanceMethod mX1_dropLatest.1 ∈ TT := tt_of 621 (by decide +kernel) rfl
theorem cs_X1_dropLatest : Cond.selects mX1_dropLatest.1.cls mX1_dropLatest.1 mX1_dropLatest.1 ∈ TT := tt_of 622 (by decide +kernel) rfl
abbrev mX2_init : jM := (yX2_init, cX2_init, 1, none, [])
theorem cm_X2_init : jYm mX2_init 0 := ⟨tt_of 73 (by decide +kernel) rfl, tt_of 49 (by decide +kernel) rfl, ⟨by decide +kernel, by decide +kernel⟩, by decide +kernel, by decide +kernel, by decide +kernel⟩
theorem ci_X2_init : Cond.instanceMethod mX2_init.1 ∈ TT := tt_of 72 (by decide +kernel) rfl
abbrev mX2_layDry : jM := (yX2_layDry, cX2_layDry, 4, none, [])
theorem cm_X2_layDry : jYm mX2_layDry 2 := ⟨tt_of 139 (by decide +kernel) rfl, tt_of 49 (by decide +kernel) rfl, ⟨by decide +kernel, by decide +kernel⟩, by decide +kernel, by decide +kernel, by decide +kernel⟩
theorem ci_X2_layDry : Cond.instanceMethod mX2_layDry.1 ∈ TT := tt_of 137 (by decide +kernel) rfl
theorem cs_X2_layDry : Cond.selects mX2_layDry.1.cls mX2_layDry.1 mX2_layDry.1 ∈ TT := tt_of 138 (by decide +kernel) rfl
abbrev mX2_copyFrom : jM := (yX2_copyFrom, cX2_copyFrom, 3, none, [])
theorem cm_X2_copyFrom : jYm mX2_copyFrom 1 := ⟨tt_of 264 (by decide +kernel) rfl, tt_of 49 (by decide +kernel) rfl, ⟨by decide +kernel, by decide +kernel⟩, by decide +kernel, by decide +kernel, by decide +kernel⟩
theorem ci_X2_copyFrom : Cond.instanceMethod mX2_copyFrom.1 ∈ TT := tt_of 262 (by decide +kernel) rfl
theorem cs_X2_copyFrom : Cond.selects mX2_copyFrom.1.cls mX2_copyFrom.1 mX2_copyFrom.1 ∈ TT := tt_of 263 (by decide +kernel) rfl
abbrev mX2_puddleCount : jM := (yX2_puddleCount, cX2_puddleCount, 1, (some .int), [])
theorem cm_X2_puddleCount : jYm mX2_puddleCount 0 := ⟨tt_of 225 (by decide +kernel) rfl, tt_of 49 (by decide +kernel) rfl, ⟨by decide +kernel, by decide +kernel⟩, by decide +kernel, by decide +kernel, by decide +kernel⟩
theorem ci_X2_puddleCount : Cond.instanceMethod mX2_puddleCount.1 ∈ TT := tt_of 223 (by decide +kernel) rfl
theorem cs_X2_puddleCount : Cond.selects mX2_puddleCount.1.cls mX2_puddleCount.1 mX2_puddleCount.1 ∈ TT := tt_of 224 (by decide +kernel) rfl
abbrev mX2_numberOf : jM := (yX2_numberOf, cX2_numberOf, 3, (some .int), [])
theorem cm_X2_numberOf : jYm mX2_numberOf 2 := ⟨tt_of 213 (by decide +kernel) rfl, tt_of 49 (by decide +kernel) rfl, ⟨by decide +kernel, by decide +kernel⟩, by decide +kernel, by decide +kernel, by decide +kernel⟩
theorem ci_X2_numberOf : Cond.instanceMethod mX2_numberOf.1 ∈ TT := tt_of 211 (by decide +kernel) rfl
theorem cs_X2_numberOf : Cond.selects mX2_numberOf.1.cls mX2_numberOf.1 mX2_numberOf.1 ∈ TT := tt_of 212 (by decide +kernel) rfl
abbrev mX2_level : jM := (yX2_level, cX2_level, 3, (some .int), [])
theorem cm_X2_level : jYm mX2_level 2 := ⟨tt_of 209 (by decide +kernel) rfl, tt_of 49 (by decide +kernel) rfl, ⟨by decide +kernel, by decide +kernel⟩, by decide +kernel, by decide +kernel, by decide +kernel⟩
theorem ci_X2_level : Cond.instanceMethod mX2_level.1 ∈ TT := tt_of 207 (by decide +kernel) rfl
theorem cs_X2_level : Cond.selects mX2_level.1.cls mX2_level.1 mX2_level.1 ∈ TT := tt_of 208 (by decide +kernel) rfl
abbrev mX2_add : jM := (yX2_add, cX2_add, 4, none, [])
theorem cm_X2_add : jYm mX2_add 3 := ⟨tt_of 525 (by decide +kernel) rfl, tt_of 49 (by decide +kernel) rfl, ⟨by decide +kernel, by decide +kernel⟩, by decide +kernel, by decide +kernel, by decide +kernel⟩
theorem ci_X2_add : Cond.instanceMethod mX2_add.1 ∈ TT := tt_of 523 (by decide +kernel) rfl
theorem cs_X2_add : Cond.selects mX2_add.1.cls mX2_add.1 mX2_add.1 ∈ TT := tt_of 524 (by decide +kernel) rfl
abbrev mX2_exchange : jM := (yX2_exchange, cX2_exchange, 4, none, [])
theorem cm_X2_exchange : jYm mX2_exchange 2 := ⟨tt_of 553 (by decide +kernel) rfl, tt_of 49 (by decide +kernel) rfl, ⟨by decide +kernel, by decide +kernel⟩, by decide +kernel, by decide +kernel, by decide +kernel⟩
theorem ci_X2_exchange : Cond.instanceMethod mX2_exchange.1 ∈ TT := tt_of 551 (by decide +kernel) rfl
theorem cs_X2_exchange : Cond.selects mX2_exchange.1.cls mX2_exchange.1 mX2_exchange.1 ∈ TT := tt_of 552 (by decide +kernel) rfl
abbrev mX2_changedFrom : jM := (yX2_changedFrom, cX2_changedFrom, 4, (some .int), [])
theorem cm_X2_changedFrom : jYm mX2_changedFrom 1 := ⟨tt_of 487 (by decide +kernel) rfl, tt_of 49 (by decide +kernel) rfl, ⟨by decide +kernel, by decide +kernel⟩, by decide +kernel, by decide +kernel, by decide +kernel⟩
theorem ci_X2_changedFrom : Cond.instanceMethod mX2_changedFrom.1 ∈ TT := tt_of 485 (by decide +kernel) rfl
theorem cs_X2_changedFrom : Cond.selects mX2_changedFrom.1.cls mX2_changedFrom.1 mX2_changedFrom.1 ∈ TT := tt_of 486 (by decide +kernel) rfl
abbrev mX2_takeFrom : jM := (yX2_takeFrom, cX2_takeFrom, 4, (some .int), [])
theorem cm_X2_takeFrom : jYm mX2_takeFrom 1 := ⟨tt_of 610 (by decide +kernel) rfl, tt_of 49 (by decide +kernel) rfl, ⟨by decide +kernel, by decide +kernel⟩, by decide +kernel, by decide +kernel, by decide +kernel⟩
theorem ci_X2_takeFrom : Cond.instanceMethod mX2_takeFrom.1 ∈ TT := tt_of 608 (by decide +kernel) rfl
theorem cs_X2_takeFrom : Cond.selects mX2_takeFrom.1.cls mX2_takeFrom.1 mX2_takeFrom.1 ∈ TT := tt_of 609 (by decide +kernel) rfl
abbrev mX2_alikeSteps : jM := (yX2_alikeSteps, cX2_alikeSteps, 5, (some .int), [])
theorem cm_X2_alikeSteps : jYm mX2_alikeSteps 2 := ⟨tt_of 548 (by decide +kernel) rfl, tt_of 49 (by decide +kernel) rfl, ⟨by decide +kernel, by decide +kernel⟩, by decide +kernel, by decide +kernel, by decide +kernel⟩
theorem ci_X2_alikeSteps : Cond.instanceMethod mX2_alikeSteps.1 ∈ TT := tt_of 546 (by decide +kernel) rfl
theorem cs_X2_alikeSteps : Cond.selects mX2_alikeSteps.1.cls mX2_alikeSteps.1 mX2_alikeSteps.1 ∈ TT := tt_of 547 (by decide +kernel) rfl
abbrev mX2_partSum : jM := (yX2_partSum, cX2_partSum, 9, (some .long), [])
theorem cm_X2_partSum : jYm mX2_partSum 4 := ⟨tt_of 205 (by decide +kernel) rfl, tt_of 49 (by decide +kernel) rfl, ⟨by decide +kernel, by decide +kernel⟩, by decide +kernel, by decide +kernel, by decide +kernel⟩
theorem ci_X2_partSum : Cond.instanceMethod mX2_partSum.1 ∈ TT := tt_of 203 (by decide +kernel) rfl
theorem cs_X2_partSum : Cond.selects mX2_partSum.1.cls mX2_partSum.1 mX2_partSum.1 ∈ TT := tt_of 204 (by decide +kernel) rfl
abbrev mX2_wholeSum : jM := (yX2_wholeSum, cX2_wholeSum, 1, (some .long), [])
theorem cm_X2_wholeSum : jYm mX2_wholeSum 0 := ⟨tt_of 201 (by decide +kernel) rfl, tt_of 49 (by decide +kernel) rfl, ⟨by decide +kernel, by decide +kernel⟩, by decide +kernel, by decide +kernel, by decide +kernel⟩
theorem ci_X2_wholeSum : Cond.instanceMethod mX2_wholeSum.1 ∈ TT := tt_of 199 (by decide +kernel) rfl
theorem cs_X2_wholeSum : Cond.selects mX2_wholeSum.1.cls mX2_wholeSum.1 mX2_wholeSum.1 ∈ TT := tt_of 200 (by decide +kernel) rfl
abbrev mX2_dryInPart : jM := (yX2_dryInPart, cX2_dryInPart, 8, (some .int), [])
theorem cm_X2_dryInPart : jYm mX2_dryInPart 4 := ⟨tt_of 233 (by decide +kernel) rfl, tt_of 49 (by decide +kernel) rfl, ⟨by decide +kernel, by decide +kernel⟩, by decide +kernel, by decide +kernel, by decide +kernel⟩
theorem ci_X2_dryInPart : Cond.instanceMethod mX2_dryInPart.1 ∈ TT := tt_of 231 (by decide +kernel) rfl
theorem cs_X2_dryInPart : Cond.selects mX2_dryInPart.1.cls mX2_dryInPart.1 mX2_dryInPart.1 ∈ TT := tt_of 232 (by decide +kernel) rfl
abbrev mX2_upToLevel : jM := (yX2_upToLevel, cX2_upToLevel, 4, (some .int), [])
theorem cm_X2_upToLevel : jYm mX2_upToLevel 1 := ⟨tt_of 221 (by decide +kernel) rfl, tt_of 49 (by decide +kernel) rfl, ⟨by decide +kernel, by decide +kernel⟩, by decide +kernel, by decide +kernel, by decide +kernel⟩
theorem ci_X2_upToLevel : Cond.instanceMethod mX2_upToLevel.1 ∈ TT := tt_of 219 (by decide +kernel) rfl
theorem cs_X2_upToLevel : Cond.selects mX2_upToLevel.1.cls mX2_upToLevel.1 mX2_upToLevel.1 ∈ TT := tt_of 220 (by decide +kernel) rfl
abbrev mX2_allDry : jM := (yX2_allDry, cX2_allDry, 1, (some .boolean), [])
theorem cm_X2_allDry : jYm mX2_allDry 0 := ⟨tt_of 268 (by decide +kernel) rfl, tt_of 49 (by decide +kernel) rfl, ⟨by decide +kernel, by decide +kernel⟩, by decide +kernel, by decide +kernel, by decide +kernel⟩
theorem ci_X2_allDry : Cond.instanceMethod mX2_allDry.1 ∈ TT := tt_of 266 (by decide +kernel) rfl
theorem cs_X2_allDry : Cond.selects mX2_allDry.1.cls mX2_allDry.1 mX2_allDry.1 ∈ TT := tt_of 267 (by decide +kernel) rfl
abbrev mX2_flowFor : jM := (yX2_flowFor, cX2_flowFor, 4, (some .int), [])
theorem cm_X2_flowFor : jYm mX2_flowFor 1 := ⟨tt_of 386 (by decide +kernel) rfl, tt_of 49 (by decide +kernel) rfl, ⟨by decide +kernel, by decide +kernel⟩, by decide +kernel, by decide +kernel, by decide +kernel⟩
theorem ci_X2_flowFor : Cond.instanceMethod mX2_flowFor.1 ∈ TT := tt_of 384 (by decide +kernel) rfl
theorem cs_X2_flowFor : Cond.selects mX2_flowFor.1.cls mX2_flowFor.1 mX2_flowFor.1 ∈ TT := tt_of 385 (by decide +kernel) rfl
abbrev mX2_flowOneHour : jM := (yX2_flowOneHour, cX2_flowOneHour, 1, (some .int), [])
theorem cm_X2_flowOneHour : jYm mX2_flowOneHour 0 := ⟨tt_of 273 (by decide +kernel) rfl, tt_of 49 (by decide +kernel) rfl, ⟨by decide +kernel, by decide +kernel⟩, by decide +kernel, by decide +kernel, by decide +kernel⟩
theorem ci_X2_flowOneHour : Cond.instanceMethod mX2_flowOneHour.1 ∈ TT := tt_of 271 (by decide +kernel) rfl
theorem cs_X2_flowOneHour : Cond.selects mX2_flowOneHour.1.cls mX2_flowOneHour.1 mX2_flowOneHour.1 ∈ TT := tt_of 272 (by decide +kernel) rfl
abbrev mX2_dryUp : jM := (yX2_dryUp, cX2_dryUp, 4, none, [])
theorem cm_X2_dryUp : jYm mX2_dryUp 0 := ⟨tt_of 277 (by decide +kernel) rfl, tt_of 49 (by decide +kernel) rfl, ⟨by decide +kernel, by decide +kernel⟩, by decide +kernel, by decide +kernel, by decide +kernel⟩
theorem ci_X2_dryUp : Cond.instanceMethod mX2_dryUp.1 ∈ TT := tt_of 276 (by decide +kernel) rfl
theorem cs_X2_dryUp : Cond.selects mX2_dryUp.1.cls mX2_dryUp.1 mX2_dryUp.1 ∈ TT := tt_of 0 (by decide +kernel) rfl
abbrev mX2_runDown : jM := (yX2_runDown, cX2_runDown, 6, (some .int), [])
theorem cm_X2_runDown : jYm mX2_runDown 0 := ⟨tt_of 281 (by decide +kernel) rfl, tt_of 49 (by decide +kernel) rfl, ⟨by decide +kernel, by decide +kernel⟩, by decide +kernel, by decide +kernel, by decide +kernel⟩
theorem ci_X2_runDown : Cond.instanceMethod mX2_runDown.1 ∈ TT := tt_of 280 (by decide +kernel) rfl
theorem cs_X2_runDown : Cond.selects mX2_runDown.1.cls mX2_runDown.1 mX2_runDown.1 ∈ TT := tt_of 1 (by decide +kernel) rfl
abbrev mX3_init : jM := (yX3_init, cX3_init, 1, none, [])
theorem cm_X3_init : jYm mX3_init 0 := ⟨tt_of 65 (by decide +kernel) rfl, tt_of 48 (by decide +kernel) rfl, ⟨by decide +kernel, by decide +kernel⟩, by decide +kernel, by decide +kernel, by decide +kernel⟩
theorem ci_X3_init : Cond.instanceMethod mX3_init.1 ∈ TT := tt_of 64 (by decide +kernel) rfl
abbrev mX3_lay : jM := (yX3_lay, cX3_lay, 3, (some .int), [])
theorem cm_X3_lay : jYm mX3_lay 2 := ⟨tt_of 495 (by decide +kernel) rfl, tt_of 48 (by decide +kernel) rfl, ⟨by decide +kernel, by decide +kernel⟩, by decide +kernel, by decide +kernel, by decide +kernel⟩
theorem ci_X3_lay : Cond.instanceMethod mX3_lay.1 ∈ TT := tt_of 493 (by decide +kernel) rfl
theorem cs_X3_lay : Cond.selects mX3_lay.1.cls mX3_lay.1 mX3_lay.1 ∈ TT := tt_of 494 (by decide +kernel) rfl
abbrev mX3_rain : jM := (yX3_rain, cX3_rain, 4, (some .int), [])
theorem cm_X3_rain : jYm mX3_rain 3 := ⟨tt_of 507 (by decide +kernel) rfl, tt_of 48 (by decide +kernel) rfl, ⟨by decide +kernel, by decide +kernel⟩, by decide +kernel, by decide +kernel, by decide +kernel⟩
theorem ci_X3_rain : Cond.instanceMethod mX3_rain.1 ∈ TT := tt_of 505 (by decide +kernel) rfl
theorem cs_X3_rain : Cond.selects mX3_rain.1.cls mX3_rain.1 mX3_rain.1 ∈ TT := tt_of 506 (by decide +kernel) rfl
abbrev mX3_splash : jM := (yX3_splash, cX3_splash, 8, (some .int), [])
theorem cm_X3_splash : jYm mX3_splash 5 := ⟨tt_of 532 (by decide +kernel) rfl, tt_of 48 (by decide +kernel) rfl, ⟨by decide +kernel, by decide +kernel⟩, by decide +kernel, by decide +kernel, by decide +kernel⟩
theorem ci_X3_splash : Cond.instanceMethod mX3_splash.1 ∈ TT := tt_of 530 (by decide +kernel) rfl
theorem cs_X3_splash : Cond.selects mX3_splash.1.cls mX3_splash.1 mX3_splash.1 ∈ TT := tt_of 531 (by decide +kernel) rfl
abbrev mX3_swap : jM := (yX3_swap, cX3_swap, 5, (some .int), [])
theorem cm_X3_swap : jYm mX3_swap 2 := ⟨tt_of 544 (by decide +kernel) rfl, tt_of 48 (by decide +kernel) rfl, ⟨by decide +kernel, by decide +kernel⟩, by decide +kernel, by decide +kernel, by decide +kernel⟩
theorem ci_X3_swap : Cond.instanceMethod mX3_swap.1 ∈ TT := tt_of 542 (by decide +kernel) rfl
theorem cs_X3_swap : Cond.selects mX3_swap.1.cls mX3_swap.1 mX3_swap.1 ∈ TT := tt_of 543 (by decide +kernel) rfl
abbrev mX3_turn : jM := (yX3_turn, cX3_turn, 4, (some .int), [])
theorem cm_X3_turn : jYm mX3_turn 1 := ⟨tt_of 560 (by decide +kernel) rfl, tt_of 48 (by decide +kernel) rfl, ⟨by decide +kernel, by decide +kernel⟩, by decide +kernel, by decide +kernel, by decide +kernel⟩
theorem ci_X3_turn : Cond.instanceMethod mX3_turn.1 ∈ TT := tt_of 558 (by decide +kernel) rfl
theorem cs_X3_turn : Cond.selects mX3_turn.1.cls mX3_turn.1 mX3_turn.1 ∈ TT := tt_of 559 (by decide +kernel) rfl
abbrev mX3_bail : jM := (yX3_bail, cX3_bail, 7, (some .int), [])
theorem cm_X3_bail : jYm mX3_bail 2 := ⟨tt_of 567 (by decide +kernel) rfl, tt_of 48 (by decide +kernel) rfl, ⟨by decide +kernel, by decide +kernel⟩, by decide +kernel, by decide +kernel, by decide +kernel⟩
theorem ci_X3_bail : Cond.instanceMethod mX3_bail.1 ∈ TT := tt_of 565 (by decide +kernel) rfl
theorem cs_X3_bail : Cond.selects mX3_bail.1.cls mX3_bail.1 mX3_bail.1 ∈ TT := tt_of 566 (by decide +kernel) rfl
abbrev mX3_passHours : jM := (yX3_passHours, cX3_passHours, 3, (some .int), [])
theorem cm_X3_passHours : jYm mX3_passHours 1 := ⟨tt_of 575 (by decide +kernel) rfl, tt_of 48 (by decide +kernel) rfl, ⟨by decide +kernel, by decide +kernel⟩, by decide +kernel, by decide +kernel, by decide +kernel⟩
theorem ci_X3_passHours : Cond.instanceMethod mX3_passHours.1 ∈ TT := tt_of 573 (by decide +kernel) rfl
theorem cs_X3_passHours : Cond.selects mX3_passHours.1.cls mX3_passHours.1 mX3_passHours.1 ∈ TT := tt_of 574 (by decide +kernel) rfl
abbrev mX3_mark : jM := (yX3_mark, cX3_mark, 1, (some .int), [])
theorem cm_X3_mark : jYm mX3_mark 0 := ⟨tt_of 583 (by decide +kernel) rfl, tt_of 48 (by decide +kernel) rfl, ⟨by decide +kernel, by decide +kernel⟩, by decide +kernel, by decide +kernel, by decide +kernel⟩
theorem ci_X3_mark : Cond.instanceMethod mX3_mark.1 ∈ TT := tt_of 581 (by decide +kernel) rfl
theorem cs_X3_mark : Cond.selects mX3_mark.1.cls mX3_mark.1 mX3_mark.1 ∈ TT := tt_of 582 (by decide +kernel) rfl
abbrev mX3_back : jM := (yX3_back, cX3_back, 2, (some .int), [])
theorem cm_X3_back : jYm mX3_back 1 := ⟨tt_of 606 (by decide +kernel) rfl, tt_of 48 (by decide +kernel) rfl, ⟨by decide +kernel, by decide +kernel⟩, by decide +kernel, by decide +kernel, by decide +kernel⟩
theorem ci_X3_back : Cond.instanceMethod mX3_back.1 ∈ TT := tt_of 604 (by decide +kernel) rfl
theorem cs_X3_back : Cond.selects mX3_back.1.cls mX3_back.1 mX3_back.1 ∈ TT := tt_of 605 (by decide +kernel) rfl
abbrev mX3_undo : jM := (yX3_undo, cX3_undo, 2, (some .int), [])
theorem cm_X3_undo : jYm mX3_undo 0 := ⟨tt_of 618 (by decide +kernel) rfl, tt_of 48 (by decide +kernel) rfl, ⟨by decide +kernel, by decide +kernel⟩, by decide +kernel, by decide +kernel, by decide +kernel⟩
theorem ci_X3_undo : Cond.instanceMethod mX3_undo.1 ∈ TT := tt_of 616 (by decide +kernel) rfl
theorem cs_X3_undo : Cond.selects mX3_undo.1.cls mX3_undo.1 mX3_undo.1 ∈ TT := tt_of 617 (by decide +kernel) rfl
abbrev mX3_setSun : jM := (yX3_setSun, cX3_setSun, 3, (some .int), [])
theorem cm_X3_setSun : jYm mX3_setSun 1 := ⟨tt_of 630 (by decide +kernel) rfl, tt_of 48 (by decide +kernel) rfl, ⟨by decide +kernel, by decide +kernel⟩, by decide +kernel, by decide +kernel, by decide +kernel⟩
theorem ci_X3_setSun : Cond.instanceMethod mX3_setSun.1 ∈ TT := tt_of 628 (by decide +kernel) rfl
theorem cs_X3_setSun : Cond.selects mX3_setSun.1.cls mX3_setSun.1 mX3_setSun.1 ∈ TT := tt_of 629 (by decide +kernel) rfl
abbrev mX3_setEdge : jM := (yX3_setEdge, cX3_setEdge, 4, (some .int), [])
theorem cm_X3_setEdge : jYm mX3_setEdge 2 := ⟨tt_of 637 (by decide +kernel) rfl, tt_of 48 (by decide +kernel) rfl, ⟨by decide +kernel, by decide +kernel⟩, by decide +kernel, by decide +kernel, by decide +kernel⟩
theorem ci_X3_setEdge : Cond.instanceMethod mX3_setEdge.1 ∈ TT := tt_of 635 (by decide +kernel) rfl
theorem cs_X3_setEdge : Cond.selects mX3_setEdge.1.cls mX3_setEdge.1 mX3_setEdge.1 ∈ TT := tt_of 636 (by decide +kernel) rfl
abbrev mX3_flights : jM := (yX3_flights, cX3_flights, 1, (some .int), [])
theorem cm_X3_flights : jYm mX3_flights 0 := ⟨tt_of 169 (by decide +kernel) rfl, tt_of 48 (by decide +kernel) rfl, ⟨by decide +kernel, by decide +kernel⟩, by decide +kernel, by decide +kernel, by decide +kernel⟩
theorem ci_X3_flights : Cond.instanceMethod mX3_flights.1 ∈ TT := tt_of 167 (by decide +kernel) rfl
theorem cs_X3_flights : Cond.selects mX3_flights.1.cls mX3_flights.1 mX3_flights.1 ∈ TT := tt_of 168 (by decide +kernel) rfl
abbrev mX3_steps : jM := (yX3_steps, cX3_steps, 1, (some .int), [])
theorem cm_X3_steps : jYm mX3_steps 0 := ⟨tt_of 173 (by decide +kernel) rfl, tt_of 48 (by decide +kernel) rfl, ⟨by decide +kernel, by decide +kernel⟩, by decide +kernel, by decide +kernel, by decide +kernel⟩
theorem ci_X3_steps : Cond.instanceMethod mX3_steps.1 ∈ TT := tt_of 171 (by decide +kernel) rfl
theorem cs_X3_steps : Cond.selects mX3_steps.1.cls mX3_steps.1 mX3_steps.1 ∈ TT := tt_of 172 (by decide +kernel) rfl
abbrev mX3_hours : jM := (yX3_hours, cX3_hours, 1, (some .int), [])
theorem cm_X3_hours : jYm mX3_hours 0 := ⟨tt_of 177 (by decide +kernel) rfl, tt_of 48 (by decide +kernel) rfl, ⟨by decide +kernel, by decide +kernel⟩, by decide +kernel, by decide +kernel, by decide +kernel⟩
theorem ci_X3_hours : Cond.instanceMethod mX3_hours.1 ∈ TT := tt_of 175 (by decide +kernel) rfl
theorem cs_X3_hours : Cond.selects mX3_hours.1.cls mX3_hours.1 mX3_hours.1 ∈ TT := tt_of 176 (by decide +kernel) rfl
abbrev mX3_sun : jM := (yX3_sun, cX3_sun, 1, (some .int), [])
theorem cm_X3_sun : jYm mX3_sun 0 := ⟨tt_of 181 (by decide +kernel) rfl, tt_of 48 (by decide +kernel) rfl, ⟨by decide +kernel, by decide +kernel⟩, by decide +kernel, by decide +kernel, by decide +kernel⟩
theorem ci_X3_sun : Cond.instanceMethod mX3_sun.1 ∈ TT := tt_of 179 (by decide +kernel) rfl
theorem cs_X3_sun : Cond.selects mX3_sun.1.cls mX3_sun.1 mX3_sun.1 ∈ TT := tt_of 180 (by decide +kernel) rfl
abbrev mX3_edgeOf : jM := (yX3_edgeOf, cX3_edgeOf, 2, (some .int), [])
theorem cm_X3_edgeOf : jYm mX3_edgeOf 1 := ⟨tt_of 459 (by decide +kernel) rfl, tt_of 48 (by decide +kernel) rfl, ⟨by decide +kernel, by decide +kernel⟩, by decide +kernel, by decide +kernel, by decide +kernel⟩
theorem ci_X3_edgeOf : Cond.instanceMethod mX3_edgeOf.1 ∈ TT := tt_of 457 (by decide +kernel) rfl
theorem cs_X3_edgeOf : Cond.selects mX3_edgeOf.1.cls mX3_edgeOf.1 mX3_edgeOf.1 ∈ TT := tt_of 458 (by decide +kernel) rfl
abbrev mX3_marks : jM := (yX3_marks, cX3_marks, 1, (some .int), [])
theorem cm_X3_marks : jYm mX3_marks 0 := ⟨tt_of 185 (by decide +kernel) rfl, tt_of 48 (by decide +kernel) rfl, ⟨by decide +kernel, by decide +kernel⟩, by decide +kernel, by decide +kernel, by decide +kernel⟩
theorem ci_X3_marks : Cond.instanceMethod mX3_marks.1 ∈ TT := tt_of 183 (by decide +kernel) rfl
theorem cs_X3_marks : Cond.selects mX3_marks.1.cls mX3_marks.1 mX3_marks.1 ∈ TT := tt_of 184 (by decide +kernel) rfl
abbrev mX3_deeds : jM := (yX3_deeds, cX3_deeds, 1, (some .int), [])
theorem cm_X3_deeds : jYm mX3_deeds 0 := ⟨tt_of 189 (by decide +kernel) rfl, tt_of 48 (by decide +kernel) rfl, ⟨by decide +kernel, by decide +kernel⟩, by decide +kernel, by decide +kernel, by decide +kernel⟩
theorem ci_X3_deeds : Cond.instanceMethod mX3_deeds.1 ∈ TT := tt_of 187 (by decide +kernel) rfl
theorem cs_X3_deeds : Cond.selects mX3_deeds.1.cls mX3_deeds.1 mX3_deeds.1 ∈ TT := tt_of 188 (by decide +kernel) rfl
abbrev mX3_gone : jM := (yX3_gone, cX3_gone, 1, (some .long), [])
theorem cm_X3_gone : jYm mX3_gone 0 := ⟨tt_of 193 (by decide +kernel) rfl, tt_of 48 (by decide +kernel) rfl, ⟨by decide +kernel, by decide +kernel⟩, by decide +kernel, by decide +kernel, by decide +kernel⟩
theorem ci_X3_gone : Cond.instanceMethod mX3_gone.1 ∈ TT := tt_of 191 (by decide +kernel) rfl
theorem cs_X3_gone : Cond.selects mX3_gone.1.cls mX3_gone.1 mX3_gone.1 ∈ TT := tt_of 192 (by decide +kernel) rfl
abbrev mX3_levelAt : jM := (yX3_levelAt, cX3_levelAt, 3, (some .int), [])
theorem cm_X3_levelAt : jYm mX3_levelAt 2 := ⟨tt_of 648 (by decide +kernel) rfl, tt_of 48 (by decide +kernel) rfl, ⟨by decide +kernel, by decide +kernel⟩, by decide +kernel, by decide +kernel, by decide +kernel⟩
theorem ci_X3_levelAt : Cond.instanceMethod mX3_levelAt.1 ∈ TT := tt_of 646 (by decide +kernel) rfl
theorem cs_X3_levelAt : Cond.selects mX3_levelAt.1.cls mX3_levelAt.1 mX3_levelAt.1 ∈ TT := tt_of 647 (by decide +kernel) rfl
abbrev mX3_sumOf : jM := (yX3_sumOf, cX3_sumOf, 5, (some .long), [])
theorem cm_X3_sumOf : jYm mX3_sumOf 4 := ⟨tt_of 655 (by decide +kernel) rfl, tt_of 48 (by decide +kernel) rfl, ⟨by decide +kernel, by decide +kernel⟩, by decide +kernel, by decide +kernel, by decide +kernel⟩
theorem ci_X3_sumOf : Cond.instanceMethod mX3_sumOf.1 ∈ TT := tt_of 653 (by decide +kernel) rfl
theorem cs_X3_sumOf : Cond.selects mX3_sumOf.1.cls mX3_sumOf.1 mX3_sumOf.1 ∈ TT := tt_of 654 (by decide +kernel) rfl
abbrev mX3_sumTo : jM := (yX3_sumTo, cX3_sumTo, 3, (some .long), [])
theorem cm_X3_sumTo : jYm mX3_sumTo 2 := ⟨tt_of 662 (by decide +kernel) rfl, tt_of 48 (by decide +kernel) rfl, ⟨by decide +kernel, by decide +kernel⟩, by decide +kernel, by decide +kernel, by decide +kernel⟩
theorem ci_X3_sumTo : Cond.instanceMethod mX3_sumTo.1 ∈ TT := tt_of 660 (by decide +kernel) rfl
theorem cs_X3_sumTo : Cond.selects mX3_sumTo.1.cls mX3_sumTo.1 mX3_sumTo.1 ∈ TT := tt_of 661 (by decide +kernel) rfl
abbrev mX3_flightSum : jM := (yX3_flightSum, cX3_flightSum, 2, (some .long), [])
theorem cm_X3_flightSum : jYm mX3_flightSum 1 := ⟨tt_of 403 (by decide +kernel) rfl, tt_of 48 (by decide +kernel) rfl, ⟨by decide +kernel, by decide +kernel⟩, by decide +kernel, by decide +kernel, by decide +kernel⟩
theorem ci_X3_flightSum : Cond.instanceMethod mX3_flightSum.1 ∈ TT := tt_of 401 (by decide +kernel) rfl
theorem cs_X3_flightSum : Cond.selects mX3_flightSum.1.cls mX3_flightSum.1 mX3_flightSum.1 ∈ TT := tt_of 402 (by decide +kernel) rfl
abbrev mX3_stepSum : jM := (yX3_stepSum, cX3_stepSum, 2, (some .long), [])
theorem cm_X3_stepSum : jYm mX3_stepSum 1 := ⟨tt_of 467 (by decide +kernel) rfl, tt_of 48 (by decide +kernel) rfl, ⟨by decide +kernel, by decide +kernel⟩, by decide +kernel, by decide +kernel, by decide +kernel⟩
theorem ci_X3_stepSum : Cond.instanceMethod mX3_stepSum.1 ∈ TT := tt_of 465 (by decide +kernel) rfl
theorem cs_X3_stepSum : Cond.selects mX3_stepSum.1.cls mX3_stepSum.1 mX3_stepSum.1 ∈ TT := tt_of 466 (by decide +kernel) rfl
abbrev mX3_total : jM := (yX3_total, cX3_total, 1, (some .long), [])
theorem cm_X3_total : jYm mX3_total 0 := ⟨tt_of 197 (by decide +kernel) rfl, tt_of 48 (by decide +kernel) rfl, ⟨by decide +kernel, by decide +kernel⟩, by decide +kernel, by decide +kernel, by decide +kernel⟩
theorem ci_X3_total : Cond.instanceMethod mX3_total.1 ∈ TT := tt_of 195 (by decide +kernel) rfl
theorem cs_X3_total : Cond.selects mX3_total.1.cls mX3_total.1 mX3_total.1 ∈ TT := tt_of 196 (by decide +kernel) rfl
abbrev mX3_firstReaching : jM := (yX3_firstReaching, cX3_firstReaching, 6, (some .int), [])
theorem cm_X3_firstReaching : jYm mX3_firstReaching 2 := ⟨tt_of 677 (by decide +kernel) rfl, tt_of 48 (by decide +kernel) rfl, ⟨by decide +kernel, by decide +kernel⟩, by decide +kernel, by decide +kernel, by decide +kernel⟩
theorem ci_X3_firstReaching : Cond.instanceMethod mX3_firstReaching.1 ∈ TT := tt_of 675 (by decide +kernel) rfl
theorem cs_X3_firstReaching : Cond.selects mX3_firstReaching.1.cls mX3_firstReaching.1 mX3_firstReaching.1 ∈ TT := tt_of 676 (by decide +kernel) rfl
abbrev mX3_bestRun : jM := (yX3_bestRun, cX3_bestRun, 7, (some .long), [])
theorem cm_X3_bestRun : jYm mX3_bestRun 1 := ⟨tt_of 431 (by decide +kernel) rfl, tt_of 48 (by decide +kernel) rfl, ⟨by decide +kernel, by decide +kernel⟩, by decide +kernel, by decide +kernel, by decide +kernel⟩
theorem ci_X3_bestRun : Cond.instanceMethod mX3_bestRun.1 ∈ TT := tt_of 429 (by decide +kernel) rfl
theorem cs_X3_bestRun : Cond.selects mX3_bestRun.1.cls mX3_bestRun.1 mX3_bestRun.1 ∈ TT := tt_of 430 (by decide +kernel) rfl
abbrev mX3_dryIn : jM := (yX3_dryIn, cX3_dryIn, 5, (some .int), [])
theorem cm_X3_dryIn : jYm mX3_dryIn 4 := ⟨tt_of 688 (by decide +kernel) rfl, tt_of 48 (by decide +kernel) rfl, ⟨by decide +kernel, by decide +kernel⟩, by decide +kernel, by decide +kernel, by decide +kernel⟩
theorem ci_X3_dryIn : Cond.instanceMethod mX3_dryIn.1 ∈ TT := tt_of 686 (by decide +kernel) rfl
theorem cs_X3_dryIn : Cond.selects mX3_dryIn.1.cls mX3_dryIn.1 mX3_dryIn.1 ∈ TT := tt_of 687 (by decide +kernel) rfl
abbrev mX3_dry : jM := (yX3_dry, cX3_dry, 1, (some .int), [])
theorem cm_X3_dry : jYm mX3_dry 0 := ⟨tt_of 217 (by decide +kernel) rfl, tt_of 48 (by decide +kernel) rfl, ⟨by decide +kernel, by decide +kernel⟩, by decide +kernel, by decide +kernel, by decide +kernel⟩
theorem ci_X3_dry : Cond.instanceMethod mX3_dry.1 ∈ TT := tt_of 215 (by decide +kernel) rfl
theorem cs_X3_dry : Cond.selects mX3_dry.1.cls mX3_dry.1 mX3_dry.1 ∈ TT := tt_of 216 (by decide +kernel) rfl
abbrev mX3_dryAt : jM := (yX3_dryAt, cX3_dryAt, 4, (some .int), [])
theorem cm_X3_dryAt : jYm mX3_dryAt 1 := ⟨tt_of 695 (by decide +kernel) rfl, tt_of 48 (by decide +kernel) rfl, ⟨by decide +kernel, by decide +kernel⟩, by decide +kernel, by decide +kernel, by decide +kernel⟩
theorem ci_X3_dryAt : Cond.instanceMethod mX3_dryAt.1 ∈ TT := tt_of 693 (by decide +kernel) rfl
theorem cs_X3_dryAt : Cond.selects mX3_dryAt.1.cls mX3_dryAt.1 mX3_dryAt.1 ∈ TT := tt_of 694 (by decide +kernel) rfl
abbrev mX3_longestDry : jM := (yX3_longestDry, cX3_longestDry, 5, (some .int), [])
theorem cm_X3_longestDry : jYm mX3_longestDry 1 := ⟨tt_of 440 (by decide +kernel) rfl, tt_of 48 (by decide +kernel) rfl, ⟨by decide +kernel, by decide +kernel⟩, by decide +kernel, by decide +kernel, by decide +kernel⟩
theorem ci_X3_longestDry : Cond.instanceMethod mX3_longestDry.1 ∈ TT := tt_of 438 (by decide +kernel) rfl
theorem cs_X3_longestDry : Cond.selects mX3_longestDry.1.cls mX3_longestDry.1 mX3_longestDry.1 ∈ TT := tt_of 439 (by decide +kernel) rfl
abbrev mX3_driestFlight : jM := (yX3_driestFlight, cX3_driestFlight, 5, (some .int), [])
theorem cm_X3_driestFlight : jYm mX3_driestFlight 0 := ⟨tt_of 229 (by decide +kernel) rfl, tt_of 48 (by decide +kernel) rfl, ⟨by decide +kernel, by decide +kernel⟩, by decide +kernel, by decide +kernel, by decide +kernel⟩
theorem ci_X3_driestFlight : Cond.instanceMethod mX3_driestFlight.1 ∈ TT := tt_of 227 (by decide +kernel) rfl
theorem cs_X3_driestFlight : Cond.selects mX3_driestFlight.1.cls mX3_driestFlight.1 mX3_driestFlight.1 ∈ TT := tt_of 228 (by decide +kernel) rfl
abbrev mX3_lowestIn : jM := (yX3_lowestIn, cX3_lowestIn, 8, (some .int), [])
theorem cm_X3_lowestIn : jYm mX3_lowestIn 4 := ⟨tt_of 707 (by decide +kernel) rfl, tt_of 48 (by decide +kernel) rfl, ⟨by decide +kernel, by decide +kernel⟩, by decide +kernel, by decide +kernel, by decide +kernel⟩
theorem ci_X3_lowestIn : Cond.instanceMethod mX3_lowestIn.1 ∈ TT := tt_of 705 (by decide +kernel) rfl
theorem cs_X3_lowestIn : Cond.selects mX3_lowestIn.1.cls mX3_lowestIn.1 mX3_lowestIn.1 ∈ TT := tt_of 706 (by decide +kernel) rfl
abbrev mX3_highestAt : jM := (yX3_highestAt, cX3_highestAt, 4, (some .int), [])
theorem cm_X3_highestAt : jYm mX3_highestAt 1 := ⟨tt_of 445 (by decide +kernel) rfl, tt_of 48 (by decide +kernel) rfl, ⟨by decide +kernel, by decide +kernel⟩, by decide +kernel, by decide +kernel, by decide +kernel⟩
theorem ci_X3_highestAt : Cond.instanceMethod mX3_highestAt.1 ∈ TT := tt_of 443 (by decide +kernel) rfl
theorem cs_X3_highestAt : Cond.selects mX3_highestAt.1.cls mX3_highestAt.1 mX3_highestAt.1 ∈ TT := tt_of 444 (by decide +kernel) rfl
abbrev mX3_upTo : jM := (yX3_upTo, cX3_upTo, 2, (some .int), [])
theorem cm_X3_upTo : jYm mX3_upTo 1 := ⟨tt_of 237 (by decide +kernel) rfl, tt_of 48 (by decide +kernel) rfl, ⟨by decide +kernel, by decide +kernel⟩, by decide +kernel, by decide +kernel, by decide +kernel⟩
theorem ci_X3_upTo : Cond.instanceMethod mX3_upTo.1 ∈ TT := tt_of 235 (by decide +kernel) rfl
theorem cs_X3_upTo : Cond.selects mX3_upTo.1.cls mX3_upTo.1 mX3_upTo.1 ∈ TT := tt_of 236 (by decide +kernel) rfl
abbrev mX3_levelInOrder : jM := (yX3_levelInOrder, cX3_levelInOrder, 5, (some .int), [])
theorem cm_X3_levelInOrder : jYm mX3_levelInOrder 1 := ⟨tt_of 719 (by decide +kernel) rfl, tt_of 48 (by decide +kernel) rfl, ⟨by decide +kernel, by decide +kernel⟩, by decide +kernel, by decide +kernel, by decide +kernel⟩
theorem ci_X3_levelInOrder : Cond.instanceMethod mX3_levelInOrder.1 ∈ TT := tt_of 717 (by decide +kernel) rfl
theorem cs_X3_levelInOrder : Cond.selects mX3_levelInOrder.1.cls mX3_levelInOrder.1 mX3_levelInOrder.1 ∈ TT := tt_of 718 (by decide +kernel) rfl
abbrev mX3_outOfOrder : jM := (yX3_outOfOrder, cX3_outOfOrder, 1, (some .int), [])
theorem cm_X3_outOfOrder : jYm mX3_outOfOrder 0 := ⟨tt_of 241 (by decide +kernel) rfl, tt_of 48 (by decide +kernel) rfl, ⟨by decide +kernel, by decide +kernel⟩, by decide +kernel, by decide +kernel, by decide +kernel⟩
theorem ci_X3_outOfOrder : Cond.instanceMethod mX3_outOfOrder.1 ∈ TT := tt_of 239 (by decide +kernel) rfl
theorem cs_X3_outOfOrder : Cond.selects mX3_outOfOrder.1.cls mX3_outOfOrder.1 mX3_outOfOrder.1 ∈ TT := tt_of 240 (by decide +kernel) rfl
abbrev mX3_alike : jM := (yX3_alike, cX3_alike, 3, (some .int), [])
theorem cm_X3_alike : jYm mX3_alike 2 := ⟨tt_of 726 (by decide +kernel) rfl, tt_of 48 (by decide +kernel) rfl, ⟨by decide +kernel, by decide +kernel⟩, by decide +kernel, by decide +kernel, by decide +kernel⟩
theorem ci_X3_alike : Cond.instanceMethod mX3_alike.1 ∈ TT := tt_of 724 (by decide +kernel) rfl
theorem cs_X3_alike : Cond.selects mX3_alike.1.cls mX3_alike.1 mX3_alike.1 ∈ TT := tt_of 725 (by decide +kernel) rfl
abbrev mX3_changedSince : jM := (yX3_changedSince, cX3_changedSince, 2, (some .int), [])
theorem cm_X3_changedSince : jYm mX3_changedSince 1 := ⟨tt_of 475 (by decide +kernel) rfl, tt_of 48 (by decide +kernel) rfl, ⟨by decide +kernel, by decide +kernel⟩, by decide +kernel, by decide +kernel, by decide +kernel⟩
theorem ci_X3_changedSince : Cond.instanceMethod mX3_changedSince.1 ∈ TT := tt_of 473 (by decide +kernel) rfl
theorem cs_X3_changedSince : Cond.selects mX3_changedSince.1.cls mX3_changedSince.1 mX3_changedSince.1 ∈ TT := tt_of 474 (by decide +kernel) rfl
abbrev mX3_totalIn : jM := (yX3_totalIn, cX3_totalIn, 2, (some .long), [])
theorem cm_X3_totalIn : jYm mX3_totalIn 1 := ⟨tt_of 311 (by decide +kernel) rfl, tt_of 48 (by decide +kernel) rfl, ⟨by decide +kernel, by decide +kernel⟩, by decide +kernel, by decide +kernel, by decide +kernel⟩
theorem ci_X3_totalIn : Cond.instanceMethod mX3_totalIn.1 ∈ TT := tt_of 309 (by decide +kernel) rfl
theorem cs_X3_totalIn : Cond.selects mX3_totalIn.1.cls mX3_totalIn.1 mX3_totalIn.1 ∈ TT := tt_of 310 (by decide +kernel) rfl
abbrev mX3_goneIn : jM := (yX3_goneIn, cX3_goneIn, 2, (some .int), [])
theorem cm_X3_goneIn : jYm mX3_goneIn 1 := ⟨tt_of 391 (by decide +kernel) rfl, tt_of 48 (by decide +kernel) rfl, ⟨by decide +kernel, by decide +kernel⟩, by decide +kernel, by decide +kernel, by decide +kernel⟩
theorem ci_X3_goneIn : Cond.instanceMethod mX3_goneIn.1 ∈ TT := tt_of 389 (by decide +kernel) rfl
theorem cs_X3_goneIn : Cond.selects mX3_goneIn.1.cls mX3_goneIn.1 mX3_goneIn.1 ∈ TT := tt_of 390 (by decide +kernel) rfl
abbrev mX3_hoursUntilDry : jM := (yX3_hoursUntilDry, cX3_hoursUntilDry, 2, (some .int), [])
theorem cm_X3_hoursUntilDry : jYm mX3_hoursUntilDry 0 := ⟨tt_of 260 (by decide +kernel) rfl, tt_of 48 (by decide +kernel) rfl, ⟨by decide +kernel, by decide +kernel⟩, by decide +kernel, by decide +kernel, by decide +kernel⟩
theorem ci_X3_hoursUntilDry : Cond.instanceMethod mX3_hoursUntilDry.1 ∈ TT := tt_of 258 (by decide +kernel) rfl
theorem cs_X3_hoursUntilDry : Cond.selects mX3_hoursUntilDry.1.cls mX3_hoursUntilDry.1 mX3_hoursUntilDry.1 ∈ TT := tt_of 259 (by decide +kernel) rfl
abbrev mX3_sunWanted : jM := (yX3_sunWanted, cX3_sunWanted, 3, (some .int), [])
theorem cm_X3_sunWanted : jYm mX3_sunWanted 1 := ⟨tt_of 395 (by decide +kernel) rfl, tt_of 48 (by decide +kernel) rfl, ⟨by decide +kernel, by decide +kernel⟩, by decide +kernel, by decide +kernel, by decide +kernel⟩
theorem ci_X3_sunWanted : Cond.instanceMethod mX3_sunWanted.1 ∈ TT := tt_of 393 (by decide +kernel) rfl
theorem cs_X3_sunWanted : Cond.selects mX3_sunWanted.1.cls mX3_sunWanted.1 mX3_sunWanted.1 ∈ TT := tt_of 394 (by decide +kernel) rfl
abbrev mX3_bestEdge : jM := (yX3_bestEdge, cX3_bestEdge, 7, (some .int), [])
theorem cm_X3_bestEdge : jYm mX3_bestEdge 2 := ⟨tt_of 749 (by decide +kernel) rfl, tt_of 48 (by decide +kernel) rfl, ⟨by decide +kernel, by decide +kernel⟩, by decide +kernel, by decide +kernel, by decide +kernel⟩
theorem ci_X3_bestEdge : Cond.instanceMethod mX3_bestEdge.1 ∈ TT := tt_of 747 (by decide +kernel) rfl
theorem cs_X3_bestEdge : Cond.selects mX3_bestEdge.1.cls mX3_bestEdge.1 mX3_bestEdge.1 ∈ TT := tt_of 748 (by decide +kernel) rfl
abbrev mX3_bestSwap : jM := (yX3_bestSwap, cX3_bestSwap, 2, (some .int), [])
theorem cm_X3_bestSwap : jYm mX3_bestSwap 1 := ⟨tt_of 756 (by decide +kernel) rfl, tt_of 48 (by decide +kernel) rfl, ⟨by decide +kernel, by decide +kernel⟩, by decide +kernel, by decide +kernel, by decide +kernel⟩
theorem ci_X3_bestSwap : Cond.instanceMethod mX3_bestSwap.1 ∈ TT := tt_of 754 (by decide +kernel) rfl
theorem cs_X3_bestSwap : Cond.selects mX3_bestSwap.1.cls mX3_bestSwap.1 mX3_bestSwap.1 ∈ TT := tt_of 755 (by decide +kernel) rfl
abbrev mX3_meanLevel : jM := (yX3_meanLevel, cX3_meanLevel, 2, (some .double), [])
theorem cm_X3_meanLevel : jYm mX3_meanLevel 0 := ⟨tt_of 285 (by decide +kernel) rfl, tt_of 48 (by decide +kernel) rfl, ⟨by decide +kernel, by decide +kernel⟩, by decide +kernel, by decide +kernel, by decide +kernel⟩
theorem ci_X3_meanLevel : Cond.instanceMethod mX3_meanLevel.1 ∈ TT := tt_of 283 (by decide +kernel) rfl
theorem cs_X3_meanLevel : Cond.selects mX3_meanLevel.1.cls mX3_meanLevel.1 mX3_meanLevel.1 ∈ TT := tt_of 284 (by decide +kernel) rfl
abbrev mX3_digest : jM := (yX3_digest, cX3_digest, 3, (some .long), [])
theorem cm_X3_digest : jYm mX3_digest 0 := ⟨tt_of 290 (by decide +kernel) rfl, tt_of 48 (by decide +kernel) rfl, ⟨by decide +kernel, by decide +kernel⟩, by decide +kernel, by decide +kernel, by decide +kernel⟩
theorem ci_X3_digest : Cond.instanceMethod mX3_digest.1 ∈ TT := tt_of 288 (by decide +kernel) rfl
theorem cs_X3_digest : Cond.selects mX3_digest.1.cls mX3_digest.1 mX3_digest.1 ∈ TT := tt_of 289 (by decide +kernel) rfl
abbrev mX3_digested : jM := (yX3_digested, cX3_digested, 4, (some .long), [])
theorem cm_X3_digested : jYm mX3_digested 2 := ⟨tt_of 295 (by decide +kernel) rfl, tt_of 48 (by decide +kernel) rfl, ⟨by decide +kernel, by decide +kernel⟩, by decide +kernel, by decide +kernel, by decide +kernel⟩
theorem ct_X3_digested : Cond.static mX3_digested.1 ∈ TT := tt_of 294 (by decide +kernel) rfl
abbrev mX3_digestedFlights : jM := (yX3_digestedFlights, cX3_digestedFlights, 7, (some .long), [])
theorem cm_X3_digestedFlights : jYm mX3_digestedFlights 1 := ⟨tt_of 399 (by decide +kernel) rfl, tt_of 48 (by decide +kernel) rfl, ⟨by decide +kernel, by decide +kernel⟩, by decide +kernel, by decide +kernel, by decide +kernel⟩
theorem ci_X3_digestedFlights : Cond.instanceMethod mX3_digestedFlights.1 ∈ TT := tt_of 398 (by decide +kernel) rfl
theorem cs_X3_digestedFlights : Cond.selects mX3_digestedFlights.1.cls mX3_digestedFlights.1 mX3_digestedFlights.1 ∈ TT := tt_of 3 (by decide +kernel) rfl
abbrev mX3_digestedSteps : jM := (yX3_digestedSteps, cX3_digestedSteps, 6, (some .long), [])
theorem cm_X3_digestedSteps : jYm mX3_digestedSteps 1 := ⟨tt_of 455 (by decide +kernel) rfl, tt_of 48 (by decide +kernel) rfl, ⟨by decide +kernel, by decide +kernel⟩, by decide +kernel, by decide +kernel, by decide +kernel⟩
theorem ci_X3_digestedSteps : Cond.instanceMethod mX3_digestedSteps.1 ∈ TT := tt_of 454 (by decide +kernel) rfl
theorem cs_X3_digestedSteps : Cond.selects mX3_digestedSteps.1.cls mX3_digestedSteps.1 mX3_digestedSteps.1 ∈ TT := tt_of 5 (by decide +kernel) rfl
abbrev mX3_digestedMarks : jM := (yX3_digestedMarks, cX3_digestedMarks, 6, (some .long), [])
theorem cm_X3_digestedMarks : jYm mX3_digestedMarks 1 := ⟨tt_of 471 (by decide +kernel) rfl, tt_of 48 (by decide +kernel) rfl, ⟨by decide +kernel, by decide +kernel⟩, by decide +kernel, by decide +kernel, by decide +kernel⟩
theorem ci_X3_digestedMarks : Cond.instanceMethod mX3_digestedMarks.1 ∈ TT := tt_of 470 (by decide +kernel) rfl
theorem cs_X3_digestedMarks : Cond.selects mX3_digestedMarks.1.cls mX3_digestedMarks.1 mX3_digestedMarks.1 ∈ TT := tt_of 7 (by decide +kernel) rfl
abbrev mX3_keepDeed : jM := (yX3_keepDeed, cX3_keepDeed, 1, none, [])
theorem cm_X3_keepDeed : jYm mX3_keepDeed 0 := ⟨tt_of 515 (by decide +kernel) rfl, tt_of 48 (by decide +kernel) rfl, ⟨by decide +kernel, by decide +kernel⟩, by decide +kernel, by decide +kernel, by decide +kernel⟩
theorem ci_X3_keepDeed : Cond.instanceMethod mX3_keepDeed.1 ∈ TT := tt_of 514 (by decide +kernel) rfl
theorem cs_X3_keepDeed : Cond.selects mX3_keepDeed.1.cls mX3_keepDeed.1 mX3_keepDeed.1 ∈ TT := tt_of 10 (by decide +kernel) rfl
abbrev mX3_checkIndex : jM := (yX3_checkIndex, cX3_checkIndex, 2, none, [])
theorem cm_X3_checkIndex : jYm mX3_checkIndex 2 := ⟨tt_of 410 (by decide +kernel) rfl, tt_of 48 (by decide +kernel) rfl, ⟨by decide +kernel, by decide +kernel⟩, by decide +kernel, by decide +kernel, by decide +kernel⟩
theorem ct_X3_checkIndex : Cond.static mX3_checkIndex.1 ∈ TT := tt_of 409 (by decide +kernel) rfl
abbrev mX3_checkNumber : jM := (yX3_checkNumber, cX3_checkNumber, 3, none, [])
theorem cm_X3_checkNumber : jYm mX3_checkNumber 3 := ⟨tt_of 314 (by decide +kernel) rfl, tt_of 48 (by decide +kernel) rfl, ⟨by decide +kernel, by decide +kernel⟩, by decide +kernel, by decide +kernel, by decide +kernel⟩
theorem ct_X3_checkNumber : Cond.static mX3_checkNumber.1 ∈ TT := tt_of 313 (by decide +kernel) rfl
abbrev mX3_checkFlight : jM := (yX3_checkFlight, cX3_checkFlight, 2, none, [])
theorem cm_X3_checkFlight : jYm mX3_checkFlight 1 := ⟨tt_of 407 (by decide +kernel) rfl, tt_of 48 (by decide +kernel) rfl, ⟨by decide +kernel, by decide +kernel⟩, by decide +kernel, by decide +kernel, by decide +kernel⟩
theorem ci_X3_checkFlight : Cond.instanceMethod mX3_checkFlight.1 ∈ TT := tt_of 406 (by decide +kernel) rfl
theorem cs_X3_checkFlight : Cond.selects mX3_checkFlight.1.cls mX3_checkFlight.1 mX3_checkFlight.1 ∈ TT := tt_of 4 (by decide +kernel) rfl
abbrev mX3_checkStep : jM := (yX3_checkStep, cX3_checkStep, 2, none, [])
theorem cm_X3_checkStep : jYm mX3_checkStep 1 := ⟨tt_of 463 (by decide +kernel) rfl, tt_of 48 (by decide +kernel) rfl, ⟨by decide +kernel, by decide +kernel⟩, by decide +kernel, by decide +kernel, by decide +kernel⟩
theorem ci_X3_checkStep : Cond.instanceMethod mX3_checkStep.1 ∈ TT := tt_of 462 (by decide +kernel) rfl
theorem cs_X3_checkStep : Cond.selects mX3_checkStep.1.cls mX3_checkStep.1 mX3_checkStep.1 ∈ TT := tt_of 6 (by decide +kernel) rfl
abbrev mX3_checkMark : jM := (yX3_checkMark, cX3_checkMark, 2, none, [])
theorem cm_X3_checkMark : jYm mX3_checkMark 1 := ⟨tt_of 479 (by decide +kernel) rfl, tt_of 48 (by decide +kernel) rfl, ⟨by decide +kernel, by decide +kernel⟩, by decide +kernel, by decide +kernel, by decide +kernel⟩
theorem ci_X3_checkMark : Cond.instanceMethod mX3_checkMark.1 ∈ TT := tt_of 478 (by decide +kernel) rfl
theorem cs_X3_checkMark : Cond.selects mX3_checkMark.1.cls mX3_checkMark.1 mX3_checkMark.1 ∈ TT := tt_of 8 (by decide +kernel) rfl
abbrev mX3_checkPuddle : jM := (yX3_checkPuddle, cX3_checkPuddle, 3, none, [])
theorem cm_X3_checkPuddle : jYm mX3_checkPuddle 2 := ⟨tt_of 511 (by decide +kernel) rfl, tt_of 48 (by decide +kernel) rfl, ⟨by decide +kernel, by decide +kernel⟩, by decide +kernel, by decide +kernel, by decide +kernel⟩
theorem ci_X3_checkPuddle : Cond.instanceMethod mX3_checkPuddle.1 ∈ TT := tt_of 510 (by decide +kernel) rfl
theorem cs_X3_checkPuddle : Cond.selects mX3_checkPuddle.1.cls mX3_checkPuddle.1 mX3_checkPuddle.1 ∈ TT := tt_of 9 (by decide +kernel) rfl
abbrev mX3_checkPart : jM := (yX3_checkPart, cX3_checkPart, 5, none, [])
theorem cm_X3_checkPart : jYm mX3_checkPart 4 := ⟨tt_of 536 (by decide +kernel) rfl, tt_of 48 (by decide +kernel) rfl, ⟨by decide +kernel, by decide +kernel⟩, by decide +kernel, by decide +kernel, by decide +kernel⟩
theorem ci_X3_checkPart : Cond.instanceMethod mX3_checkPart.1 ∈ TT := tt_of 535 (by decide +kernel) rfl
theorem cs_X3_checkPart : Cond.selects mX3_checkPart.1.cls mX3_checkPart.1 mX3_checkPart.1 ∈ TT := tt_of 11 (by decide +kernel) rfl
abbrev mX4_init : jM := (yX4_init, cX4_init, 1, none, [])
theorem cm_X4_init : jYm mX4_init 0 := ⟨tt_of 761 (by decide +kernel) rfl, tt_of 53 (by decide +kernel) rfl, ⟨by decide +kernel, by decide +kernel⟩, by decide +kernel, by decide +kernel, by decide +kernel⟩
theorem ci_X4_init : Cond.instanceMethod mX4_init.1 ∈ TT := tt_of 760 (by decide +kernel) rfl
abbrev mX4_thrown : jM := (yX4_thrown, cX4_thrown, 1, (some .int), [])
theorem cm_X4_thrown : jYm mX4_thrown 0 := ⟨tt_of 813 (by decide +kernel) rfl, tt_of 53 (by decide +kernel) rfl, ⟨by decide +kernel, by decide +kernel⟩, by decide +kernel, by decide +kernel, by decide +kernel⟩
theorem ci_X4_thrown : Cond.instanceMethod mX4_thrown.1 ∈ TT := tt_of 811 (by decide +kernel) rfl
theorem cs_X4_thrown : Cond.selects mX4_thrown.1.cls mX4_thrown.1 mX4_thrown.1 ∈ TT := tt_of 812 (by decide +kernel) rfl
abbrev mX4_no : jM := (yX4_no, cX4_no, 2, (some .int), [])
theorem cm_X4_no : jYm mX4_no 1 := ⟨tt_of 824 (by decide +kernel) rfl, tt_of 53 (by decide +kernel) rfl, ⟨by decide +kernel, by decide +kernel⟩, by decide +kernel, by decide +kernel, by decide +kernel⟩
theorem ci_X4_no : Cond.instanceMethod mX4_no.1 ∈ TT := tt_of 823 (by decide +kernel) rfl
theorem cs_X4_no : Cond.selects mX4_no.1.cls mX4_no.1 mX4_no.1 ∈ TT := tt_of 13 (by decide +kernel) rfl
abbrev mX4_ok : jM := (yX4_ok, cX4_ok, 2, (some .int), [])
theorem cm_X4_ok : jYm mX4_ok 1 := ⟨tt_of 917 (by decide +kernel) rfl, tt_of 53 (by decide +kernel) rfl, ⟨by decide +kernel, by decide +kernel⟩, by decide +kernel, by decide +kernel, by decide +kernel⟩
theorem ci_X4_ok : Cond.instanceMethod mX4_ok.1 ∈ TT := tt_of 916 (by decide +kernel) rfl
theorem cs_X4_ok : Cond.selects mX4_ok.1.cls mX4_ok.1 mX4_ok.1 ∈ TT := tt_of 23 (by decide +kernel) rfl
abbrev mX4_okay : jM := (yX4_okay, cX4_okay, 3, (some .long), [])
theorem cm_X4_okay : jYm mX4_okay 1 := ⟨tt_of 949 (by decide +kernel) rfl, tt_of 53 (by decide +kernel) rfl, ⟨by decide +kernel, by decide +kernel⟩, by decide +kernel, by decide +kernel, by decide +kernel⟩
theorem ci_X4_okay : Cond.instanceMethod mX4_okay.1 ∈ TT := tt_of 948 (by decide +kernel) rfl
theorem cs_X4_okay : Cond.selects mX4_okay.1.cls mX4_okay.1 mX4_okay.1 ∈ TT := tt_of 24 (by decide +kernel) rfl
abbrev mX4_isIn : jM := (yX4_isIn, cX4_isIn, 3, (some .boolean), [])
theorem cm_X4_isIn : jYm mX4_isIn 3 := ⟨tt_of 820 (by decide +kernel) rfl, tt_of 53 (by decide +kernel) rfl, ⟨by decide +kernel, by decide +kernel⟩, by decide +kernel, by decide +kernel, by decide +kernel⟩
theorem ct_X4_isIn : Cond.static mX4_isIn.1 ∈ TT := tt_of 819 (by decide +kernel) rfl
abbrev mX4_isFlight : jM := (yX4_isFlight, cX4_isFlight, 2, (some .boolean), [])
theorem cm_X4_isFlight : jYm mX4_isFlight 1 := ⟨tt_of 836 (by decide +kernel) rfl, tt_of 53 (by decide +kernel) rfl, ⟨by decide +kernel, by decide +kernel⟩, by decide +kernel, by decide +kernel, by decide +kernel⟩
theorem ci_X4_isFlight : Cond.instanceMethod mX4_isFlight.1 ∈ TT := tt_of 835 (by decide +kernel) rfl
theorem cs_X4_isFlight : Cond.selects mX4_isFlight.1.cls mX4_isFlight.1 mX4_isFlight.1 ∈ TT := tt_of 15 (by decide +kernel) rfl
abbrev mX4_isStep : jM := (yX4_isStep, cX4_isStep, 2, (some .boolean), [])
theorem cm_X4_isStep : jYm mX4_isStep 1 := ⟨tt_of 840 (by decide +kernel) rfl, tt_of 53 (by decide +kernel) rfl, ⟨by decide +kernel, by decide +kernel⟩, by decide +kernel, by decide +kernel, by decide +kernel⟩
theorem ci_X4_isStep : Cond.instanceMethod mX4_isStep.1 ∈ TT := tt_of 839 (by decide +kernel) rfl
theorem cs_X4_isStep : Cond.selects mX4_isStep.1.cls mX4_isStep.1 mX4_isStep.1 ∈ TT := tt_of 16 (by decide +kernel) rfl
abbrev mX4_isMark : jM := (yX4_isMark, cX4_isMark, 2, (some .boolean), [])
theorem cm_X4_isMark : jYm mX4_isMark 1 := ⟨tt_of 893 (by decide +kernel) rfl, tt_of 53 (by decide +kernel) rfl, ⟨by decide +kernel, by decide +kernel⟩, by decide +kernel, by decide +kernel, by decide +kernel⟩
theorem ci_X4_isMark : Cond.instanceMethod mX4_isMark.1 ∈ TT := tt_of 892 (by decide +kernel) rfl
theorem cs_X4_isMark : Cond.selects mX4_isMark.1.cls mX4_isMark.1 mX4_isMark.1 ∈ TT := tt_of 21 (by decide +kernel) rfl
abbrev mX4_all : jM := (yX4_all, cX4_all, 1, (some .int), [])
theorem cm_X4_all : jYm mX4_all 0 := ⟨tt_of 828 (by decide +kernel) rfl, tt_of 53 (by decide +kernel) rfl, ⟨by decide +kernel, by decide +kernel⟩, by decide +kernel, by decide +kernel, by decide +kernel⟩
theorem ci_X4_all : Cond.instanceMethod mX4_all.1 ∈ TT := tt_of 827 (by decide +kernel) rfl
theorem cs_X4_all : Cond.selects mX4_all.1.cls mX4_all.1 mX4_all.1 ∈ TT := tt_of 14 (by decide +kernel) rfl
abbrev mX4_part : jM := (yX4_part, cX4_part, 5, (some .int), [])
theorem cm_X4_part : jYm mX4_part 4 := ⟨tt_of 855 (by decide +kernel) rfl, tt_of 53 (by decide +kernel) rfl, ⟨by decide +kernel, by decide +kernel⟩, by decide +kernel, by decide +kernel, by decide +kernel⟩
theorem ci_X4_part : Cond.instanceMethod mX4_part.1 ∈ TT := tt_of 854 (by decide +kernel) rfl
theorem cs_X4_part : Cond.selects mX4_part.1.cls mX4_part.1 mX4_part.1 ∈ TT := tt_of 18 (by decide +kernel) rfl
abbrev mX4_anew : jM := (yX4_anew, cX4_anew, 2, none, [])
theorem cm_X4_anew : jYm mX4_anew 0 := ⟨tt_of 766 (by decide +kernel) rfl, tt_of 53 (by decide +kernel) rfl, ⟨by decide +kernel, by decide +kernel⟩, by decide +kernel, by decide +kernel, by decide +kernel⟩
theorem ci_X4_anew : Cond.instanceMethod mX4_anew.1 ∈ TT := tt_of 765 (by decide +kernel) rfl
theorem cs_X4_anew : Cond.selects mX4_anew.1.cls mX4_anew.1 mX4_anew.1 ∈ TT := tt_of 12 (by decide +kernel) rfl
abbrev mX4_keep : jM := (yX4_keep, cX4_keep, 1, none, [])
theorem cm_X4_keep : jYm mX4_keep 0 := ⟨tt_of 844 (by decide +kernel) rfl, tt_of 53 (by decide +kernel) rfl, ⟨by decide +kernel, by decide +kernel⟩, by decide +kernel, by decide +kernel, by decide +kernel⟩
theorem ci_X4_keep : Cond.instanceMethod mX4_keep.1 ∈ TT := tt_of 843 (by decide +kernel) rfl
theorem cs_X4_keep : Cond.selects mX4_keep.1.cls mX4_keep.1 mX4_keep.1 ∈ TT := tt_of 17 (by decide +kernel) rfl
abbrev mX4_bring : jM := (yX4_bring, cX4_bring, 5, (some .int), [])
theorem cm_X4_bring : jYm mX4_bring 2 := ⟨tt_of 897 (by decide +kernel) rfl, tt_of 53 (by decide +kernel) rfl, ⟨by decide +kernel, by decide +kernel⟩, by decide +kernel, by decide +kernel, by decide +kernel⟩
theorem ci_X4_bring : Cond.instanceMethod mX4_bring.1 ∈ TT := tt_of 896 (by decide +kernel) rfl
theorem cs_X4_bring : Cond.selects mX4_bring.1.cls mX4_bring.1 mX4_bring.1 ∈ TT := tt_of 22 (by decide +kernel) rfl
abbrev mX4_hourOn : jM := (yX4_hourOn, cX4_hourOn, 6, (some .int), [])
theorem cm_X4_hourOn : jYm mX4_hourOn 2 := ⟨tt_of 881 (by decide +kernel) rfl, tt_of 53 (by decide +kernel) rfl, ⟨by decide +kernel, by decide +kernel⟩, by decide +kernel, by decide +kernel, by decide +kernel⟩
theorem ci_X4_hourOn : Cond.instanceMethod mX4_hourOn.1 ∈ TT := tt_of 880 (by decide +kernel) rfl
theorem cs_X4_hourOn : Cond.selects mX4_hourOn.1.cls mX4_hourOn.1 mX4_hourOn.1 ∈ TT := tt_of 20 (by decide +kernel) rfl
abbrev mX4_look : jM := (yX4_look, cX4_look, 1, none, [])
theorem cm_X4_look : jYm mX4_look 0 := ⟨tt_of 1106 (by decide +kernel) rfl, tt_of 53 (by decide +kernel) rfl, ⟨by decide +kernel, by decide +kernel⟩, by decide +kernel, by decide +kernel, by decide +kernel⟩
theorem ci_X4_look : Cond.instanceMethod mX4_look.1 ∈ TT := tt_of 1105 (by decide +kernel) rfl
theorem cs_X4_look : Cond.selects mX4_look.1.cls mX4_look.1 mX4_look.1 ∈ TT := tt_of 42 (by decide +kernel) rfl
abbrev mX4_goneBehind : jM := (yX4_goneBehind, cX4_goneBehind, 5, (some .int), [])
theorem cm_X4_goneBehind : jYm mX4_goneBehind 2 := ⟨tt_of 1102 (by decide +kernel) rfl, tt_of 53 (by decide +kernel) rfl, ⟨by decide +kernel, by decide +kernel⟩, by decide +kernel, by decide +kernel, by decide +kernel⟩
theorem ci_X4_goneBehind : Cond.instanceMethod mX4_goneBehind.1 ∈ TT := tt_of 1101 (by decide +kernel) rfl
theorem cs_X4_goneBehind : Cond.selects mX4_goneBehind.1.cls mX4_goneBehind.1 mX4_goneBehind.1 ∈ TT := tt_of 41 (by decide +kernel) rfl
abbrev mX4_isDry : jM := (yX4_isDry, cX4_isDry, 3, (some .boolean), [])
theorem cm_X4_isDry : jYm mX4_isDry 1 := ⟨tt_of 1122 (by decide +kernel) rfl, tt_of 53 (by decide +kernel) rfl, ⟨by decide +kernel, by decide +kernel⟩, by decide +kernel, by decide +kernel, by decide +kernel⟩
theorem ci_X4_isDry : Cond.instanceMethod mX4_isDry.1 ∈ TT := tt_of 1121 (by decide +kernel) rfl
theorem cs_X4_isDry : Cond.selects mX4_isDry.1.cls mX4_isDry.1 mX4_isDry.1 ∈ TT := tt_of 44 (by decide +kernel) rfl
abbrev mX4_lay : jM := (yX4_lay, cX4_lay, 3, (some .int), [])
theorem cm_X4_lay : jYm mX4_lay 2 := ⟨tt_of 817 (by decide +kernel) rfl, tt_of 53 (by decide +kernel) rfl, ⟨by decide +kernel, by decide +kernel⟩, by decide +kernel, by decide +kernel, by decide +kernel⟩
theorem ci_X4_lay : Cond.instanceMethod mX4_lay.1 ∈ TT := tt_of 815 (by decide +kernel) rfl
theorem cs_X4_lay : Cond.selects mX4_lay.1.cls mX4_lay.1 mX4_lay.1 ∈ TT := tt_of 816 (by decide +kernel) rfl
abbrev mX4_rain : jM := (yX4_rain, cX4_rain, 4, (some .int), [])
theorem cm_X4_rain : jYm mX4_rain 3 := ⟨tt_of 832 (by decide +kernel) rfl, tt_of 53 (by decide +kernel) rfl, ⟨by decide +kernel, by decide +kernel⟩, by decide +kernel, by decide +kernel, by decide +kernel⟩
theorem ci_X4_rain : Cond.instanceMethod mX4_rain.1 ∈ TT := tt_of 830 (by decide +kernel) rfl
theorem cs_X4_rain : Cond.selects mX4_rain.1.cls mX4_rain.1 mX4_rain.1 ∈ TT := tt_of 831 (by decide +kernel) rfl
abbrev mX4_splash : jM := (yX4_splash, cX4_splash, 8, (some .int), [])
theorem cm_X4_splash : jYm mX4_splash 5 := ⟨tt_of 851 (by decide +kernel) rfl, tt_of 53 (by decide +kernel) rfl, ⟨by decide +kernel, by decide +kernel⟩, by decide +kernel, by decide +kernel, by decide +kernel⟩
theorem ci_X4_splash : Cond.instanceMethod mX4_splash.1 ∈ TT := tt_of 849 (by decide +kernel) rfl
theorem cs_X4_splash : Cond.selects mX4_splash.1.cls mX4_splash.1 mX4_splash.1 ∈ TT := tt_of 850 (by decide +kernel) rfl
abbrev mX4_change : jM := (yX4_change, cX4_change, 7, (some .int), [])
theorem cm_X4_change : jYm mX4_change 2 := ⟨tt_of 863 (by decide +kernel) rfl, tt_of 53 (by decide +kernel) rfl, ⟨by decide +kernel, by decide +kernel⟩, by decide +kernel, by decide +kernel, by decide +kernel⟩
theorem ci_X4_change : Cond.instanceMethod mX4_change.1 ∈ TT := tt_of 862 (by decide +kernel) rfl
theorem cs_X4_change : Cond.selects mX4_change.1.cls mX4_change.1 mX4_change.1 ∈ TT := tt_of 19 (by decide +kernel) rfl
abbrev mX4_swap : jM := (yX4_swap, cX4_swap, 3, (some .int), [])
theorem cm_X4_swap : jYm mX4_swap 2 := ⟨tt_of 859 (by decide +kernel) rfl, tt_of 53 (by decide +kernel) rfl, ⟨by decide +kernel, by decide +kernel⟩, by decide +kernel, by decide +kernel, by decide +kernel⟩
theorem ci_X4_swap : Cond.instanceMethod mX4_swap.1 ∈ TT := tt_of 857 (by decide +kernel) rfl
theorem cs_X4_swap : Cond.selects mX4_swap.1.cls mX4_swap.1 mX4_swap.1 ∈ TT := tt_of 858 (by decide +kernel) rfl
abbrev mX4_turn : jM := (yX4_turn, cX4_turn, 5, (some .int), [])
theorem cm_X4_turn : jYm mX4_turn 1 := ⟨tt_of 867 (by decide +kernel) rfl, tt_of 53 (by decide +kernel) rfl, ⟨by decide +kernel, by decide +kernel⟩, by decide +kernel, by decide +kernel, by decide +kernel⟩
theorem ci_X4_turn : Cond.instanceMethod mX4_turn.1 ∈ TT := tt_of 865 (by decide +kernel) rfl
theorem cs_X4_turn : Cond.selects mX4_turn.1.cls mX4_turn.1 mX4_turn.1 ∈ TT := tt_of 866 (by decide +kernel) rfl
abbrev mX4_bail : jM := (yX4_bail, cX4_bail, 6, (some .int), [])
theorem cm_X4_bail : jYm mX4_bail 2 := ⟨tt_of 871 (by decide +kernel) rfl, tt_of 53 (by decide +kernel) rfl, ⟨by decide +kernel, by decide +kernel⟩, by decide +kernel, by decide +kernel, by decide +kernel⟩
theorem ci_X4_bail : Cond.instanceMethod mX4_bail.1 ∈ TT := tt_of 869 (by decide +kernel) rfl
theorem cs_X4_bail : Cond.selects mX4_bail.1.cls mX4_bail.1 mX4_bail.1 ∈ TT := tt_of 870 (by decide +kernel) rfl
abbrev mX4_passHours : jM := (yX4_passHours, cX4_passHours, 4, (some .int), [])
theorem cm_X4_passHours : jYm mX4_passHours 1 := ⟨tt_of 877 (by decide +kernel) rfl, tt_of 53 (by decide +kernel) rfl, ⟨by decide +kernel, by decide +kernel⟩, by decide +kernel, by decide +kernel, by decide +kernel⟩
theorem ci_X4_passHours : Cond.instanceMethod mX4_passHours.1 ∈ TT := tt_of 875 (by decide +kernel) rfl
theorem cs_X4_passHours : Cond.selects mX4_passHours.1.cls mX4_passHours.1 mX4_passHours.1 ∈ TT := tt_of 876 (by decide +kernel) rfl
abbrev mX4_mark : jM := (yX4_mark, cX4_mark, 1, (some .int), [])
theorem cm_X4_mark : jYm mX4_mark 0 := ⟨tt_of 885 (by decide +kernel) rfl, tt_of 53 (by decide +kernel) rfl, ⟨by decide +kernel, by decide +kernel⟩, by decide +kernel, by decide +kernel, by decide +kernel⟩
theorem ci_X4_mark : Cond.instanceMethod mX4_mark.1 ∈ TT := tt_of 883 (by decide +kernel) rfl
theorem cs_X4_mark : Cond.selects mX4_mark.1.cls mX4_mark.1 mX4_mark.1 ∈ TT := tt_of 884 (by decide +kernel) rfl
abbrev mX4_back : jM := (yX4_back, cX4_back, 2, (some .int), [])
theorem cm_X4_back : jYm mX4_back 1 := ⟨tt_of 889 (by decide +kernel) rfl, tt_of 53 (by decide +kernel) rfl, ⟨by decide +kernel, by decide +kernel⟩, by decide +kernel, by decide +kernel, by decide +kernel⟩
theorem ci_X4_back : Cond.instanceMethod mX4_back.1 ∈ TT := tt_of 887 (by decide +kernel) rfl
theorem cs_X4_back : Cond.selects mX4_back.1.cls mX4_back.1 mX4_back.1 ∈ TT := tt_of 888 (by decide +kernel) rfl
abbrev mX4_undo : jM := (yX4_undo, cX4_undo, 1, (some .int), [])
theorem cm_X4_undo : jYm mX4_undo 0 := ⟨tt_of 901 (by decide +kernel) rfl, tt_of 53 (by decide +kernel) rfl, ⟨by decide +kernel, by decide +kernel⟩, by decide +kernel, by decide +kernel, by decide +kernel⟩
theorem ci_X4_undo : Cond.instanceMethod mX4_undo.1 ∈ TT := tt_of 899 (by decide +kernel) rfl
theorem cs_X4_undo : Cond.selects mX4_undo.1.cls mX4_undo.1 mX4_undo.1 ∈ TT := tt_of 900 (by decide +kernel) rfl
abbrev mX4_setSun : jM := (yX4_setSun, cX4_setSun, 3, (some .int), [])
theorem cm_X4_setSun : jYm mX4_setSun 1 := ⟨tt_of 905 (by decide +kernel) rfl, tt_of 53 (by decide +kernel) rfl, ⟨by decide +kernel, by decide +kernel⟩, by decide +kernel, by decide +kernel, by decide +kernel⟩
theorem ci_X4_setSun : Cond.instanceMethod mX4_setSun.1 ∈ TT := tt_of 903 (by decide +kernel) rfl
theorem cs_X4_setSun : Cond.selects mX4_setSun.1.cls mX4_setSun.1 mX4_setSun.1 ∈ TT := tt_of 904 (by decide +kernel) rfl
abbrev mX4_setEdge : jM := (yX4_setEdge, cX4_setEdge, 4, (some .int), [])
theorem cm_X4_setEdge : jYm mX4_setEdge 2 := ⟨tt_of 909 (by decide +kernel) rfl, tt_of 53 (by decide +kernel) rfl, ⟨by decide +kernel, by decide +kernel⟩, by decide +kernel, by decide +kernel, by decide +kernel⟩
theorem ci_X4_setEdge : Cond.instanceMethod mX4_setEdge.1 ∈ TT := tt_of 907 (by decide +kernel) rfl
theorem cs_X4_setEdge : Cond.selects mX4_setEdge.1.cls mX4_setEdge.1 mX4_setEdge.1 ∈ TT := tt_of 908 (by decide +kernel) rfl
abbrev mX4_flights : jM := (yX4_flights, cX4_flights, 1, (some .int), [])
theorem cm_X4_flights : jYm mX4_flights 0 := ⟨tt_of 913 (by decide +kernel) rfl, tt_of 53 (by decide +kernel) rfl, ⟨by decide +kernel, by decide +kernel⟩, by decide +kernel, by decide +kernel, by decide +kernel⟩
theorem ci_X4_flights : Cond.instanceMethod mX4_flights.1 ∈ TT := tt_of 911 (by decide +kernel) rfl
theorem cs_X4_flights : Cond.selects mX4_flights.1.cls mX4_flights.1 mX4_flights.1 ∈ TT := tt_of 912 (by decide +kernel) rfl
abbrev mX4_steps : jM := (yX4_steps, cX4_steps, 1, (some .int), [])
theorem cm_X4_steps : jYm mX4_steps 0 := ⟨tt_of 921 (by decide +kernel) rfl, tt_of 53 (by decide +kernel) rfl, ⟨by decide +kernel, by decide +kernel⟩, by decide +kernel, by decide +kernel, by decide +kernel⟩
theorem ci_X4_steps : Cond.instanceMethod mX4_steps.1 ∈ TT := tt_of 919 (by decide +kernel) rfl
theorem cs_X4_steps : Cond.selects mX4_steps.1.cls mX4_steps.1 mX4_steps.1 ∈ TT := tt_of 920 (by decide +kernel) rfl
abbrev mX4_hours : jM := (yX4_hours, cX4_hours, 1, (some .int), [])
theorem cm_X4_hours : jYm mX4_hours 0 := ⟨tt_of 925 (by decide +kernel) rfl, tt_of 53 (by decide +kernel) rfl, ⟨by decide +kernel, by decide +kernel⟩, by decide +kernel, by decide +kernel, by decide +kernel⟩
theorem ci_X4_hours : Cond.instanceMethod mX4_hours.1 ∈ TT := tt_of 923 (by decide +kernel) rfl
theorem cs_X4_hours : Cond.selects mX4_hours.1.cls mX4_hours.1 mX4_hours.1 ∈ TT := tt_of 924 (by decide +kernel) rfl
abbrev mX4_sun : jM := (yX4_sun, cX4_sun, 1, (some .int), [])
theorem cm_X4_sun : jYm mX4_sun 0 := ⟨tt_of 929 (by decide +kernel) rfl, tt_of 53 (by decide +kernel) rfl, ⟨by decide +kernel, by decide +kernel⟩, by decide +kernel, by decide +kernel, by decide +kernel⟩
theorem ci_X4_sun : Cond.instanceMethod mX4_sun.1 ∈ TT := tt_of 927 (by decide +kernel) rfl
theorem cs_X4_sun : Cond.selects mX4_sun.1.cls mX4_sun.1 mX4_sun.1 ∈ TT := tt_of 928 (by decide +kernel) rfl
abbrev mX4_edgeOf : jM := (yX4_edgeOf, cX4_edgeOf, 2, (some .int), [])
theorem cm_X4_edgeOf : jYm mX4_edgeOf 1 := ⟨tt_of 933 (by decide +kernel) rfl, tt_of 53 (by decide +kernel) rfl, ⟨by decide +kernel, by decide +kernel⟩, by decide +kernel, by decide +kernel, by decide +kernel⟩
theorem ci_X4_edgeOf : Cond.instanceMethod mX4_edgeOf.1 ∈ TT := tt_of 931 (by decide +kernel) rfl
theorem cs_X4_edgeOf : Cond.selects mX4_edgeOf.1.cls mX4_edgeOf.1 mX4_edgeOf.1 ∈ TT := tt_of 932 (by decide +kernel) rfl
abbrev mX4_marks : jM := (yX4_marks, cX4_marks, 1, (some .int), [])
theorem cm_X4_marks : jYm mX4_marks 0 := ⟨tt_of 937 (by decide +kernel) rfl, tt_of 53 (by decide +kernel) rfl, ⟨by decide +kernel, by decide +kernel⟩, by decide +kernel, by decide +kernel, by decide +kernel⟩
theorem ci_X4_marks : Cond.instanceMethod mX4_marks.1 ∈ TT := tt_of 935 (by decide +kernel) rfl
theorem cs_X4_marks : Cond.selects mX4_marks.1.cls mX4_marks.1 mX4_marks.1 ∈ TT := tt_of 936 (by decide +kernel) rfl
abbrev mX4_deeds : jM := (yX4_deeds, cX4_deeds, 1, (some .int), [])
theorem cm_X4_deeds : jYm mX4_deeds 0 := ⟨tt_of 941 (by decide +kernel) rfl, tt_of 53 (by decide +kernel) rfl, ⟨by decide +kernel, by decide +kernel⟩, by decide +kernel, by decide +kernel, by decide +kernel⟩
theorem ci_X4_deeds : Cond.instanceMethod mX4_deeds.1 ∈ TT := tt_of 939 (by decide +kernel) rfl
theorem cs_X4_deeds : Cond.selects mX4_deeds.1.cls mX4_deeds.1 mX4_deeds.1 ∈ TT := tt_of 940 (by decide +kernel) rfl
abbrev mX4_gone : jM := (yX4_gone, cX4_gone, 1, (some .long), [])
theorem cm_X4_gone : jYm mX4_gone 0 := ⟨tt_of 945 (by decide +kernel) rfl, tt_of 53 (by decide +kernel) rfl, ⟨by decide +kernel, by decide +kernel⟩, by decide +kernel, by decide +kernel, by decide +kernel⟩
theorem ci_X4_gone : Cond.instanceMethod mX4_gone.1 ∈ TT := tt_of 943 (by decide +kernel) rfl
theorem cs_X4_gone : Cond.selects mX4_gone.1.cls mX4_gone.1 mX4_gone.1 ∈ TT := tt_of 944 (by decide +kernel) rfl
abbrev mX4_at : jM := (yX4_at, cX4_at, 3, (some .int), [])
theorem cm_X4_at : jYm mX4_at 2 := ⟨tt_of 957 (by decide +kernel) rfl, tt_of 53 (by decide +kernel) rfl, ⟨by decide +kernel, by decide +kernel⟩, by decide +kernel, by decide +kernel, by decide +kernel⟩
theorem ci_X4_at : Cond.instanceMethod mX4_at.1 ∈ TT := tt_of 956 (by decide +kernel) rfl
theorem cs_X4_at : Cond.selects mX4_at.1.cls mX4_at.1 mX4_at.1 ∈ TT := tt_of 25 (by decide +kernel) rfl
abbrev mX4_levelAt : jM := (yX4_levelAt, cX4_levelAt, 3, (some .int), [])
theorem cm_X4_levelAt : jYm mX4_levelAt 2 := ⟨tt_of 953 (by decide +kernel) rfl, tt_of 53 (by decide +kernel) rfl, ⟨by decide +kernel, by decide +kernel⟩, by decide +kernel, by decide +kernel, by decide +kernel⟩
theorem ci_X4_levelAt : Cond.instanceMethod mX4_levelAt.1 ∈ TT := tt_of 951 (by decide +kernel) rfl
theorem cs_X4_levelAt : Cond.selects mX4_levelAt.1.cls mX4_levelAt.1 mX4_levelAt.1 ∈ TT := tt_of 952 (by decide +kernel) rfl
abbrev mX4_added : jM := (yX4_added, cX4_added, 9, (some .long), [])
theorem cm_X4_added : jYm mX4_added 4 := ⟨tt_of 965 (by decide +kernel) rfl, tt_of 53 (by decide +kernel) rfl, ⟨by decide +kernel, by decide +kernel⟩, by decide +kernel, by decide +kernel, by decide +kernel⟩
theorem ci_X4_added : Cond.instanceMethod mX4_added.1 ∈ TT := tt_of 964 (by decide +kernel) rfl
theorem cs_X4_added : Cond.selects mX4_added.1.cls mX4_added.1 mX4_added.1 ∈ TT := tt_of 26 (by decide +kernel) rfl
abbrev mX4_sumOf : jM := (yX4_sumOf, cX4_sumOf, 5, (some .long), [])
theorem cm_X4_sumOf : jYm mX4_sumOf 4 := ⟨tt_of 961 (by decide +kernel) rfl, tt_of 53 (by decide +kernel) rfl, ⟨by decide +kernel, by decide +kernel⟩, by decide +kernel, by decide +kernel, by decide +kernel⟩
theorem ci_X4_sumOf : Cond.instanceMethod mX4_sumOf.1 ∈ TT := tt_of 959 (by decide +kernel) rfl
theorem cs_X4_sumOf : Cond.selects mX4_sumOf.1.cls mX4_sumOf.1 mX4_sumOf.1 ∈ TT := tt_of 960 (by decide +kernel) rfl
abbrev mX4_sumTo : jM := (yX4_sumTo, cX4_sumTo, 3, (some .long), [])
theorem cm_X4_sumTo : jYm mX4_sumTo 2 := ⟨tt_of 969 (by decide +kernel) rfl, tt_of 53 (by decide +kernel) rfl, ⟨by decide +kernel, by decide +kernel⟩, by decide +kernel, by decide +kernel, by decide +kernel⟩
theorem ci_X4_sumTo : Cond.instanceMethod mX4_sumTo.1 ∈ TT := tt_of 967 (by decide +kernel) rfl
theorem cs_X4_sumTo : Cond.selects mX4_sumTo.1.cls mX4_sumTo.1 mX4_sumTo.1 ∈ TT := tt_of 968 (by decide +kernel) rfl
abbrev mX4_ofFlight : jM := (yX4_ofFlight, cX4_ofFlight, 2, (some .long), [])
theorem cm_X4_ofFlight : jYm mX4_ofFlight 1 := ⟨tt_of 977 (by decide +kernel) rfl, tt_of 53 (by decide +kernel) rfl, ⟨by decide +kernel, by decide +kernel⟩, by decide +kernel, by decide +kernel, by decide +kernel⟩
theorem ci_X4_ofFlight : Cond.instanceMethod mX4_ofFlight.1 ∈ TT := tt_of 976 (by decide +kernel) rfl
theorem cs_X4_ofFlight : Cond.selects mX4_ofFlight.1.cls mX4_ofFlight.1 mX4_ofFlight.1 ∈ TT := tt_of 27 (by decide +kernel) rfl
abbrev mX4_flightSum : jM := (yX4_flightSum, cX4_flightSum, 2, (some .long), [])
theorem cm_X4_flightSum : jYm mX4_flightSum 1 := ⟨tt_of 973 (by decide +kernel) rfl, tt_of 53 (by decide +kernel) rfl, ⟨by decide +kernel, by decide +kernel⟩, by decide +kernel, by decide +kernel, by decide +kernel⟩
theorem ci_X4_flightSum : Cond.instanceMethod mX4_flightSum.1 ∈ TT := tt_of 971 (by decide +kernel) rfl
theorem cs_X4_flightSum : Cond.selects mX4_flightSum.1.cls mX4_flightSum.1 mX4_flightSum.1 ∈ TT := tt_of 972 (by decide +kernel) rfl
abbrev mX4_ofStep : jM := (yX4_ofStep, cX4_ofStep, 2, (some .long), [])
theorem cm_X4_ofStep : jYm mX4_ofStep 1 := ⟨tt_of 985 (by decide +kernel) rfl, tt_of 53 (by decide +kernel) rfl, ⟨by decide +kernel, by decide +kernel⟩, by decide +kernel, by decide +kernel, by decide +kernel⟩
theorem ci_X4_ofStep : Cond.instanceMethod mX4_ofStep.1 ∈ TT := tt_of 984 (by decide +kernel) rfl
theorem cs_X4_ofStep : Cond.selects mX4_ofStep.1.cls mX4_ofStep.1 mX4_ofStep.1 ∈ TT := tt_of 28 (by decide +kernel) rfl
abbrev mX4_stepSum : jM := (yX4_stepSum, cX4_stepSum, 2, (some .long), [])
theorem cm_X4_stepSum : jYm mX4_stepSum 1 := ⟨tt_of 981 (by decide +kernel) rfl, tt_of 53 (by decide +kernel) rfl, ⟨by decide +kernel, by decide +kernel⟩, by decide +kernel, by decide +kernel, by decide +kernel⟩
theorem ci_X4_stepSum : Cond.instanceMethod mX4_stepSum.1 ∈ TT := tt_of 979 (by decide +kernel) rfl
theorem cs_X4_stepSum : Cond.selects mX4_stepSum.1.cls mX4_stepSum.1 mX4_stepSum.1 ∈ TT := tt_of 980 (by decide +kernel) rfl
abbrev mX4_sumOfAll : jM := (yX4_sumOfAll, cX4_sumOfAll, 1, (some .long), [])
theorem cm_X4_sumOfAll : jYm mX4_sumOfAll 0 := ⟨tt_of 993 (by decide +kernel) rfl, tt_of 53 (by decide +kernel) rfl, ⟨by decide +kernel, by decide +kernel⟩, by decide +kernel, by decide +kernel, by decide +kernel⟩
theorem ci_X4_sumOfAll : Cond.instanceMethod mX4_sumOfAll.1 ∈ TT := tt_of 992 (by decide +kernel) rfl
theorem cs_X4_sumOfAll : Cond.selects mX4_sumOfAll.1.cls mX4_sumOfAll.1 mX4_sumOfAll.1 ∈ TT := tt_of 29 (by decide +kernel) rfl
abbrev mX4_total : jM := (yX4_total, cX4_total, 1, (some .long), [])
theorem cm_X4_total : jYm mX4_total 0 := ⟨tt_of 989 (by decide +kernel) rfl, tt_of 53 (by decide +kernel) rfl, ⟨by decide +kernel, by decide +kernel⟩, by decide +kernel, by decide +kernel, by decide +kernel⟩
theorem ci_X4_total : Cond.instanceMethod mX4_total.1 ∈ TT := tt_of 987 (by decide +kernel) rfl
theorem cs_X4_total : Cond.selects mX4_total.1.cls mX4_total.1 mX4_total.1 ∈ TT := tt_of 988 (by decide +kernel) rfl
abbrev mX4_reaching : jM := (yX4_reaching, cX4_reaching, 6, (some .int), [])
theorem cm_X4_reaching : jYm mX4_reaching 2 := ⟨tt_of 1001 (by decide +kernel) rfl, tt_of 53 (by decide +kernel) rfl, ⟨by decide +kernel, by decide +kernel⟩, by decide +kernel, by decide +kernel, by decide +kernel⟩
theorem ci_X4_reaching : Cond.instanceMethod mX4_reaching.1 ∈ TT := tt_of 1000 (by decide +kernel) rfl
theorem cs_X4_reaching : Cond.selects mX4_reaching.1.cls mX4_reaching.1 mX4_reaching.1 ∈ TT := tt_of 30 (by decide +kernel) rfl
abbrev mX4_firstReaching : jM := (yX4_firstReaching, cX4_firstReaching, 3, (some .int), [])
theorem cm_X4_firstReaching : jYm mX4_firstReaching 2 := ⟨tt_of 997 (by decide +kernel) rfl, tt_of 53 (by decide +kernel) rfl, ⟨by decide +kernel, by decide +kernel⟩, by decide +kernel, by decide +kernel, by decide +kernel⟩
theorem ci_X4_firstReaching : Cond.instanceMethod mX4_firstReaching.1 ∈ TT := tt_of 995 (by decide +kernel) rfl
theorem cs_X4_firstReaching : Cond.selects mX4_firstReaching.1.cls mX4_firstReaching.1 mX4_firstReaching.1 ∈ TT := tt_of 996 (by decide +kernel) rfl
abbrev mX4_run : jM := (yX4_run, cX4_run, 7, (some .long), [])
theorem cm_X4_run : jYm mX4_run 1 := ⟨tt_of 1009 (by decide +kernel) rfl, tt_of 53 (by decide +kernel) rfl, ⟨by decide +kernel, by decide +kernel⟩, by decide +kernel, by decide +kernel, by decide +kernel⟩
theorem ci_X4_run : Cond.instanceMethod mX4_run.1 ∈ TT := tt_of 1008 (by decide +kernel) rfl
theorem cs_X4_run : Cond.selects mX4_run.1.cls mX4_run.1 mX4_run.1 ∈ TT := tt_of 31 (by decide +kernel) rfl
abbrev mX4_bestRun : jM := (yX4_bestRun, cX4_bestRun, 2, (some .long), [])
theorem cm_X4_bestRun : jYm mX4_bestRun 1 := ⟨tt_of 1005 (by decide +kernel) rfl, tt_of 53 (by decide +kernel) rfl, ⟨by decide +kernel, by decide +kernel⟩, by decide +kernel, by decide +kernel, by decide +kernel⟩
theorem ci_X4_bestRun : Cond.instanceMethod mX4_bestRun.1 ∈ TT := tt_of 1003 (by decide +kernel) rfl
theorem cs_X4_bestRun : Cond.selects mX4_bestRun.1.cls mX4_bestRun.1 mX4_bestRun.1 ∈ TT := tt_of 1004 (by decide +kernel) rfl
abbrev mX4_dryPart : jM := (yX4_dryPart, cX4_dryPart, 8, (some .int), [])
theorem cm_X4_dryPart : jYm mX4_dryPart 4 := ⟨tt_of 1018 (by decide +kernel) rfl, tt_of 53 (by decide +kernel) rfl, ⟨by decide +kernel, by decide +kernel⟩, by decide +kernel, by decide +kernel, by decide +kernel⟩
theorem ci_X4_dryPart : Cond.instanceMethod mX4_dryPart.1 ∈ TT := tt_of 1017 (by decide +kernel) rfl
theorem cs_X4_dryPart : Cond.selects mX4_dryPart.1.cls mX4_dryPart.1 mX4_dryPart.1 ∈ TT := tt_of 32 (by decide +kernel) rfl
abbrev mX4_dryIn : jM := (yX4_dryIn, cX4_dryIn, 5, (some .int), [])
theorem cm_X4_dryIn : jYm mX4_dryIn 4 := ⟨tt_of 1014 (by decide +kernel) rfl, tt_of 53 (by decide +kernel) rfl, ⟨by decide +kernel, by decide +kernel⟩, by decide +kernel, by decide +kernel, by decide +kernel⟩
theorem ci_X4_dryIn : Cond.instanceMethod mX4_dryIn.1 ∈ TT := tt_of 1012 (by decide +kernel) rfl
theorem cs_X4_dryIn : Cond.selects mX4_dryIn.1.cls mX4_dryIn.1 mX4_dryIn.1 ∈ TT := tt_of 1013 (by decide +kernel) rfl
abbrev mX4_dryNow : jM := (yX4_dryNow, cX4_dryNow, 1, (some .int), [])
theorem cm_X4_dryNow : jYm mX4_dryNow 0 := ⟨tt_of 1026 (by decide +kernel) rfl, tt_of 53 (by decide +kernel) rfl, ⟨by decide +kernel, by decide +kernel⟩, by decide +kernel, by decide +kernel, by decide +kernel⟩
theorem ci_X4_dryNow : Cond.instanceMethod mX4_dryNow.1 ∈ TT := tt_of 1025 (by decide +kernel) rfl
theorem cs_X4_dryNow : Cond.selects mX4_dryNow.1.cls mX4_dryNow.1 mX4_dryNow.1 ∈ TT := tt_of 33 (by decide +kernel) rfl
abbrev mX4_dry : jM := (yX4_dry, cX4_dry, 1, (some .int), [])
theorem cm_X4_dry : jYm mX4_dry 0 := ⟨tt_of 1022 (by decide +kernel) rfl, tt_of 53 (by decide +kernel) rfl, ⟨by decide +kernel, by decide +kernel⟩, by decide +kernel, by decide +kernel, by decide +kernel⟩
theorem ci_X4_dry : Cond.instanceMethod mX4_dry.1 ∈ TT := tt_of 1020 (by decide +kernel) rfl
theorem cs_X4_dry : Cond.selects mX4_dry.1.cls mX4_dry.1 mX4_dry.1 ∈ TT := tt_of 1021 (by decide +kernel) rfl
abbrev mX4_dryAt : jM := (yX4_dryAt, cX4_dryAt, 4, (some .int), [])
theorem cm_X4_dryAt : jYm mX4_dryAt 1 := ⟨tt_of 1030 (by decide +kernel) rfl, tt_of 53 (by decide +kernel) rfl, ⟨by decide +kernel, by decide +kernel⟩, by decide +kernel, by decide +kernel, by decide +kernel⟩
theorem ci_X4_dryAt : Cond.instanceMethod mX4_dryAt.1 ∈ TT := tt_of 1028 (by decide +kernel) rfl
theorem cs_X4_dryAt : Cond.selects mX4_dryAt.1.cls mX4_dryAt.1 mX4_dryAt.1 ∈ TT := tt_of 1029 (by decide +kernel) rfl
abbrev mX4_longest : jM := (yX4_longest, cX4_longest, 5, (some .int), [])
theorem cm_X4_longest : jYm mX4_longest 1 := ⟨tt_of 1038 (by decide +kernel) rfl, tt_of 53 (by decide +kernel) rfl, ⟨by decide +kernel, by decide +kernel⟩, by decide +kernel, by decide +kernel, by decide +kernel⟩
theorem ci_X4_longest : Cond.instanceMethod mX4_longest.1 ∈ TT := tt_of 1037 (by decide +kernel) rfl
theorem cs_X4_longest : Cond.selects mX4_longest.1.cls mX4_longest.1 mX4_longest.1 ∈ TT := tt_of 34 (by decide +kernel) rfl
abbrev mX4_longestDry : jM := (yX4_longestDry, cX4_longestDry, 2, (some .int), [])
theorem cm_X4_longestDry : jYm mX4_longestDry 1 := ⟨tt_of 1034 (by decide +kernel) rfl, tt_of 53 (by decide +kernel) rfl, ⟨by decide +kernel, by decide +kernel⟩, by decide +kernel, by decide +kernel, by decide +kernel⟩
theorem ci_X4_longestDry : Cond.instanceMethod mX4_longestDry.1 ∈ TT := tt_of 1032 (by decide +kernel) rfl
theorem cs_X4_longestDry : Cond.selects mX4_longestDry.1.cls mX4_longestDry.1 mX4_longestDry.1 ∈ TT := tt_of 1033 (by decide +kernel) rfl
abbrev mX4_driest : jM := (yX4_driest, cX4_driest, 3, (some .int), [])
theorem cm_X4_driest : jYm mX4_driest 0 := ⟨tt_of 1046 (by decide +kernel) rfl, tt_of 53 (by decide +kernel) rfl, ⟨by decide +kernel, by decide +kernel⟩, by decide +kernel, by decide +kernel, by decide +kernel⟩
theorem ci_X4_driest : Cond.instanceMethod mX4_driest.1 ∈ TT := tt_of 1045 (by decide +kernel) rfl
theorem cs_X4_driest : Cond.selects mX4_driest.1.cls mX4_driest.1 mX4_driest.1 ∈ TT := tt_of 35 (by decide +kernel) rfl
abbrev mX4_driestFlight : jM := (yX4_driestFlight, cX4_driestFlight, 1, (some .int), [])
theorem cm_X4_driestFlight : jYm mX4_driestFlight 0 := ⟨tt_of 1042 (by decide +kernel) rfl, tt_of 53 (by decide +kernel) rfl, ⟨by decide +kernel, by decide +kernel⟩, by decide +kernel, by decide +kernel, by decide +kernel⟩
theorem ci_X4_driestFlight : Cond.instanceMethod mX4_driestFlight.1 ∈ TT := tt_of 1040 (by decide +kernel) rfl
theorem cs_X4_driestFlight : Cond.selects mX4_driestFlight.1.cls mX4_driestFlight.1 mX4_driestFlight.1 ∈ TT := tt_of 1041 (by decide +kernel) rfl
abbrev mX4_lowestIn : jM := (yX4_lowestIn, cX4_lowestIn, 8, (some .int), [])
theorem cm_X4_lowestIn : jYm mX4_lowestIn 4 := ⟨tt_of 1050 (by decide +kernel) rfl, tt_of 53 (by decide +kernel) rfl, ⟨by decide +kernel, by decide +kernel⟩, by decide +kernel, by decide +kernel, by decide +kernel⟩
theorem ci_X4_lowestIn : Cond.instanceMethod mX4_lowestIn.1 ∈ TT := tt_of 1048 (by decide +kernel) rfl
theorem cs_X4_lowestIn : Cond.selects mX4_lowestIn.1.cls mX4_lowestIn.1 mX4_lowestIn.1 ∈ TT := tt_of 1049 (by decide +kernel) rfl
abbrev mX4_highest : jM := (yX4_highest, cX4_highest, 4, (some .int), [])
theorem cm_X4_highest : jYm mX4_highest 1 := ⟨tt_of 1058 (by decide +kernel) rfl, tt_of 53 (by decide +kernel) rfl, ⟨by decide +kernel, by decide +kernel⟩, by decide +kernel, by decide +kernel, by decide +kernel⟩
theorem ci_X4_highest : Cond.instanceMethod mX4_highest.1 ∈ TT := tt_of 1057 (by decide +kernel) rfl
theorem cs_X4_highest : Cond.selects mX4_highest.1.cls mX4_highest.1 mX4_highest.1 ∈ TT := tt_of 36 (by decide +kernel) rfl
abbrev mX4_highestAt : jM := (yX4_highestAt, cX4_highestAt, 2, (some .int), [])
theorem cm_X4_highestAt : jYm mX4_highestAt 1 := ⟨tt_of 1054 (by decide +kernel) rfl, tt_of 53 (by decide +kernel) rfl, ⟨by decide +kernel, by decide +kernel⟩, by decide +kernel, by decide +kernel, by decide +kernel⟩
theorem ci_X4_highestAt : Cond.instanceMethod mX4_highestAt.1 ∈ TT := tt_of 1052 (by decide +kernel) rfl
theorem cs_X4_highestAt : Cond.selects mX4_highestAt.1.cls mX4_highestAt.1 mX4_highestAt.1 ∈ TT := tt_of 1053 (by decide +kernel) rfl
abbrev mX4_below : jM := (yX4_below, cX4_below, 4, (some .int), [])
theorem cm_X4_below : jYm mX4_below 1 := ⟨tt_of 1066 (by decide +kernel) rfl, tt_of 53 (by decide +kernel) rfl, ⟨by decide +kernel, by decide +kernel⟩, by decide +kernel, by decide +kernel, by decide +kernel⟩
theorem ci_X4_below : Cond.instanceMethod mX4_below.1 ∈ TT := tt_of 1065 (by decide +kernel) rfl
theorem cs_X4_below : Cond.selects mX4_below.1.cls mX4_below.1 mX4_below.1 ∈ TT := tt_of 37 (by decide +kernel) rfl
abbrev mX4_upTo : jM := (yX4_upTo, cX4_upTo, 2, (some .int), [])
theorem cm_X4_upTo : jYm mX4_upTo 1 := ⟨tt_of 1062 (by decide +kernel) rfl, tt_of 53 (by decide +kernel) rfl, ⟨by decide +kernel, by decide +kernel⟩, by decide +kernel, by decide +kernel, by decide +kernel⟩
theorem ci_X4_upTo : Cond.instanceMethod mX4_upTo.1 ∈ TT := tt_of 1060 (by decide +kernel) rfl
theorem cs_X4_upTo : Cond.selects mX4_upTo.1.cls mX4_upTo.1 mX4_upTo.1 ∈ TT := tt_of 1061 (by decide +kernel) rfl
abbrev mX4_levelInOrder : jM := (yX4_levelInOrder, cX4_levelInOrder, 5, (some .int), [])
theorem cm_X4_levelInOrder : jYm mX4_levelInOrder 1 := ⟨tt_of 1070 (by decide +kernel) rfl, tt_of 53 (by decide +kernel) rfl, ⟨by decide +kernel, by decide +kernel⟩, by decide +kernel, by decide +kernel, by decide +kernel⟩
theorem ci_X4_levelInOrder : Cond.instanceMethod mX4_levelInOrder.1 ∈ TT := tt_of 1068 (by decide +kernel) rfl
theorem cs_X4_levelInOrder : Cond.selects mX4_levelInOrder.1.cls mX4_levelInOrder.1 mX4_levelInOrder.1 ∈ TT := tt_of 1069 (by decide +kernel) rfl
abbrev mX4_pairs : jM := (yX4_pairs, cX4_pairs, 4, (some .int), [])
theorem cm_X4_pairs : jYm mX4_pairs 0 := ⟨tt_of 1078 (by decide +kernel) rfl, tt_of 53 (by decide +kernel) rfl, ⟨by decide +kernel, by decide +kernel⟩, by decide +kernel, by decide +kernel, by decide +kernel⟩
theorem ci_X4_pairs : Cond.instanceMethod mX4_pairs.1 ∈ TT := tt_of 1077 (by decide +kernel) rfl
theorem cs_X4_pairs : Cond.selects mX4_pairs.1.cls mX4_pairs.1 mX4_pairs.1 ∈ TT := tt_of 38 (by decide +kernel) rfl
abbrev mX4_outOfOrder : jM := (yX4_outOfOrder, cX4_outOfOrder, 1, (some .int), [])
theorem cm_X4_outOfOrder : jYm mX4_outOfOrder 0 := ⟨tt_of 1074 (by decide +kernel) rfl, tt_of 53 (by decide +kernel) rfl, ⟨by decide +kernel, by decide +kernel⟩, by decide +kernel, by decide +kernel, by decide +kernel⟩
theorem ci_X4_outOfOrder : Cond.instanceMethod mX4_outOfOrder.1 ∈ TT := tt_of 1072 (by decide +kernel) rfl
theorem cs_X4_outOfOrder : Cond.selects mX4_outOfOrder.1.cls mX4_outOfOrder.1 mX4_outOfOrder.1 ∈ TT := tt_of 1073 (by decide +kernel) rfl
abbrev mX4_alike : jM := (yX4_alike, cX4_alike, 5, (some .int), [])
theorem cm_X4_alike : jYm mX4_alike 2 := ⟨tt_of 1082 (by decide +kernel) rfl, tt_of 53 (by decide +kernel) rfl, ⟨by decide +kernel, by decide +kernel⟩, by decide +kernel, by decide +kernel, by decide +kernel⟩
theorem ci_X4_alike : Cond.instanceMethod mX4_alike.1 ∈ TT := tt_of 1080 (by decide +kernel) rfl
theorem cs_X4_alike : Cond.selects mX4_alike.1.cls mX4_alike.1 mX4_alike.1 ∈ TT := tt_of 1081 (by decide +kernel) rfl
abbrev mX4_changed : jM := (yX4_changed, cX4_changed, 4, (some .int), [])
theorem cm_X4_changed : jYm mX4_changed 1 := ⟨tt_of 1090 (by decide +kernel) rfl, tt_of 53 (by decide +kernel) rfl, ⟨by decide +kernel, by decide +kernel⟩, by decide +kernel, by decide +kernel, by decide +kernel⟩
theorem ci_X4_changed : Cond.instanceMethod mX4_changed.1 ∈ TT := tt_of 1089 (by decide +kernel) rfl
theorem cs_X4_changed : Cond.selects mX4_changed.1.cls mX4_changed.1 mX4_changed.1 ∈ TT := tt_of 39 (by decide +kernel) rfl
abbrev mX4_changedSince : jM := (yX4_changedSince, cX4_changedSince, 2, (some .int), [])
theorem cm_X4_changedSince : jYm mX4_changedSince 1 := ⟨tt_of 1086 (by decide +kernel) rfl, tt_of 53 (by decide +kernel) rfl, ⟨by decide +kernel, by decide +kernel⟩, by decide +kernel, by decide +kernel, by decide +kernel⟩
theorem ci_X4_changedSince : Cond.instanceMethod mX4_changedSince.1 ∈ TT := tt_of 1084 (by decide +kernel) rfl
theorem cs_X4_changedSince : Cond.selects mX4_changedSince.1.cls mX4_changedSince.1 mX4_changedSince.1 ∈ TT := tt_of 1085 (by decide +kernel) rfl
abbrev mX4_later : jM := (yX4_later, cX4_later, 5, (some .long), [])
theorem cm_X4_later : jYm mX4_later 1 := ⟨tt_of 1098 (by decide +kernel) rfl, tt_of 53 (by decide +kernel) rfl, ⟨by decide +kernel, by decide +kernel⟩, by decide +kernel, by decide +kernel, by decide +kernel⟩
theorem ci_X4_later : Cond.instanceMethod mX4_later.1 ∈ TT := tt_of 1097 (by decide +kernel) rfl
theorem cs_X4_later : Cond.selects mX4_later.1.cls mX4_later.1 mX4_later.1 ∈ TT := tt_of 40 (by decide +kernel) rfl
abbrev mX4_totalIn : jM := (yX4_totalIn, cX4_totalIn, 2, (some .long), [])
theorem cm_X4_totalIn : jYm mX4_totalIn 1 := ⟨tt_of 1094 (by decide +kernel) rfl, tt_of 53 (by decide +kernel) rfl, ⟨by decide +kernel, by decide +kernel⟩, by decide +kernel, by decide +kernel, by decide +kernel⟩
theorem ci_X4_totalIn : Cond.instanceMethod mX4_totalIn.1 ∈ TT := tt_of 1092 (by decide +kernel) rfl
theorem cs_X4_totalIn : Cond.selects mX4_totalIn.1.cls mX4_totalIn.1 mX4_totalIn.1 ∈ TT := tt_of 1093 (by decide +kernel) rfl
abbrev mX4_goneIn : jM := (yX4_goneIn, cX4_goneIn, 2, (some .int), [])
theorem cm_X4_goneIn : jYm mX4_goneIn 1 := ⟨tt_of 1110 (by decide +kernel) rfl, tt_of 53 (by decide +kernel) rfl, ⟨by decide +kernel, by decide +kernel⟩, by decide +kernel, by decide +kernel, by decide +kernel⟩
theorem ci_X4_goneIn : Cond.instanceMethod mX4_goneIn.1 ∈ TT := tt_of 1108 (by decide +kernel) rfl
theorem cs_X4_goneIn : Cond.selects mX4_goneIn.1.cls mX4_goneIn.1 mX4_goneIn.1 ∈ TT := tt_of 1109 (by decide +kernel) rfl
abbrev mX4_untilDry : jM := (yX4_untilDry, cX4_untilDry, 2, (some .int), [])
theorem cm_X4_untilDry : jYm mX4_untilDry 0 := ⟨tt_of 1118 (by decide +kernel) rfl, tt_of 53 (by decide +kernel) rfl, ⟨by decide +kernel, by decide +kernel⟩, by decide +kernel, by decide +kernel, by decide +kernel⟩
theorem ci_X4_untilDry : Cond.instanceMethod mX4_untilDry.1 ∈ TT := tt_of 1117 (by decide +kernel) rfl
theorem cs_X4_untilDry : Cond.selects mX4_untilDry.1.cls mX4_untilDry.1 mX4_untilDry.1 ∈ TT := tt_of 43 (by decide +kernel) rfl
abbrev mX4_hoursUntilDry : jM := (yX4_hoursUntilDry, cX4_hoursUntilDry, 1, (some .int), [])
theorem cm_X4_hoursUntilDry : jYm mX4_hoursUntilDry 0 := ⟨tt_of 1114 (by decide +kernel) rfl, tt_of 53 (by decide +kernel) rfl, ⟨by decide +kernel, by decide +kernel⟩, by decide +kernel, by decide +kernel, by decide +kernel⟩
theorem ci_X4_hoursUntilDry : Cond.instanceMethod mX4_hoursUntilDry.1 ∈ TT := tt_of 1112 (by decide +kernel) rfl
theorem cs_X4_hoursUntilDry : Cond.selects mX4_hoursUntilDry.1.cls mX4_hoursUntilDry.1 mX4_hoursUntilDry.1 ∈ TT := tt_of 1113 (by decide +kernel) rfl
abbrev mX4_wanted : jM := (yX4_wanted, cX4_wanted, 3, (some .int), [])
theorem cm_X4_wanted : jYm mX4_wanted 1 := ⟨tt_of 1130 (by decide +kernel) rfl, tt_of 53 (by decide +kernel) rfl, ⟨by decide +kernel, by decide +kernel⟩, by decide +kernel, by decide +kernel, by decide +kernel⟩
theorem ci_X4_wanted : Cond.instanceMethod mX4_wanted.1 ∈ TT := tt_of 1129 (by decide +kernel) rfl
theorem cs_X4_wanted : Cond.selects mX4_wanted.1.cls mX4_wanted.1 mX4_wanted.1 ∈ TT := tt_of 45 (by decide +kernel) rfl
abbrev mX4_sunWanted : jM := (yX4_sunWanted, cX4_sunWanted, 2, (some .int), [])
theorem cm_X4_sunWanted : jYm mX4_sunWanted 1 := ⟨tt_of 1126 (by decide +kernel) rfl, tt_of 53 (by decide +kernel) rfl, ⟨by decide +kernel, by decide +kernel⟩, by decide +kernel, by decide +kernel, by decide +kernel⟩
theorem ci_X4_sunWanted : Cond.instanceMethod mX4_sunWanted.1 ∈ TT := tt_of 1124 (by decide +kernel) rfl
theorem cs_X4_sunWanted : Cond.selects mX4_sunWanted.1.cls mX4_sunWanted.1 mX4_sunWanted.1 ∈ TT := tt_of 1125 (by decide +kernel) rfl
abbrev mX4_bestEdge : jM := (yX4_bestEdge, cX4_bestEdge, 8, (some .int), [])
theorem cm_X4_bestEdge : jYm mX4_bestEdge 2 := ⟨tt_of 1134 (by decide +kernel) rfl, tt_of 53 (by decide +kernel) rfl, ⟨by decide +kernel, by decide +kernel⟩, by decide +kernel, by decide +kernel, by decide +kernel⟩
theorem ci_X4_bestEdge : Cond.instanceMethod mX4_bestEdge.1 ∈ TT := tt_of 1132 (by decide +kernel) rfl
theorem cs_X4_bestEdge : Cond.selects mX4_bestEdge.1.cls mX4_bestEdge.1 mX4_bestEdge.1 ∈ TT := tt_of 1133 (by decide +kernel) rfl
abbrev mX4_swapFor : jM := (yX4_swapFor, cX4_swapFor, 6, (some .int), [])
theorem cm_X4_swapFor : jYm mX4_swapFor 1 := ⟨tt_of 1142 (by decide +kernel) rfl, tt_of 53 (by decide +kernel) rfl, ⟨by decide +kernel, by decide +kernel⟩, by decide +kernel, by decide +kernel, by decide +kernel⟩
theorem ci_X4_swapFor : Cond.instanceMethod mX4_swapFor.1 ∈ TT := tt_of 1141 (by decide +kernel) rfl
theorem cs_X4_swapFor : Cond.selects mX4_swapFor.1.cls mX4_swapFor.1 mX4_swapFor.1 ∈ TT := tt_of 46 (by decide +kernel) rfl
abbrev mX4_bestSwap : jM := (yX4_bestSwap, cX4_bestSwap, 2, (some .int), [])
theorem cm_X4_bestSwap : jYm mX4_bestSwap 1 := ⟨tt_of 1138 (by decide +kernel) rfl, tt_of 53 (by decide +kernel) rfl, ⟨by decide +kernel, by decide +kernel⟩, by decide +kernel, by decide +kernel, by decide +kernel⟩
theorem ci_X4_bestSwap : Cond.instanceMethod mX4_bestSwap.1 ∈ TT := tt_of 1136 (by decide +kernel) rfl
theorem cs_X4_bestSwap : Cond.selects mX4_bestSwap.1.cls mX4_bestSwap.1 mX4_bestSwap.1 ∈ TT := tt_of 1137 (by decide +kernel) rfl
abbrev mX4_meanLevel : jM := (yX4_meanLevel, cX4_meanLevel, 1, (some .double), [])
theorem cm_X4_meanLevel : jYm mX4_meanLevel 0 := ⟨tt_of 1146 (by decide +kernel) rfl, tt_of 53 (by decide +kernel) rfl, ⟨by decide +kernel, by decide +kernel⟩, by decide +kernel, by decide +kernel, by decide +kernel⟩
theorem ci_X4_meanLevel : Cond.instanceMethod mX4_meanLevel.1 ∈ TT := tt_of 1144 (by decide +kernel) rfl
theorem cs_X4_meanLevel : Cond.selects mX4_meanLevel.1.cls mX4_meanLevel.1 mX4_meanLevel.1 ∈ TT := tt_of 1145 (by decide +kernel) rfl
abbrev mX4_digest : jM := (yX4_digest, cX4_digest, 9, (some .long), [])
theorem cm_X4_digest : jYm mX4_digest 0 := ⟨tt_of 1150 (by decide +kernel) rfl, tt_of 53 (by decide +kernel) rfl, ⟨by decide +kernel, by decide +kernel⟩, by decide +kernel, by decide +kernel, by decide +kernel⟩
theorem ci_X4_digest : Cond.instanceMethod mX4_digest.1 ∈ TT := tt_of 1148 (by decide +kernel) rfl
theorem cs_X4_digest : Cond.selects mX4_digest.1.cls mX4_digest.1 mX4_digest.1 ∈ TT := tt_of 1149 (by decide +kernel) rfl
abbrev mL_lay : jM := (yL_lay, cL_lay, 5, (some .int), [(0, 10, 13, 13)])
theorem cm_L_lay : jYm mL_lay 4 := ⟨tt_of 490 (by decide +kernel) rfl, tt_of 47 (by decide +kernel) rfl, ⟨by decide +kernel, by decide +kernel⟩, by decide +kernel, by decide +kernel, by decide +kernel⟩
theorem ct_L_lay : Cond.static mL_lay.1 ∈ TT := tt_of 489 (by decide +kernel) rfl
abbrev mL_rain : jM := (yL_rain, cL_rain, 6, (some .int), [(0, 12, 15, 19), (0, 12, 19, 13)])
theorem cm_L_rain : jYm mL_rain 5 := ⟨tt_of 502 (by decide +kernel) rfl, tt_of 47 (by decide +kernel) rfl, ⟨by decide +kernel, by decide +kernel⟩, by decide +kernel, by decide +kernel, by decide +kernel⟩
theorem ct_L_rain : Cond.static mL_rain.1 ∈ TT := tt_of 501 (by decide +kernel) rfl
abbrev mL_splash : jM := (yL_splash, cL_splash, 8, (some .int), [(0, 16, 19, 19), (0, 16, 23, 13)])
theorem cm_L_splash : jYm mL_splash 7 := ⟨tt_of 528 (by decide +kernel) rfl, tt_of 47 (by decide +kernel) rfl, ⟨by decide +kernel, by decide +kernel⟩, by decide +kernel, by decide +kernel, by decide +kernel⟩
theorem ct_L_splash : Cond.static mL_splash.1 ∈ TT := tt_of 527 (by decide +kernel) rfl
abbrev mL_swap : jM := (yL_swap, cL_swap, 5, (some .int), [(0, 10, 13, 19)])
theorem cm_L_swap : jYm mL_swap 4 := ⟨tt_of 540 (by decide +kernel) rfl, tt_of 47 (by decide +kernel) rfl, ⟨by decide +kernel, by decide +kernel⟩, by decide +kernel, by decide +kernel, by decide +kernel⟩
theorem ct_L_swap : Cond.static mL_swap.1 ∈ TT := tt_of 539 (by decide +kernel) rfl
abbrev mL_turn : jM := (yL_turn, cL_turn, 4, (some .int), [(0, 9, 12, 19)])
theorem cm_L_turn : jYm mL_turn 3 := ⟨tt_of 556 (by decide +kernel) rfl, tt_of 47 (by decide +kernel) rfl, ⟨by decide +kernel, by decide +kernel⟩, by decide +kernel, by decide +kernel, by decide +kernel⟩
theorem ct_L_turn : Cond.static mL_turn.1 ∈ TT := tt_of 555 (by decide +kernel) rfl
abbrev mL_bail : jM := (yL_bail, cL_bail, 5, (some .int), [(0, 10, 13, 19), (0, 10, 17, 13)])
theorem cm_L_bail : jYm mL_bail 4 := ⟨tt_of 563 (by decide +kernel) rfl, tt_of 47 (by decide +kernel) rfl, ⟨by decide +kernel, by decide +kernel⟩, by decide +kernel, by decide +kernel, by decide +kernel⟩
theorem ct_L_bail : Cond.static mL_bail.1 ∈ TT := tt_of 562 (by decide +kernel) rfl
abbrev mL_passHours : jM := (yL_passHours, cL_passHours, 4, (some .int), [(0, 9, 12, 13)])
theorem cm_L_passHours : jYm mL_passHours 3 := ⟨tt_of 571 (by decide +kernel) rfl, tt_of 47 (by decide +kernel) rfl, ⟨by decide +kernel, by decide +kernel⟩, by decide +kernel, by decide +kernel, by decide +kernel⟩
theorem ct_L_passHours : Cond.static mL_passHours.1 ∈ TT := tt_of 570 (by decide +kernel) rfl
abbrev mL_mark : jM := (yL_mark, cL_mark, 3, (some .int), [(0, 8, 11, 42)])
theorem cm_L_mark : jYm mL_mark 2 := ⟨tt_of 578 (by decide +kernel) rfl, tt_of 47 (by decide +kernel) rfl, ⟨by decide +kernel, by decide +kernel⟩, by decide +kernel, by decide +kernel, by decide +kernel⟩
theorem ct_L_mark : Cond.static mL_mark.1 ∈ TT := tt_of 577 (by decide +kernel) rfl
abbrev mL_back : jM := (yL_back, cL_back, 4, (some .int), [(0, 9, 12, 19)])
theorem cm_L_back : jYm mL_back 3 := ⟨tt_of 602 (by decide +kernel) rfl, tt_of 47 (by decide +kernel) rfl, ⟨by decide +kernel, by decide +kernel⟩, by decide +kernel, by decide +kernel, by decide +kernel⟩
theorem ct_L_back : Cond.static mL_back.1 ∈ TT := tt_of 601 (by decide +kernel) rfl
abbrev mL_undo : jM := (yL_undo, cL_undo, 3, (some .int), [(0, 8, 11, 42)])
theorem cm_L_undo : jYm mL_undo 2 := ⟨tt_of 614 (by decide +kernel) rfl, tt_of 47 (by decide +kernel) rfl, ⟨by decide +kernel, by decide +kernel⟩, by decide +kernel, by decide +kernel, by decide +kernel⟩
theorem ct_L_undo : Cond.static mL_undo.1 ∈ TT := tt_of 613 (by decide +kernel) rfl
abbrev mL_setSun : jM := (yL_setSun, cL_setSun, 4, (some .int), [(0, 9, 12, 13)])
theorem cm_L_setSun : jYm mL_setSun 3 := ⟨tt_of 626 (by decide +kernel) rfl, tt_of 47 (by decide +kernel) rfl, ⟨by decide +kernel, by decide +kernel⟩, by decide +kernel, by decide +kernel, by decide +kernel⟩
theorem ct_L_setSun : Cond.static mL_setSun.1 ∈ TT := tt_of 625 (by decide +kernel) rfl
abbrev mL_setEdge : jM := (yL_setEdge, cL_setEdge, 5, (some .int), [(0, 10, 13, 19), (0, 10, 17, 13)])
theorem cm_L_setEdge : jYm mL_setEdge 4 := ⟨tt_of 633 (by decide +kernel) rfl, tt_of 47 (by decide +kernel) rfl, ⟨by decide +kernel, by decide +kernel⟩, by decide +kernel, by decide +kernel, by decide +kernel⟩
theorem ct_L_setEdge : Cond.static mL_setEdge.1 ∈ TT := tt_of 632 (by decide +kernel) rfl
abbrev mL_edgeOf : jM := (yL_edgeOf, cL_edgeOf, 4, (some .int), [(0, 9, 12, 19)])
theorem cm_L_edgeOf : jYm mL_edgeOf 3 := ⟨tt_of 640 (by decide +kernel) rfl, tt_of 47 (by decide +kernel) rfl, ⟨by decide +kernel, by decide +kernel⟩, by decide +kernel, by decide +kernel, by decide +kernel⟩
theorem ct_L_edgeOf : Cond.static mL_edgeOf.1 ∈ TT := tt_of 639 (by decide +kernel) rfl
abbrev mL_levelAt : jM := (yL_levelAt, cL_levelAt, 5, (some .int), [(0, 10, 13, 19)])
theorem cm_L_levelAt : jYm mL_levelAt 4 := ⟨tt_of 644 (by decide +kernel) rfl, tt_of 47 (by decide +kernel) rfl, ⟨by decide +kernel, by decide +kernel⟩, by decide +kernel, by decide +kernel, by decide +kernel⟩
theorem ct_L_levelAt : Cond.static mL_levelAt.1 ∈ TT := tt_of 643 (by decide +kernel) rfl
abbrev mL_sumOf : jM := (yL_sumOf, cL_sumOf, 7, (some .int), [(0, 13, 16, 19), (0, 13, 20, 13)])
theorem cm_L_sumOf : jYm mL_sumOf 6 := ⟨tt_of 651 (by decide +kernel) rfl, tt_of 47 (by decide +kernel) rfl, ⟨by decide +kernel, by decide +kernel⟩, by decide +kernel, by decide +kernel, by decide +kernel⟩
theorem ct_L_sumOf : Cond.static mL_sumOf.1 ∈ TT := tt_of 650 (by decide +kernel) rfl
abbrev mL_sumTo : jM := (yL_sumTo, cL_sumTo, 5, (some .int), [(0, 9, 12, 19)])
theorem cm_L_sumTo : jYm mL_sumTo 4 := ⟨tt_of 658 (by decide +kernel) rfl, tt_of 47 (by decide +kernel) rfl, ⟨by decide +kernel, by decide +kernel⟩, by decide +kernel, by decide +kernel, by decide +kernel⟩
theorem ct_L_sumTo : Cond.static mL_sumTo.1 ∈ TT := tt_of 657 (by decide +kernel) rfl
abbrev mL_flightSum : jM := (yL_flightSum, cL_flightSum, 4, (some .int), [(0, 8, 11, 19)])
theorem cm_L_flightSum : jYm mL_flightSum 3 := ⟨tt_of 665 (by decide +kernel) rfl, tt_of 47 (by decide +kernel) rfl, ⟨by decide +kernel, by decide +kernel⟩, by decide +kernel, by decide +kernel, by decide +kernel⟩
theorem ct_L_flightSum : Cond.static mL_flightSum.1 ∈ TT := tt_of 664 (by decide +kernel) rfl
abbrev mL_stepSum : jM := (yL_stepSum, cL_stepSum, 4, (some .int), [(0, 8, 11, 19)])
theorem cm_L_stepSum : jYm mL_stepSum 3 := ⟨tt_of 669 (by decide +kernel) rfl, tt_of 47 (by decide +kernel) rfl, ⟨by decide +kernel, by decide +kernel⟩, by decide +kernel, by decide +kernel, by decide +kernel⟩
theorem ct_L_stepSum : Cond.static mL_stepSum.1 ∈ TT := tt_of 668 (by decide +kernel) rfl
abbrev mL_firstReaching : jM := (yL_firstReaching, cL_firstReaching, 5, (some .int), [(0, 10, 13, 19)])
theorem cm_L_firstReaching : jYm mL_firstReaching 4 := ⟨tt_of 673 (by decide +kernel) rfl, tt_of 47 (by decide +kernel) rfl, ⟨by decide +kernel, by decide +kernel⟩, by decide +kernel, by decide +kernel, by decide +kernel⟩
theorem ct_L_firstReaching : Cond.static mL_firstReaching.1 ∈ TT := tt_of 672 (by decide +kernel) rfl
abbrev mL_bestRun : jM := (yL_bestRun, cL_bestRun, 4, (some .int), [(0, 8, 11, 19)])
theorem cm_L_bestRun : jYm mL_bestRun 3 := ⟨tt_of 680 (by decide +kernel) rfl, tt_of 47 (by decide +kernel) rfl, ⟨by decide +kernel, by decide +kernel⟩, by decide +kernel, by decide +kernel, by decide +kernel⟩
theorem ct_L_bestRun : Cond.static mL_bestRun.1 ∈ TT := tt_of 679 (by decide +kernel) rfl
abbrev mL_dryIn : jM := (yL_dryIn, cL_dryIn, 7, (some .int), [(0, 14, 17, 19), (0, 14, 21, 13)])
theorem cm_L_dryIn : jYm mL_dryIn 6 := ⟨tt_of 684 (by decide +kernel) rfl, tt_of 47 (by decide +kernel) rfl, ⟨by decide +kernel, by decide +kernel⟩, by decide +kernel, by decide +kernel, by decide +kernel⟩
theorem ct_L_dryIn : Cond.static mL_dryIn.1 ∈ TT := tt_of 683 (by decide +kernel) rfl
abbrev mL_dryAt : jM := (yL_dryAt, cL_dryAt, 4, (some .int), [(0, 9, 12, 19)])
theorem cm_L_dryAt : jYm mL_dryAt 3 := ⟨tt_of 691 (by decide +kernel) rfl, tt_of 47 (by decide +kernel) rfl, ⟨by decide +kernel, by decide +kernel⟩, by decide +kernel, by decide +kernel, by decide +kernel⟩
theorem ct_L_dryAt : Cond.static mL_dryAt.1 ∈ TT := tt_of 690 (by decide +kernel) rfl
abbrev mL_longestDry : jM := (yL_longestDry, cL_longestDry, 4, (some .int), [(0, 9, 12, 19)])
theorem cm_L_longestDry : jYm mL_longestDry 3 := ⟨tt_of 699 (by decide +kernel) rfl, tt_of 47 (by decide +kernel) rfl, ⟨by decide +kernel, by decide +kernel⟩, by decide +kernel, by decide +kernel, by decide +kernel⟩
theorem ct_L_longestDry : Cond.static mL_longestDry.1 ∈ TT := tt_of 698 (by decide +kernel) rfl
abbrev mL_lowestIn : jM := (yL_lowestIn, cL_lowestIn, 7, (some .int), [(0, 14, 17, 19), (0, 14, 21, 13)])
theorem cm_L_lowestIn : jYm mL_lowestIn 6 := ⟨tt_of 703 (by decide +kernel) rfl, tt_of 47 (by decide +kernel) rfl, ⟨by decide +kernel, by decide +kernel⟩, by decide +kernel, by decide +kernel, by decide +kernel⟩
theorem ct_L_lowestIn : Cond.static mL_lowestIn.1 ∈ TT := tt_of 702 (by decide +kernel) rfl
abbrev mL_highestAt : jM := (yL_highestAt, cL_highestAt, 4, (some .int), [(0, 9, 12, 19)])
theorem cm_L_highestAt : jYm mL_highestAt 3 := ⟨tt_of 711 (by decide +kernel) rfl, tt_of 47 (by decide +kernel) rfl, ⟨by decide +kernel, by decide +kernel⟩, by decide +kernel, by decide +kernel, by decide +kernel⟩
theorem ct_L_highestAt : Cond.static mL_highestAt.1 ∈ TT := tt_of 710 (by decide +kernel) rfl
abbrev mL_levelInOrder : jM := (yL_levelInOrder, cL_levelInOrder, 4, (some .int), [(0, 9, 12, 19)])
theorem cm_L_levelInOrder : jYm mL_levelInOrder 3 := ⟨tt_of 715 (by decide +kernel) rfl, tt_of 47 (by decide +kernel) rfl, ⟨by decide +kernel, by decide +kernel⟩, by decide +kernel, by decide +kernel, by decide +kernel⟩
theorem ct_L_levelInOrder : Cond.static mL_levelInOrder.1 ∈ TT := tt_of 714 (by decide +kernel) rfl
abbrev mL_alike : jM := (yL_alike, cL_alike, 5, (some .int), [(0, 10, 13, 19)])
theorem cm_L_alike : jYm mL_alike 4 := ⟨tt_of 722 (by decide +kernel) rfl, tt_of 47 (by decide +kernel) rfl, ⟨by decide +kernel, by decide +kernel⟩, by decide +kernel, by decide +kernel, by decide +kernel⟩
theorem ct_L_alike : Cond.static mL_alike.1 ∈ TT := tt_of 721 (by decide +kernel) rfl
abbrev mL_changedSince : jM := (yL_changedSince, cL_changedSince, 4, (some .int), [(0, 9, 12, 19)])
theorem cm_L_changedSince : jYm mL_changedSince 3 := ⟨tt_of 729 (by decide +kernel) rfl, tt_of 47 (by decide +kernel) rfl, ⟨by decide +kernel, by decide +kernel⟩, by decide +kernel, by decide +kernel, by decide +kernel⟩
theorem ct_L_changedSince : Cond.static mL_changedSince.1 ∈ TT := tt_of 728 (by decide +kernel) rfl
abbrev mL_totalIn : jM := (yL_totalIn, cL_totalIn, 4, (some .int), [(0, 8, 11, 13)])
theorem cm_L_totalIn : jYm mL_totalIn 3 := ⟨tt_of 733 (by decide +kernel) rfl, tt_of 47 (by decide +kernel) rfl, ⟨by decide +kernel, by decide +kernel⟩, by decide +kernel, by decide +kernel, by decide +kernel⟩
theorem ct_L_totalIn : Cond.static mL_totalIn.1 ∈ TT := tt_of 732 (by decide +kernel) rfl
abbrev mL_goneIn : jM := (yL_goneIn, cL_goneIn, 4, (some .int), [(0, 9, 12, 13)])
theorem cm_L_goneIn : jYm mL_goneIn 3 := ⟨tt_of 737 (by decide +kernel) rfl, tt_of 47 (by decide +kernel) rfl, ⟨by decide +kernel, by decide +kernel⟩, by decide +kernel, by decide +kernel, by decide +kernel⟩
theorem ct_L_goneIn : Cond.static mL_goneIn.1 ∈ TT := tt_of 736 (by decide +kernel) rfl
abbrev mL_sunWanted : jM := (yL_sunWanted, cL_sunWanted, 4, (some .int), [(0, 9, 12, 13)])
theorem cm_L_sunWanted : jYm mL_sunWanted 3 := ⟨tt_of 741 (by decide +kernel) rfl, tt_of 47 (by decide +kernel) rfl, ⟨by decide +kernel, by decide +kernel⟩, by decide +kernel, by decide +kernel, by decide +kernel⟩
theorem ct_L_sunWanted : Cond.static mL_sunWanted.1 ∈ TT := tt_of 740 (by decide +kernel) rfl
abbrev mL_bestEdge : jM := (yL_bestEdge, cL_bestEdge, 5, (some .int), [(0, 10, 13, 19), (0, 10, 17, 13)])
theorem cm_L_bestEdge : jYm mL_bestEdge 4 := ⟨tt_of 745 (by decide +kernel) rfl, tt_of 47 (by decide +kernel) rfl, ⟨by decide +kernel, by decide +kernel⟩, by decide +kernel, by decide +kernel, by decide +kernel⟩
theorem ct_L_bestEdge : Cond.static mL_bestEdge.1 ∈ TT := tt_of 744 (by decide +kernel) rfl
abbrev mL_bestSwap : jM := (yL_bestSwap, cL_bestSwap, 4, (some .int), [(0, 9, 12, 19)])
theorem cm_L_bestSwap : jYm mL_bestSwap 3 := ⟨tt_of 752 (by decide +kernel) rfl, tt_of 47 (by decide +kernel) rfl, ⟨by decide +kernel, by decide +kernel⟩, by decide +kernel, by decide +kernel, by decide +kernel⟩
theorem ct_L_bestSwap : Cond.static mL_bestSwap.1 ∈ TT := tt_of 751 (by decide +kernel) rfl
abbrev mL_law : jM := (x, code, maxLocals, ret, [])
theorem wcl_X0 : ∀ w ∈ wsX00, w ∈ TT := by decide +kernel
theorem fp_X0 : jFp TX0 2 tyX0 := ⟨tyX0_ok, nmX0⟩
theorem wcl_X1 : ∀ w ∈ wsX10, w ∈ TT := by decide +kernel
theorem fp_X1 : jFp TX1 3 tyX1 := ⟨tyX1_ok, nmX1⟩
theorem wcl_X2 : ∀ w ∈ wsX20, w ∈ TT := by decide +kernel
theorem fp_X2 : jFp TX2 5 tyX2 := ⟨tyX2_ok, nmX2⟩
theorem wcl_X3 : ∀ w ∈ wsX30, w ∈ TT := by decide +kernel
theorem fp_X3 : jFp TX3 7 tyX3 := ⟨tyX3_ok, nmX3⟩
theorem wcl_X4 : ∀ w ∈ wsX40, w ∈ TT := by decide +kernel
theorem fp_X4 : jFp TX4 14 tyX4 := ⟨tyX4_ok, nmX4⟩
theorem iz_PuddleStairsLaw : Cond.initialized RL ∈ TT := tt_of 47 (by decide +kernel) rfl
theorem iz_X3 : Cond.initialized RX3 ∈ TT := tt_of 48 (by decide +kernel) rfl
theorem iz_X2 : Cond.initialized RX2 ∈ TT := tt_of 49 (by decide +kernel) rfl
theorem iz_X1 : Cond.initialized RX1 ∈ TT := tt_of 50 (by decide +kernel) rfl
theorem iz_java_lang_Math : Cond.initialized "java/lang/Math" ∈ TT := tt_of 51 (by decide +kernel) rfl
theorem iz_X0 : Cond.initialized RX0 ∈ TT := tt_of 52 (by decide +kernel) rfl
theorem iz_X4 : Cond.initialized RX4 ∈ TT := tt_of 53 (by decide +kernel) rfl
theorem iz_java_lang_Throwable : Cond.initialized "java/lang/Throwable" ∈ TT := tt_of 54 (by decide +kernel) rfl
theorem iz_java_lang_Exception : Cond.initialized "java/lang/Exception" ∈ TT := tt_of 55 (by decide +kernel) rfl
theorem iz_java_lang_RuntimeException : Cond.initialized "java/lang/RuntimeException" ∈ TT := tt_of 56 (by decide +kernel) rfl
theorem iz_java_lang_IllegalArgumentException : Cond.initialized "java/lang/IllegalArgumentException" ∈ TT := tt_of 57 (by decide +kernel) rfl
theorem iz_java_lang_IndexOutOfBoundsException : Cond.initialized "java/lang/IndexOutOfBoundsException" ∈ TT := tt_of 58 (by decide +kernel) rfl
theorem iz_java_lang_System : Cond.initialized "java/lang/System" ∈ TT := tt_of 59 (by decide +kernel) rfl
theorem iz_java_lang_IllegalStateException : Cond.initialized "java/lang/IllegalStateException" ∈ TT := tt_of 60 (by decide +kernel) rfl
theorem cl_L_8 : Cond.classLink RL 8 RX3 ∈ TT := tt_of 61 (by decide +kernel) rfl
theorem in_X3 : Cond.instantiable RX3 7 ∈ TT := tt_of 62 (by decide +kernel) rfl
theorem ln_L_123 : Cond.methodLink RL 123 mX3_init.1 ∈ TT := tt_of 63 (by decide +kernel) rfl
theorem ln_X3_3 : Cond.methodLink RX3 3 Lib.objectInit ∈ TT := tt_of 66 (by decide +kernel) rfl
theorem cl_X3_9 : Cond.classLink RX3 9 RX2 ∈ TT := tt_of 69 (by decide +kernel) rfl
theorem in_X2 : Cond.instantiable RX2 5 ∈ TT := tt_of 70 (by decide +kernel) rfl
theorem ln_X3_11 : ∃ host, Cond.methodLinkNest RX3 11 mX2_init.1 host ∈ NW := ⟨"PuddleStairs", nw_of 71 (by decide +kernel) rfl⟩
theorem ln_X2_3 : Cond.methodLink RX2 3 Lib.objectInit ∈ TT := tt_of 74 (by decide +kernel) rfl
theorem fl_X2_9 : jFl RX2 9 RX2 TX2 5 2 0 := ⟨rfl, by decide, wcl_X2, Or.inl (tt_of 75 (by decide +kernel) rfl)⟩
theorem fl_X1_39 : jFl RX1 39 RX2 TX2 5 2 0 := ⟨rfl, by decide, wcl_X2, Or.inr ⟨"PuddleStairs", nw_of 76 (by decide +kernel) rfl⟩⟩
theorem fl_X3_173 : jFl RX3 173 RX2 TX2 5 2 0 := ⟨rfl, by decide, wcl_X2, Or.inr ⟨"PuddleStairs", nw_of 77 (by decide +kernel) rfl⟩⟩
theorem fl_X2_15 : jFl RX2 15 RX2 TX2 5 2 1 := ⟨rfl, by decide, wcl_X2, Or.inl (tt_of 78 (by decide +kernel) rfl)⟩
theorem fl_X3_144 : jFl RX3 144 RX2 TX2 5 2 1 := ⟨rfl, by decide, wcl_X2, Or.inr ⟨"PuddleStairs", nw_of 79 (by decide +kernel) rfl⟩⟩
theorem fl_X0_16 : jFl RX0 16 RX2 TX2 5 2 2 := ⟨rfl, by decide, wcl_X2, Or.inr ⟨"PuddleStairs", nw_of 80 (by decide +kernel) rfl⟩⟩
theorem fl_X2_27 : jFl RX2 27 RX2 TX2 5 2 2 := ⟨rfl, by decide, wcl_X2, Or.inl (tt_of 81 (by decide +kernel) rfl)⟩
theorem fl_X3_148 : jFl RX3 148 RX2 TX2 5 2 2 := ⟨rfl, by decide, wcl_X2, Or.inr ⟨"PuddleStairs", nw_of 82 (by decide +kernel) rfl⟩⟩
theorem fl_X2_31 : jFl RX2 31 RX2 TX2 5 2 3 := ⟨rfl, by decide, wcl_X2, Or.inl (tt_of 83 (by decide +kernel) rfl)⟩
theorem fl_X0_27 : jFl RX0 27 RX2 TX2 5 2 3 := ⟨rfl, by decide, wcl_X2, Or.inr ⟨"PuddleStairs", nw_of 84 (by decide +kernel) rfl⟩⟩
theorem fl_X3_77 : jFl RX3 77 RX2 TX2 5 2 3 := ⟨rfl, by decide, wcl_X2, Or.inr ⟨"PuddleStairs", nw_of 85 (by decide +kernel) rfl⟩⟩
theorem fl_X3_38 : jFl RX3 38 RX2 TX2 5 2 4 := ⟨rfl, by decide, wcl_X2, Or.inr ⟨"PuddleStairs", nw_of 86 (by decide +kernel) rfl⟩⟩
theorem fl_X2_34 : jFl RX2 34 RX2 TX2 5 2 4 := ⟨rfl, by decide, wcl_X2, Or.inl (tt_of 87 (by decide +kernel) rfl)⟩
theorem ac_int : Cond.arrayClass .int ∈ TT := tt_of 99 (by decide +kernel) rfl
theorem cl_X3_19 : Cond.classLink RX3 19 RX1 ∈ TT := tt_of 100 (by decide +kernel) rfl
theorem in_X1 : Cond.instantiable RX1 3 ∈ TT := tt_of 101 (by decide +kernel) rfl
theorem ln_X3_21 : Cond.methodLink RX3 21 mX1_init.1 ∈ TT := tt_of 102 (by decide +kernel) rfl
theorem ln_X1_3 : Cond.methodLink RX1 3 Lib.objectInit ∈ TT := tt_of 105 (by decide +kernel) rfl
theorem ln_X1_9 : Cond.methodLink RX1 9 Lib.Math.max.name ∈ TT := tt_of 106 (by decide +kernel) rfl
theorem cl_X1_15 : Cond.classLink RX1 15 "[[I" ∈ TT := tt_of 109 (by decide +kernel) rfl
theorem fl_X1_17 : jFl RX1 17 RX1 TX1 3 1 0 := ⟨rfl, by decide, wcl_X1, Or.inl (tt_of 111 (by decide +kernel) rfl)⟩
theorem fl_X1_22 : jFl RX1 22 RX1 TX1 3 1 1 := ⟨rfl, by decide, wcl_X1, Or.inl (tt_of 112 (by decide +kernel) rfl)⟩
theorem fl_X1_26 : jFl RX1 26 RX1 TX1 3 1 2 := ⟨rfl, by decide, wcl_X1, Or.inl (tt_of 113 (by decide +kernel) rfl)⟩
theorem fl_X3_89 : jFl RX3 89 RX1 TX1 3 1 2 := ⟨rfl, by decide, wcl_X1, Or.inr ⟨"PuddleStairs", nw_of 114 (by decide +kernel) rfl⟩⟩
theorem cl_X3_31 : Cond.classLink RX3 31 RX0 ∈ TT := tt_of 122 (by decide +kernel) rfl
theorem in_X0 : Cond.instantiable RX0 2 ∈ TT := tt_of 123 (by decide +kernel) rfl
theorem ln_X3_33 : ∃ host, Cond.methodLinkNest RX3 33 mX0_init.1 host ∈ NW := ⟨"PuddleStairs", nw_of 124 (by decide +kernel) rfl⟩
theorem ln_X0_3 : Cond.methodLink RX0 3 Lib.objectInit ∈ TT := tt_of 127 (by decide +kernel) rfl
theorem cl_X0_9 : Cond.classLink RX0 9 "[[I" ∈ TT := tt_of 128 (by decide +kernel) rfl
theorem fl_X0_11 : jFl RX0 11 RX0 TX0 2 0 0 := ⟨rfl, by decide, wcl_X0, Or.inl (tt_of 129 (by decide +kernel) rfl)⟩
theorem fl_X0_22 : jFl RX0 22 RX0 TX0 2 0 1 := ⟨rfl, by decide, wcl_X0, Or.inl (tt_of 130 (by decide +kernel) rfl)⟩
theorem ln_X3_42 : Cond.methodLink RX3 42 mX2_layDry.1 ∈ TT := tt_of 136 (by decide +kernel) rfl
theorem ln_X2_18 : Cond.methodLink RX2 18 Lib.Math.min.name ∈ TT := tt_of 140 (by decide +kernel) rfl
theorem ln_X2_24 : Cond.methodLink RX2 24 Lib.Math.max.name ∈ TT := tt_of 143 (by decide +kernel) rfl
theorem fl_X3_12 : jFl RX3 12 RX3 TX3 7 3 0 := ⟨rfl, by decide, wcl_X3, Or.inl (tt_of 144 (by decide +kernel) rfl)⟩
theorem fl_X3_16 : jFl RX3 16 RX3 TX3 7 3 1 := ⟨rfl, by decide, wcl_X3, Or.inl (tt_of 145 (by decide +kernel) rfl)⟩
theorem fl_X3_24 : jFl RX3 24 RX3 TX3 7 3 2 := ⟨rfl, by decide, wcl_X3, Or.inl (tt_of 146 (by decide +kernel) rfl)⟩
theorem fl_X3_28 : jFl RX3 28 RX3 TX3 7 3 3 := ⟨rfl, by decide, wcl_X3, Or.inl (tt_of 147 (by decide +kernel) rfl)⟩
theorem fl_X3_34 : jFl RX3 34 RX3 TX3 7 3 4 := ⟨rfl, by decide, wcl_X3, Or.inl (tt_of 148 (by decide +kernel) rfl)⟩
theorem fl_X3_112 : jFl RX3 112 RX3 TX3 7 3 5 := ⟨rfl, by decide, wcl_X3, Or.inl (tt_of 149 (by decide +kernel) rfl)⟩
theorem fl_X3_115 : jFl RX3 115 RX3 TX3 7 3 6 := ⟨rfl, by decide, wcl_X3, Or.inl (tt_of 150 (by decide +kernel) rfl)⟩
theorem ln_L_173 : Cond.methodLink RL 173 mX3_flights.1 ∈ TT := tt_of 166 (by decide +kernel) rfl
theorem ln_L_177 : Cond.methodLink RL 177 mX3_steps.1 ∈ TT := tt_of 170 (by decide +kernel) rfl
theorem ln_L_181 : Cond.methodLink RL 181 mX3_hours.1 ∈ TT := tt_of 174 (by decide +kernel) rfl
theorem ln_L_185 : Cond.methodLink RL 185 mX3_sun.1 ∈ TT := tt_of 178 (by decide +kernel) rfl
theorem ln_L_192 : Cond.methodLink RL 192 mX3_marks.1 ∈ TT := tt_of 182 (by decide +kernel) rfl
theorem ln_L_196 : Cond.methodLink RL 196 mX3_deeds.1 ∈ TT := tt_of 186 (by decide +kernel) rfl
theorem ln_L_200 : Cond.methodLink RL 200 mX3_gone.1 ∈ TT := tt_of 190 (by decide +kernel) rfl
theorem ln_L_221 : Cond.methodLink RL 221 mX3_total.1 ∈ TT := tt_of 194 (by decide +kernel) rfl
theorem ln_X3_155 : Cond.methodLink RX3 155 mX2_wholeSum.1 ∈ TT := tt_of 198 (by decide +kernel) rfl
theorem ln_X2_51 : Cond.methodLink RX2 51 mX2_partSum.1 ∈ TT := tt_of 202 (by decide +kernel) rfl
theorem ln_X2_48 : Cond.methodLink RX2 48 mX2_level.1 ∈ TT := tt_of 206 (by decide +kernel) rfl
theorem ln_X2_41 : Cond.methodLink RX2 41 mX2_numberOf.1 ∈ TT := tt_of 210 (by decide +kernel) rfl
theorem ln_L_234 : Cond.methodLink RL 234 mX3_dry.1 ∈ TT := tt_of 214 (by decide +kernel) rfl
theorem ln_X3_170 : Cond.methodLink RX3 170 mX2_upToLevel.1 ∈ TT := tt_of 218 (by decide +kernel) rfl
theorem ln_X2_37 : Cond.methodLink RX2 37 mX2_puddleCount.1 ∈ TT := tt_of 222 (by decide +kernel) rfl
theorem ln_L_244 : Cond.methodLink RL 244 mX3_driestFlight.1 ∈ TT := tt_of 226 (by decide +kernel) rfl
theorem ln_X3_166 : Cond.methodLink RX3 166 mX2_dryInPart.1 ∈ TT := tt_of 230 (by decide +kernel) rfl
theorem ln_L_254 : Cond.methodLink RL 254 mX3_upTo.1 ∈ TT := tt_of 234 (by decide +kernel) rfl
theorem ln_L_261 : Cond.methodLink RL 261 mX3_outOfOrder.1 ∈ TT := tt_of 238 (by decide +kernel) rfl
theorem ln_X3_187 : Cond.methodLink RX3 187 mX0_countIn.1 ∈ TT := tt_of 242 (by decide +kernel) rfl
theorem ln_X0_23 : Cond.methodLink RX0 23 mX0_countOf.1 ∈ TT := tt_of 246 (by decide +kernel) rfl
theorem ln_X0_30 : Cond.methodLink RX0 30 mX2_level.1 ∈ TT := tt_of 249 (by decide +kernel) rfl
theorem ln_X3_190 : Cond.methodLink RX3 190 mX0_outWithSwap.1 ∈ TT := tt_of 250 (by decide +kernel) rfl
theorem ln_X0_34 : Cond.methodLink RX0 34 mX0_swapped.1 ∈ TT := tt_of 254 (by decide +kernel) rfl
theorem ln_L_277 : Cond.methodLink RL 277 mX3_hoursUntilDry.1 ∈ TT := tt_of 257 (by decide +kernel) rfl
theorem ln_X3_193 : Cond.methodLink RX3 193 mX2_copyFrom.1 ∈ TT := tt_of 261 (by decide +kernel) rfl
theorem ln_X3_196 : Cond.methodLink RX3 196 mX2_allDry.1 ∈ TT := tt_of 265 (by decide +kernel) rfl
theorem ln_X2_55 : Cond.methodLink RX2 55 mX2_upToLevel.1 ∈ TT := tt_of 269 (by decide +kernel) rfl
theorem ln_X3_200 : Cond.methodLink RX3 200 mX2_flowOneHour.1 ∈ TT := tt_of 270 (by decide +kernel) rfl
theorem ln_X2_62 : Cond.methodLink RX2 62 mX2_dryUp.1 ∈ TT := tt_of 274 (by decide +kernel) rfl
theorem ln_X2_65 : Cond.methodLink RX2 65 mX2_runDown.1 ∈ TT := tt_of 278 (by decide +kernel) rfl
theorem ln_L_290 : Cond.methodLink RL 290 mX3_meanLevel.1 ∈ TT := tt_of 282 (by decide +kernel) rfl
theorem ln_X3_53 : Cond.methodLink RX3 53 mX2_puddleCount.1 ∈ TT := tt_of 286 (by decide +kernel) rfl
theorem ln_L_295 : Cond.methodLink RL 295 mX3_digest.1 ∈ TT := tt_of 287 (by decide +kernel) rfl
theorem cn_X3_206 : Cond.constantLong RX3 206 2281 ∈ TT := tt_of 291 (by decide +kernel) rfl
theorem ln_X3_208 : Cond.methodLink RX3 208 mX3_flights.1 ∈ TT := tt_of 292 (by decide +kernel) rfl
theorem ln_X3_211 : Cond.methodLink RX3 211 mX3_digested.1 ∈ TT := tt_of 293 (by decide +kernel) rfl
theorem cn_X3_267 : Cond.constantLong RX3 267 31 ∈ TT := tt_of 296 (by decide +kernel) rfl
theorem ln_X3_214 : Cond.methodLink RX3 214 mX3_steps.1 ∈ TT := tt_of 297 (by decide +kernel) rfl
theorem ln_X3_217 : Cond.methodLink RX3 217 mX3_hours.1 ∈ TT := tt_of 298 (by decide +kernel) rfl
theorem ln_X3_220 : Cond.methodLink RX3 220 mX3_sun.1 ∈ TT := tt_of 299 (by decide +kernel) rfl
theorem ln_X3_223 : Cond.methodLink RX3 223 mX3_marks.1 ∈ TT := tt_of 300 (by decide +kernel) rfl
theorem ln_X3_226 : Cond.methodLink RX3 226 mX3_deeds.1 ∈ TT := tt_of 301 (by decide +kernel) rfl
theorem ln_X3_229 : Cond.methodLink RX3 229 mX3_gone.1 ∈ TT := tt_of 302 (by decide +kernel) rfl
theorem ln_X3_232 : Cond.methodLink RX3 232 mX3_total.1 ∈ TT := tt_of 303 (by decide +kernel) rfl
theorem ln_X3_235 : Cond.methodLink RX3 235 mX3_dry.1 ∈ TT := tt_of 304 (by decide +kernel) rfl
theorem ln_X3_238 : Cond.methodLink RX3 238 mX3_driestFlight.1 ∈ TT := tt_of 305 (by decide +kernel) rfl
theorem ln_X3_241 : Cond.methodLink RX3 241 mX3_outOfOrder.1 ∈ TT := tt_of 306 (by decide +kernel) rfl
theorem ln_X3_244 : Cond.methodLink RX3 244 mX3_hoursUntilDry.1 ∈ TT := tt_of 307 (by decide +kernel) rfl
theorem ln_X3_247 : Cond.methodLink RX3 247 mX3_totalIn.1 ∈ TT := tt_of 308 (by decide +kernel) rfl
theorem ln_X3_46 : Cond.methodLink RX3 46 mX3_checkNumber.1 ∈ TT := tt_of 312 (by decide +kernel) rfl
theorem cl_X3_292 : Cond.classLink RX3 292 "java/lang/IllegalArgumentException" ∈ TT := tt_of 315 (by decide +kernel) rfl
theorem ca_IllegalArgumentException : Cond.castable "java/lang/IllegalArgumentException" "java/lang/IllegalArgumentException" ∈ NW := nw_of 317 (by decide +kernel) rfl
theorem ln_X3_108 : Cond.methodLink RX3 108 mX2_flowFor.1 ∈ TT := tt_of 383 (by decide +kernel) rfl
theorem ln_X2_59 : Cond.methodLink RX2 59 mX2_flowOneHour.1 ∈ TT := tt_of 387 (by decide +kernel) rfl
theorem ln_X3_251 : Cond.methodLink RX3 251 mX3_goneIn.1 ∈ TT := tt_of 388 (by decide +kernel) rfl
theorem ln_X3_254 : Cond.methodLink RX3 254 mX3_sunWanted.1 ∈ TT := tt_of 392 (by decide +kernel) rfl
theorem ln_X3_257 : Cond.methodLink RX3 257 mX3_digestedFlights.1 ∈ TT := tt_of 396 (by decide +kernel) rfl
theorem ln_X3_269 : Cond.methodLink RX3 269 mX3_flightSum.1 ∈ TT := tt_of 400 (by decide +kernel) rfl
theorem ln_X3_74 : Cond.methodLink RX3 74 mX3_checkFlight.1 ∈ TT := tt_of 404 (by decide +kernel) rfl
theorem ln_X3_184 : Cond.methodLink RX3 184 mX3_checkIndex.1 ∈ TT := tt_of 408 (by decide +kernel) rfl
theorem cl_X3_176 : Cond.classLink RX3 176 "java/lang/IndexOutOfBoundsException" ∈ TT := tt_of 411 (by decide +kernel) rfl
theorem ca_IndexOutOfBoundsException : Cond.castable "java/lang/IndexOutOfBoundsException" "java/lang/IndexOutOfBoundsException" ∈ NW := nw_of 413 (by decide +kernel) rfl
theorem ln_X3_151 : Cond.methodLink RX3 151 mX2_partSum.1 ∈ TT := tt_of 427 (by decide +kernel) rfl
theorem ln_X3_272 : Cond.methodLink RX3 272 mX3_bestRun.1 ∈ TT := tt_of 428 (by decide +kernel) rfl
theorem cn_X3_161 : Cond.constantLong RX3 161 (-9223372036854775808) ∈ TT := tt_of 432 (by decide +kernel) rfl
theorem ln_X3_163 : Cond.methodLink RX3 163 Lib.MathLoose.max_long.x ∈ TT := tt_of 433 (by decide +kernel) rfl
theorem ln_X3_66 : Cond.methodLink RX3 66 mX2_level.1 ∈ TT := tt_of 436 (by decide +kernel) rfl
theorem ln_X3_275 : Cond.methodLink RX3 275 mX3_longestDry.1 ∈ TT := tt_of 437 (by decide +kernel) rfl
theorem ln_X3_100 : Cond.methodLink RX3 100 Lib.Math.max.name ∈ TT := tt_of 441 (by decide +kernel) rfl
theorem ln_X3_278 : Cond.methodLink RX3 278 mX3_highestAt.1 ∈ TT := tt_of 442 (by decide +kernel) rfl
theorem ln_X3_203 : Cond.methodLink RX3 203 mX0_bestPartner.1 ∈ TT := tt_of 446 (by decide +kernel) rfl
theorem cn_X0_40 : Cond.constant RX0 40 2147483647 ∈ TT := tt_of 450 (by decide +kernel) rfl
theorem ln_X0_41 : Cond.methodLink RX0 41 mX0_outWithSwap.1 ∈ TT := tt_of 451 (by decide +kernel) rfl
theorem ln_X3_261 : Cond.methodLink RX3 261 mX3_digestedSteps.1 ∈ TT := tt_of 452 (by decide +kernel) rfl
theorem ln_X3_281 : Cond.methodLink RX3 281 mX3_edgeOf.1 ∈ TT := tt_of 456 (by decide +kernel) rfl
theorem ln_X3_141 : Cond.methodLink RX3 141 mX3_checkStep.1 ∈ TT := tt_of 460 (by decide +kernel) rfl
theorem ln_X3_284 : Cond.methodLink RX3 284 mX3_stepSum.1 ∈ TT := tt_of 464 (by decide +kernel) rfl
theorem ln_X3_264 : Cond.methodLink RX3 264 mX3_digestedMarks.1 ∈ TT := tt_of 468 (by decide +kernel) rfl
theorem ln_X3_287 : Cond.methodLink RX3 287 mX3_changedSince.1 ∈ TT := tt_of 472 (by decide +kernel) rfl
theorem ln_X3_130 : Cond.methodLink RX3 130 mX3_checkMark.1 ∈ TT := tt_of 476 (by decide +kernel) rfl
theorem ln_X3_92 : Cond.methodLink RX3 92 mX1_row.1 ∈ TT := tt_of 480 (by decide +kernel) rfl
theorem ln_X3_96 : Cond.methodLink RX3 96 mX2_changedFrom.1 ∈ TT := tt_of 484 (by decide +kernel) rfl
theorem ln_L_127 : Cond.methodLink RL 127 mL_lay.1 ∈ TT := tt_of 488 (by decide +kernel) rfl
theorem cl_L_13 : Cond.classLink RL 13 "java/lang/IllegalArgumentException" ∈ TT := tt_of 491 (by decide +kernel) rfl
theorem ln_L_7 : Cond.methodLink RL 7 mX3_lay.1 ∈ TT := tt_of 492 (by decide +kernel) rfl
theorem ln_X3_50 : Cond.methodLink RX3 50 mX1_clearAll.1 ∈ TT := tt_of 496 (by decide +kernel) rfl
theorem ln_L_136 : Cond.methodLink RL 136 mL_rain.1 ∈ TT := tt_of 500 (by decide +kernel) rfl
theorem cl_L_19 : Cond.classLink RL 19 "java/lang/IndexOutOfBoundsException" ∈ TT := tt_of 503 (by decide +kernel) rfl
theorem ln_L_15 : Cond.methodLink RL 15 mX3_rain.1 ∈ TT := tt_of 504 (by decide +kernel) rfl
theorem ln_X3_57 : Cond.methodLink RX3 57 mX3_checkPuddle.1 ∈ TT := tt_of 508 (by decide +kernel) rfl
theorem ln_X3_60 : Cond.methodLink RX3 60 mX3_keepDeed.1 ∈ TT := tt_of 512 (by decide +kernel) rfl
theorem ln_X3_126 : Cond.methodLink RX3 126 mX1_addLatest.1 ∈ TT := tt_of 516 (by decide +kernel) rfl
theorem ln_X1_29 : Cond.methodLink RX1 29 mX1_row.1 ∈ TT := tt_of 520 (by decide +kernel) rfl
theorem ln_X1_33 : Cond.methodLink RX1 33 mX2_puddleCount.1 ∈ TT := tt_of 521 (by decide +kernel) rfl
theorem ln_X3_63 : Cond.methodLink RX3 63 mX2_add.1 ∈ TT := tt_of 522 (by decide +kernel) rfl
theorem ln_L_140 : Cond.methodLink RL 140 mL_splash.1 ∈ TT := tt_of 526 (by decide +kernel) rfl
theorem ln_L_21 : Cond.methodLink RL 21 mX3_splash.1 ∈ TT := tt_of 529 (by decide +kernel) rfl
theorem ln_X3_70 : Cond.methodLink RX3 70 mX3_checkPart.1 ∈ TT := tt_of 533 (by decide +kernel) rfl
theorem ln_L_144 : Cond.methodLink RL 144 mL_swap.1 ∈ TT := tt_of 538 (by decide +kernel) rfl
theorem ln_L_25 : Cond.methodLink RL 25 mX3_swap.1 ∈ TT := tt_of 541 (by decide +kernel) rfl
theorem ln_X3_80 : Cond.methodLink RX3 80 mX2_alikeSteps.1 ∈ TT := tt_of 545 (by decide +kernel) rfl
theorem ln_X3_83 : Cond.methodLink RX3 83 mX2_numberOf.1 ∈ TT := tt_of 549 (by decide +kernel) rfl
theorem ln_X3_86 : Cond.methodLink RX3 86 mX2_exchange.1 ∈ TT := tt_of 550 (by decide +kernel) rfl
theorem ln_L_147 : Cond.methodLink RL 147 mL_turn.1 ∈ TT := tt_of 554 (by decide +kernel) rfl
theorem ln_L_28 : Cond.methodLink RL 28 mX3_turn.1 ∈ TT := tt_of 557 (by decide +kernel) rfl
theorem ln_L_151 : Cond.methodLink RL 151 mL_bail.1 ∈ TT := tt_of 561 (by decide +kernel) rfl
theorem ln_L_32 : Cond.methodLink RL 32 mX3_bail.1 ∈ TT := tt_of 564 (by decide +kernel) rfl
theorem ln_X3_105 : Cond.methodLink RX3 105 Lib.Math.min.name ∈ TT := tt_of 568 (by decide +kernel) rfl
theorem ln_L_154 : Cond.methodLink RL 154 mL_passHours.1 ∈ TT := tt_of 569 (by decide +kernel) rfl
theorem ln_L_35 : Cond.methodLink RL 35 mX3_passHours.1 ∈ TT := tt_of 572 (by decide +kernel) rfl
theorem ln_L_157 : Cond.methodLink RL 157 mL_mark.1 ∈ TT := tt_of 576 (by decide +kernel) rfl
theorem cl_L_42 : Cond.classLink RL 42 "java/lang/IllegalStateException" ∈ TT := tt_of 579 (by decide +kernel) rfl
theorem ln_L_38 : Cond.methodLink RL 38 mX3_mark.1 ∈ TT := tt_of 580 (by decide +kernel) rfl
theorem cl_X3_119 : Cond.classLink RX3 119 "java/lang/IllegalStateException" ∈ TT := tt_of 584 (by decide +kernel) rfl
theorem ca_IllegalStateException : Cond.castable "java/lang/IllegalStateException" "java/lang/IllegalStateException" ∈ NW := nw_of 586 (by decide +kernel) rfl
theorem ln_L_161 : Cond.methodLink RL 161 mL_back.1 ∈ TT := tt_of 600 (by decide +kernel) rfl
theorem ln_L_44 : Cond.methodLink RL 44 mX3_back.1 ∈ TT := tt_of 603 (by decide +kernel) rfl
theorem ln_X3_133 : Cond.methodLink RX3 133 mX2_takeFrom.1 ∈ TT := tt_of 607 (by decide +kernel) rfl
theorem ln_X2_44 : Cond.methodLink RX2 44 mX2_changedFrom.1 ∈ TT := tt_of 611 (by decide +kernel) rfl
theorem ln_L_164 : Cond.methodLink RL 164 mL_undo.1 ∈ TT := tt_of 612 (by decide +kernel) rfl
theorem ln_L_47 : Cond.methodLink RL 47 mX3_undo.1 ∈ TT := tt_of 615 (by decide +kernel) rfl
theorem ln_X3_138 : Cond.methodLink RX3 138 mX1_dropLatest.1 ∈ TT := tt_of 620 (by decide +kernel) rfl
theorem ln_L_167 : Cond.methodLink RL 167 mL_setSun.1 ∈ TT := tt_of 624 (by decide +kernel) rfl
theorem ln_L_50 : Cond.methodLink RL 50 mX3_setSun.1 ∈ TT := tt_of 627 (by decide +kernel) rfl
theorem ln_L_170 : Cond.methodLink RL 170 mL_setEdge.1 ∈ TT := tt_of 631 (by decide +kernel) rfl
theorem ln_L_53 : Cond.methodLink RL 53 mX3_setEdge.1 ∈ TT := tt_of 634 (by decide +kernel) rfl
theorem ln_L_189 : Cond.methodLink RL 189 mL_edgeOf.1 ∈ TT := tt_of 638 (by decide +kernel) rfl
theorem ln_L_56 : Cond.methodLink RL 56 mX3_edgeOf.1 ∈ TT := tt_of 641 (by decide +kernel) rfl
theorem ln_L_205 : Cond.methodLink RL 205 mL_levelAt.1 ∈ TT := tt_of 642 (by decide +kernel) rfl
theorem ln_L_59 : Cond.methodLink RL 59 mX3_levelAt.1 ∈ TT := tt_of 645 (by decide +kernel) rfl
theorem ln_L_208 : Cond.methodLink RL 208 mL_sumOf.1 ∈ TT := tt_of 649 (by decide +kernel) rfl
theorem ln_L_62 : Cond.methodLink RL 62 mX3_sumOf.1 ∈ TT := tt_of 652 (by decide +kernel) rfl
theorem ln_L_212 : Cond.methodLink RL 212 mL_sumTo.1 ∈ TT := tt_of 656 (by decide +kernel) rfl
theorem ln_L_66 : Cond.methodLink RL 66 mX3_sumTo.1 ∈ TT := tt_of 659 (by decide +kernel) rfl
theorem ln_L_215 : Cond.methodLink RL 215 mL_flightSum.1 ∈ TT := tt_of 663 (by decide +kernel) rfl
theorem ln_L_70 : Cond.methodLink RL 70 mX3_flightSum.1 ∈ TT := tt_of 666 (by decide +kernel) rfl
theorem ln_L_218 : Cond.methodLink RL 218 mL_stepSum.1 ∈ TT := tt_of 667 (by decide +kernel) rfl
theorem ln_L_74 : Cond.methodLink RL 74 mX3_stepSum.1 ∈ TT := tt_of 670 (by decide +kernel) rfl
theorem ln_L_225 : Cond.methodLink RL 225 mL_firstReaching.1 ∈ TT := tt_of 671 (by decide +kernel) rfl
theorem ln_L_77 : Cond.methodLink RL 77 mX3_firstReaching.1 ∈ TT := tt_of 674 (by decide +kernel) rfl
theorem ln_L_228 : Cond.methodLink RL 228 mL_bestRun.1 ∈ TT := tt_of 678 (by decide +kernel) rfl
theorem ln_L_80 : Cond.methodLink RL 80 mX3_bestRun.1 ∈ TT := tt_of 681 (by decide +kernel) rfl
theorem ln_L_231 : Cond.methodLink RL 231 mL_dryIn.1 ∈ TT := tt_of 682 (by decide +kernel) rfl
theorem ln_L_83 : Cond.methodLink RL 83 mX3_dryIn.1 ∈ TT := tt_of 685 (by decide +kernel) rfl
theorem ln_L_238 : Cond.methodLink RL 238 mL_dryAt.1 ∈ TT := tt_of 689 (by decide +kernel) rfl
theorem ln_L_87 : Cond.methodLink RL 87 mX3_dryAt.1 ∈ TT := tt_of 692 (by decide +kernel) rfl
theorem ln_L_241 : Cond.methodLink RL 241 mL_longestDry.1 ∈ TT := tt_of 697 (by decide +kernel) rfl
theorem ln_L_90 : Cond.methodLink RL 90 mX3_longestDry.1 ∈ TT := tt_of 700 (by decide +kernel) rfl
theorem ln_L_248 : Cond.methodLink RL 248 mL_lowestIn.1 ∈ TT := tt_of 701 (by decide +kernel) rfl
theorem ln_L_93 : Cond.methodLink RL 93 mX3_lowestIn.1 ∈ TT := tt_of 704 (by decide +kernel) rfl
theorem cn_X3_183 : Cond.constant RX3 183 2147483647 ∈ TT := tt_of 708 (by decide +kernel) rfl
theorem ln_L_251 : Cond.methodLink RL 251 mL_highestAt.1 ∈ TT := tt_of 709 (by decide +kernel) rfl
theorem ln_L_96 : Cond.methodLink RL 96 mX3_highestAt.1 ∈ TT := tt_of 712 (by decide +kernel) rfl
theorem ln_L_258 : Cond.methodLink RL 258 mL_levelInOrder.1 ∈ TT := tt_of 713 (by decide +kernel) rfl
theorem ln_L_99 : Cond.methodLink RL 99 mX3_levelInOrder.1 ∈ TT := tt_of 716 (by decide +kernel) rfl
theorem ln_L_265 : Cond.methodLink RL 265 mL_alike.1 ∈ TT := tt_of 720 (by decide +kernel) rfl
theorem ln_L_102 : Cond.methodLink RL 102 mX3_alike.1 ∈ TT := tt_of 723 (by decide +kernel) rfl
theorem ln_L_268 : Cond.methodLink RL 268 mL_changedSince.1 ∈ TT := tt_of 727 (by decide +kernel) rfl
theorem ln_L_105 : Cond.methodLink RL 105 mX3_changedSince.1 ∈ TT := tt_of 730 (by decide +kernel) rfl
theorem ln_L_271 : Cond.methodLink RL 271 mL_totalIn.1 ∈ TT := tt_of 731 (by decide +kernel) rfl
theorem ln_L_108 : Cond.methodLink RL 108 mX3_totalIn.1 ∈ TT := tt_of 734 (by decide +kernel) rfl
theorem ln_L_274 : Cond.methodLink RL 274 mL_goneIn.1 ∈ TT := tt_of 735 (by decide +kernel) rfl
theorem ln_L_111 : Cond.methodLink RL 111 mX3_goneIn.1 ∈ TT := tt_of 738 (by decide +kernel) rfl
theorem ln_L_281 : Cond.methodLink RL 281 mL_sunWanted.1 ∈ TT := tt_of 739 (by decide +kernel) rfl
theorem ln_L_114 : Cond.methodLink RL 114 mX3_sunWanted.1 ∈ TT := tt_of 742 (by decide +kernel) rfl
theorem ln_L_284 : Cond.methodLink RL 284 mL_bestEdge.1 ∈ TT := tt_of 743 (by decide +kernel) rfl
theorem ln_L_117 : Cond.methodLink RL 117 mX3_bestEdge.1 ∈ TT := tt_of 746 (by decide +kernel) rfl
theorem ln_L_287 : Cond.methodLink RL 287 mL_bestSwap.1 ∈ TT := tt_of 750 (by decide +kernel) rfl
theorem ln_L_120 : Cond.methodLink RL 120 mX3_bestSwap.1 ∈ TT := tt_of 753 (by decide +kernel) rfl
theorem cl_L_124 : Cond.classLink RL 124 RX4 ∈ TT := tt_of 757 (by decide +kernel) rfl
theorem in_X4 : Cond.instantiable RX4 14 ∈ TT := tt_of 758 (by decide +kernel) rfl
theorem ln_L_126 : Cond.methodLink RL 126 mX4_init.1 ∈ TT := tt_of 759 (by decide +kernel) rfl
theorem ln_X4_3 : Cond.methodLink RX4 3 Lib.objectInit ∈ TT := tt_of 762 (by decide +kernel) rfl
theorem ln_X4_35 : Cond.methodLink RX4 35 mX4_anew.1 ∈ TT := tt_of 763 (by decide +kernel) rfl
theorem fl_X4_38 : jFl RX4 38 RX4 TX4 14 4 0 := ⟨rfl, by decide, wcl_X4, Or.inl (tt_of 767 (by decide +kernel) rfl)⟩
theorem fl_X4_9 : jFl RX4 9 RX4 TX4 14 4 1 := ⟨rfl, by decide, wcl_X4, Or.inl (tt_of 768 (by decide +kernel) rfl)⟩
theorem fl_X4_13 : jFl RX4 13 RX4 TX4 14 4 2 := ⟨rfl, by decide, wcl_X4, Or.inl (tt_of 769 (by decide +kernel) rfl)⟩
theorem fl_X4_101 : jFl RX4 101 RX4 TX4 14 4 3 := ⟨rfl, by decide, wcl_X4, Or.inl (tt_of 770 (by decide +kernel) rfl)⟩
theorem fl_X4_16 : jFl RX4 16 RX4 TX4 14 4 4 := ⟨rfl, by decide, wcl_X4, Or.inl (tt_of 771 (by decide +kernel) rfl)⟩
theorem fl_X4_104 : jFl RX4 104 RX4 TX4 14 4 5 := ⟨rfl, by decide, wcl_X4, Or.inl (tt_of 772 (by decide +kernel) rfl)⟩
theorem fl_X4_19 : jFl RX4 19 RX4 TX4 14 4 6 := ⟨rfl, by decide, wcl_X4, Or.inl (tt_of 773 (by decide +kernel) rfl)⟩
theorem fl_X4_23 : jFl RX4 23 RX4 TX4 14 4 7 := ⟨rfl, by decide, wcl_X4, Or.inl (tt_of 774 (by decide +kernel) rfl)⟩
theorem fl_X4_26 : jFl RX4 26 RX4 TX4 14 4 8 := ⟨rfl, by decide, wcl_X4, Or.inl (tt_of 775 (by decide +kernel) rfl)⟩
theorem fl_X4_58 : jFl RX4 58 RX4 TX4 14 4 9 := ⟨rfl, by decide, wcl_X4, Or.inl (tt_of 776 (by decide +kernel) rfl)⟩
theorem fl_X4_55 : jFl RX4 55 RX4 TX4 14 4 10 := ⟨rfl, by decide, wcl_X4, Or.inl (tt_of 777 (by decide +kernel) rfl)⟩
theorem fl_X4_29 : jFl RX4 29 RX4 TX4 14 4 11 := ⟨rfl, by decide, wcl_X4, Or.inl (tt_of 778 (by decide +kernel) rfl)⟩
theorem fl_X4_45 : jFl RX4 45 RX4 TX4 14 4 12 := ⟨rfl, by decide, wcl_X4, Or.inl (tt_of 779 (by decide +kernel) rfl)⟩
theorem fl_X4_32 : jFl RX4 32 RX4 TX4 14 4 13 := ⟨rfl, by decide, wcl_X4, Or.inl (tt_of 780 (by decide +kernel) rfl)⟩
theorem ln_L_133 : Cond.methodLink RL 133 mX4_thrown.1 ∈ TT := tt_of 810 (by decide +kernel) rfl
theorem ln_L_132 : Cond.methodLink RL 132 mX4_lay.1 ∈ TT := tt_of 814 (by decide +kernel) rfl
theorem ln_X4_41 : Cond.methodLink RX4 41 mX4_isIn.1 ∈ TT := tt_of 818 (by decide +kernel) rfl
theorem ln_X4_84 : Cond.methodLink RX4 84 mX4_no.1 ∈ TT := tt_of 821 (by decide +kernel) rfl
theorem ln_X4_67 : Cond.methodLink RX4 67 mX4_all.1 ∈ TT := tt_of 825 (by decide +kernel) rfl
theorem ln_L_139 : Cond.methodLink RL 139 mX4_rain.1 ∈ TT := tt_of 829 (by decide +kernel) rfl
theorem ln_X4_48 : Cond.methodLink RX4 48 mX4_isFlight.1 ∈ TT := tt_of 833 (by decide +kernel) rfl
theorem ln_X4_52 : Cond.methodLink RX4 52 mX4_isStep.1 ∈ TT := tt_of 837 (by decide +kernel) rfl
theorem ln_X4_88 : Cond.methodLink RX4 88 mX4_keep.1 ∈ TT := tt_of 841 (by decide +kernel) rfl
theorem ln_X4_61 : Cond.methodLink RX4 61 arraycopyName ∈ TT := tt_of 845 (by decide +kernel) rfl
theorem ln_L_143 : Cond.methodLink RL 143 mX4_splash.1 ∈ TT := tt_of 848 (by decide +kernel) rfl
theorem ln_X4_91 : Cond.methodLink RX4 91 mX4_part.1 ∈ TT := tt_of 852 (by decide +kernel) rfl
theorem ln_L_146 : Cond.methodLink RL 146 mX4_swap.1 ∈ TT := tt_of 856 (by decide +kernel) rfl
theorem ln_X4_95 : Cond.methodLink RX4 95 mX4_change.1 ∈ TT := tt_of 860 (by decide +kernel) rfl
theorem ln_L_150 : Cond.methodLink RL 150 mX4_turn.1 ∈ TT := tt_of 864 (by decide +kernel) rfl
theorem ln_L_153 : Cond.methodLink RL 153 mX4_bail.1 ∈ TT := tt_of 868 (by decide +kernel) rfl
theorem ln_X4_71 : Cond.methodLink RX4 71 Lib.Math.max.name ∈ TT := tt_of 872 (by decide +kernel) rfl
theorem ln_X4_98 : Cond.methodLink RX4 98 Lib.Math.min.name ∈ TT := tt_of 873 (by decide +kernel) rfl
theorem ln_L_156 : Cond.methodLink RL 156 mX4_passHours.1 ∈ TT := tt_of 874 (by decide +kernel) rfl
theorem ln_X4_80 : Cond.methodLink RX4 80 mX4_hourOn.1 ∈ TT := tt_of 878 (by decide +kernel) rfl
theorem ln_L_160 : Cond.methodLink RL 160 mX4_mark.1 ∈ TT := tt_of 882 (by decide +kernel) rfl
theorem ln_L_163 : Cond.methodLink RL 163 mX4_back.1 ∈ TT := tt_of 886 (by decide +kernel) rfl
theorem ln_X4_108 : Cond.methodLink RX4 108 mX4_isMark.1 ∈ TT := tt_of 890 (by decide +kernel) rfl
theorem ln_X4_111 : Cond.methodLink RX4 111 mX4_bring.1 ∈ TT := tt_of 894 (by decide +kernel) rfl
theorem ln_L_166 : Cond.methodLink RL 166 mX4_undo.1 ∈ TT := tt_of 898 (by decide +kernel) rfl
theorem ln_L_169 : Cond.methodLink RL 169 mX4_setSun.1 ∈ TT := tt_of 902 (by decide +kernel) rfl
theorem ln_L_172 : Cond.methodLink RL 172 mX4_setEdge.1 ∈ TT := tt_of 906 (by decide +kernel) rfl
theorem ln_L_176 : Cond.methodLink RL 176 mX4_flights.1 ∈ TT := tt_of 910 (by decide +kernel) rfl
theorem ln_X4_114 : Cond.methodLink RX4 114 mX4_ok.1 ∈ TT := tt_of 914 (by decide +kernel) rfl
theorem ln_L_180 : Cond.methodLink RL 180 mX4_steps.1 ∈ TT := tt_of 918 (by decide +kernel) rfl
theorem ln_L_184 : Cond.methodLink RL 184 mX4_hours.1 ∈ TT := tt_of 922 (by decide +kernel) rfl
theorem ln_L_188 : Cond.methodLink RL 188 mX4_sun.1 ∈ TT := tt_of 926 (by decide +kernel) rfl
theorem ln_L_191 : Cond.methodLink RL 191 mX4_edgeOf.1 ∈ TT := tt_of 930 (by decide +kernel) rfl
theorem ln_L_195 : Cond.methodLink RL 195 mX4_marks.1 ∈ TT := tt_of 934 (by decide +kernel) rfl
theorem ln_L_199 : Cond.methodLink RL 199 mX4_deeds.1 ∈ TT := tt_of 938 (by decide +kernel) rfl
theorem ln_L_204 : Cond.methodLink RL 204 mX4_gone.1 ∈ TT := tt_of 942 (by decide +kernel) rfl
theorem ln_X4_117 : Cond.methodLink RX4 117 mX4_okay.1 ∈ TT := tt_of 946 (by decide +kernel) rfl
theorem ln_L_207 : Cond.methodLink RL 207 mX4_levelAt.1 ∈ TT := tt_of 950 (by decide +kernel) rfl
theorem ln_X4_121 : Cond.methodLink RX4 121 mX4_at.1 ∈ TT := tt_of 954 (by decide +kernel) rfl
theorem ln_L_211 : Cond.methodLink RL 211 mX4_sumOf.1 ∈ TT := tt_of 958 (by decide +kernel) rfl
theorem ln_X4_124 : Cond.methodLink RX4 124 mX4_added.1 ∈ TT := tt_of 962 (by decide +kernel) rfl
theorem ln_L_214 : Cond.methodLink RL 214 mX4_sumTo.1 ∈ TT := tt_of 966 (by decide +kernel) rfl
theorem ln_L_217 : Cond.methodLink RL 217 mX4_flightSum.1 ∈ TT := tt_of 970 (by decide +kernel) rfl
theorem ln_X4_128 : Cond.methodLink RX4 128 mX4_ofFlight.1 ∈ TT := tt_of 974 (by decide +kernel) rfl
theorem ln_L_220 : Cond.methodLink RL 220 mX4_stepSum.1 ∈ TT := tt_of 978 (by decide +kernel) rfl
theorem ln_X4_132 : Cond.methodLink RX4 132 mX4_ofStep.1 ∈ TT := tt_of 982 (by decide +kernel) rfl
theorem ln_L_224 : Cond.methodLink RL 224 mX4_total.1 ∈ TT := tt_of 986 (by decide +kernel) rfl
theorem ln_X4_135 : Cond.methodLink RX4 135 mX4_sumOfAll.1 ∈ TT := tt_of 990 (by decide +kernel) rfl
theorem ln_L_227 : Cond.methodLink RL 227 mX4_firstReaching.1 ∈ TT := tt_of 994 (by decide +kernel) rfl
theorem ln_X4_139 : Cond.methodLink RX4 139 mX4_reaching.1 ∈ TT := tt_of 998 (by decide +kernel) rfl
theorem ln_L_230 : Cond.methodLink RL 230 mX4_bestRun.1 ∈ TT := tt_of 1002 (by decide +kernel) rfl
theorem ln_X4_145 : Cond.methodLink RX4 145 mX4_run.1 ∈ TT := tt_of 1006 (by decide +kernel) rfl
theorem ln_X4_142 : Cond.methodLink RX4 142 Lib.MathLoose.max_long.x ∈ TT := tt_of 1010 (by decide +kernel) rfl
theorem ln_L_233 : Cond.methodLink RL 233 mX4_dryIn.1 ∈ TT := tt_of 1011 (by decide +kernel) rfl
theorem ln_X4_148 : Cond.methodLink RX4 148 mX4_dryPart.1 ∈ TT := tt_of 1015 (by decide +kernel) rfl
theorem ln_L_237 : Cond.methodLink RL 237 mX4_dry.1 ∈ TT := tt_of 1019 (by decide +kernel) rfl
theorem ln_X4_151 : Cond.methodLink RX4 151 mX4_dryNow.1 ∈ TT := tt_of 1023 (by decide +kernel) rfl
theorem ln_L_240 : Cond.methodLink RL 240 mX4_dryAt.1 ∈ TT := tt_of 1027 (by decide +kernel) rfl
theorem ln_L_243 : Cond.methodLink RL 243 mX4_longestDry.1 ∈ TT := tt_of 1031 (by decide +kernel) rfl
theorem ln_X4_154 : Cond.methodLink RX4 154 mX4_longest.1 ∈ TT := tt_of 1035 (by decide +kernel) rfl
theorem ln_L_247 : Cond.methodLink RL 247 mX4_driestFlight.1 ∈ TT := tt_of 1039 (by decide +kernel) rfl
theorem ln_X4_157 : Cond.methodLink RX4 157 mX4_driest.1 ∈ TT := tt_of 1043 (by decide +kernel) rfl
theorem ln_L_250 : Cond.methodLink RL 250 mX4_lowestIn.1 ∈ TT := tt_of 1047 (by decide +kernel) rfl
theorem ln_L_253 : Cond.methodLink RL 253 mX4_highestAt.1 ∈ TT := tt_of 1051 (by decide +kernel) rfl
theorem ln_X4_160 : Cond.methodLink RX4 160 mX4_highest.1 ∈ TT := tt_of 1055 (by decide +kernel) rfl
theorem ln_L_257 : Cond.methodLink RL 257 mX4_upTo.1 ∈ TT := tt_of 1059 (by decide +kernel) rfl
theorem ln_X4_163 : Cond.methodLink RX4 163 mX4_below.1 ∈ TT := tt_of 1063 (by decide +kernel) rfl
theorem ln_L_260 : Cond.methodLink RL 260 mX4_levelInOrder.1 ∈ TT := tt_of 1067 (by decide +kernel) rfl
theorem ln_L_264 : Cond.methodLink RL 264 mX4_outOfOrder.1 ∈ TT := tt_of 1071 (by decide +kernel) rfl
theorem ln_X4_166 : Cond.methodLink RX4 166 mX4_pairs.1 ∈ TT := tt_of 1075 (by decide +kernel) rfl
theorem ln_L_267 : Cond.methodLink RL 267 mX4_alike.1 ∈ TT := tt_of 1079 (by decide +kernel) rfl
theorem ln_L_270 : Cond.methodLink RL 270 mX4_changedSince.1 ∈ TT := tt_of 1083 (by decide +kernel) rfl
theorem ln_X4_169 : Cond.methodLink RX4 169 mX4_changed.1 ∈ TT := tt_of 1087 (by decide +kernel) rfl
theorem ln_L_273 : Cond.methodLink RL 273 mX4_totalIn.1 ∈ TT := tt_of 1091 (by decide +kernel) rfl
theorem ln_X4_175 : Cond.methodLink RX4 175 mX4_later.1 ∈ TT := tt_of 1095 (by decide +kernel) rfl
theorem ln_X4_172 : Cond.methodLink RX4 172 mX4_goneBehind.1 ∈ TT := tt_of 1099 (by decide +kernel) rfl
theorem ln_X4_77 : Cond.methodLink RX4 77 mX4_look.1 ∈ TT := tt_of 1103 (by decide +kernel) rfl
theorem ln_L_276 : Cond.methodLink RL 276 mX4_goneIn.1 ∈ TT := tt_of 1107 (by decide +kernel) rfl
theorem ln_L_280 : Cond.methodLink RL 280 mX4_hoursUntilDry.1 ∈ TT := tt_of 1111 (by decide +kernel) rfl
theorem ln_X4_182 : Cond.methodLink RX4 182 mX4_untilDry.1 ∈ TT := tt_of 1115 (by decide +kernel) rfl
theorem ln_X4_178 : Cond.methodLink RX4 178 mX4_isDry.1 ∈ TT := tt_of 1119 (by decide +kernel) rfl
theorem ln_L_283 : Cond.methodLink RL 283 mX4_sunWanted.1 ∈ TT := tt_of 1123 (by decide +kernel) rfl
theorem ln_X4_185 : Cond.methodLink RX4 185 mX4_wanted.1 ∈ TT := tt_of 1127 (by decide +kernel) rfl
theorem ln_L_286 : Cond.methodLink RL 286 mX4_bestEdge.1 ∈ TT := tt_of 1131 (by decide +kernel) rfl
theorem ln_L_289 : Cond.methodLink RL 289 mX4_bestSwap.1 ∈ TT := tt_of 1135 (by decide +kernel) rfl
theorem ln_X4_188 : Cond.methodLink RX4 188 mX4_swapFor.1 ∈ TT := tt_of 1139 (by decide +kernel) rfl
theorem ln_L_294 : Cond.methodLink RL 294 mX4_meanLevel.1 ∈ TT := tt_of 1143 (by decide +kernel) rfl
theorem ln_L_298 : Cond.methodLink RL 298 mX4_digest.1 ∈ TT := tt_of 1147 (by decide +kernel) rfl
theorem cn_X4_191 : Cond.constantLong RX4 191 2281 ∈ TT := tt_of 1151 (by decide +kernel) rfl
theorem cn_X4_193 : Cond.constantLong RX4 193 31 ∈ TT := tt_of 1152 (by decide +kernel) rfl
theorem ac_long : Cond.arrayClass .long ∈ TT := tt_of 1153 (by decide +kernel) rfl
theorem js_max : Cond.static Lib.Math.max.name ∈ TT := tt_of 107 (by decide +kernel) rfl
theorem jc_max : Cond.code Lib.Math.max.name Lib.Math.max.code 2 (some .int) ∈ TT := tt_of 108 (by decide +kernel) rfl
theorem js_min : Cond.static Lib.Math.min.name ∈ TT := tt_of 141 (by decide +kernel) rfl
theorem jc_min : Cond.code Lib.Math.min.name Lib.Math.min.code 2 (some .int) ∈ TT := tt_of 142 (by decide +kernel) rfl
theorem js_maxl : Cond.static Lib.MathLoose.max_long.x ∈ TT := tt_of 434 (by decide +kernel) rfl
theorem jc_maxl : Cond.code Lib.MathLoose.max_long.x Lib.MathLoose.max_long.code 4 (some .long) ∈ TT := tt_of 435 (by decide +kernel) rfl
theorem js_copy : Cond.static arraycopyName ∈ TT := tt_of 846 (by decide +kernel) rfl
theorem jn_copy : Cond.native arraycopyName ∈ TT := tt_of 847 (by decide +kernel) rfl
theorem ji_obj : Cond.instanceMethod Lib.objectInit ∈ TT := tt_of 67 (by decide +kernel) rfl
theorem jc_obj : Cond.code Lib.objectInit ⟨#[0xb1]⟩ 1 none ∈ TT := tt_of 68 (by decide +kernel) rfl
theorem th_121 : jTh RX3 119 121 123 "java/lang/IllegalStateException" "there are 12 marks" ["java/lang/RuntimeException", "java/lang/Exception"] := ⟨rfl, by decide +kernel, by decide +kernel, cl_X3_119, iz_java_lang_IllegalStateException, by decide +kernel, by decide +kernel, by decide +kernel, rfl⟩
theorem th_136 : jTh RX3 119 136 123 "java/lang/IllegalStateException" "no deed is kept" ["java/lang/RuntimeException", "java/lang/Exception"] := ⟨rfl, by decide +kernel, by decide +kernel, cl_X3_119, iz_java_lang_IllegalStateException, by decide +kernel, by decide +kernel, by decide +kernel, rfl⟩
theorem th_178 : jTh RX3 176 178 180 "java/lang/IndexOutOfBoundsException" "there are not so many dry puddles" ["java/lang/RuntimeException", "java/lang/Exception"] := ⟨rfl, by decide +kernel, by decide +kernel, cl_X3_176, iz_java_lang_IndexOutOfBoundsException, by decide +kernel, by decide +kernel, by decide +kernel, rfl⟩
theorem th_290 : jTh RX3 176 290 180 "java/lang/IndexOutOfBoundsException" "there is no such number" ["java/lang/RuntimeException", "java/lang/Exception"] := ⟨rfl, by decide +kernel, by decide +kernel, cl_X3_176, iz_java_lang_IndexOutOfBoundsException, by decide +kernel, by decide +kernel, by decide +kernel, rfl⟩
theorem th_294 : jTh RX3 292 294 296 "java/lang/IllegalArgumentException" "the number is too small or too great" ["java/lang/RuntimeException", "java/lang/Exception"] := ⟨rfl, by decide +kernel, by decide +kernel, cl_X3_292, iz_java_lang_IllegalArgumentException, by decide +kernel, by decide +kernel, by decide +kernel, rfl⟩
theorem th_297 : jTh RX3 292 297 296 "java/lang/IllegalArgumentException" "the first one is greater than the last one" ["java/lang/RuntimeException", "java/lang/Exception"] := ⟨rfl, by decide +kernel, by decide +kernel, cl_X3_292, iz_java_lang_IllegalArgumentException, by decide +kernel, by decide +kernel, by decide +kernel, rfl⟩
end
