section
-- ===== PART A: goes FIRST, ahead of the names: the tables' words, and 'selects' of the private methods out of them =====
/-- a private method of a class that the tables say can be made, by its rows of tables_1 -/
def lw_okq (q : MethodName × Nat) : Prop := (q.1.cls ≠ "java/lang/invoke/MethodHandle" ∧ q.1.cls ≠ "java/lang/invoke/VarHandle") ∧ Cond.instantiable q.1.cls q.2 ∈ tables_1 ∧ Cond.privateMethod q.1 ∈ tables_1 ∧ Cond.instanceMethod q.1 ∈ tables_1
theorem lw_p0 : lw_okq (⟨"SonMarks$History", "stateAt", "(I)LSonMarks$Roll;"⟩, 2) := ⟨⟨by decide +kernel, by decide +kernel⟩, List.mem_of_getElem? (i := 55) (by decide +kernel), List.mem_of_getElem? (i := 150) (by decide +kernel), List.mem_of_getElem? (i := 151) (by decide +kernel)⟩
theorem lw_p1 : lw_okq (⟨"SonMarks$Roll", "refuse", "(I)I"⟩, 8) := ⟨⟨by decide +kernel, by decide +kernel⟩, List.mem_of_getElem? (i := 22) (by decide +kernel), List.mem_of_getElem? (i := 169) (by decide +kernel), List.mem_of_getElem? (i := 170) (by decide +kernel)⟩
theorem lw_p2 : lw_okq (⟨"SonMarks$Roll", "add", "(IIII)I"⟩, 8) := ⟨⟨by decide +kernel, by decide +kernel⟩, List.mem_of_getElem? (i := 22) (by decide +kernel), List.mem_of_getElem? (i := 173) (by decide +kernel), List.mem_of_getElem? (i := 174) (by decide +kernel)⟩
theorem lw_p3 : lw_okq (⟨"SonMarks", "keepIfChanged", "(I)I"⟩, 10) := ⟨⟨by decide +kernel, by decide +kernel⟩, List.mem_of_getElem? (i := 14) (by decide +kernel), List.mem_of_getElem? (i := 177) (by decide +kernel), List.mem_of_getElem? (i := 178) (by decide +kernel)⟩
theorem lw_p4 : lw_okq (⟨"SonMarks", "enrolDeed", "(I)I"⟩, 10) := ⟨⟨by decide +kernel, by decide +kernel⟩, List.mem_of_getElem? (i := 14) (by decide +kernel), List.mem_of_getElem? (i := 334) (by decide +kernel), List.mem_of_getElem? (i := 335) (by decide +kernel)⟩
theorem lw_p5 : lw_okq (⟨"SonMarks$LineSearch", "reaches", "(LSonMarks$Roll;III)Z"⟩, 3) := ⟨⟨by decide +kernel, by decide +kernel⟩, List.mem_of_getElem? (i := 84) (by decide +kernel), List.mem_of_getElem? (i := 485) (by decide +kernel), List.mem_of_getElem? (i := 486) (by decide +kernel)⟩
theorem lw_p6 : lw_okq (⟨"SonMarks$LineSearch", "goOn", "(LSonMarks$Roll;II)V"⟩, 3) := ⟨⟨by decide +kernel, by decide +kernel⟩, List.mem_of_getElem? (i := 84) (by decide +kernel), List.mem_of_getElem? (i := 498) (by decide +kernel), List.mem_of_getElem? (i := 499) (by decide +kernel)⟩
theorem lw_p7 : lw_okq (⟨"SonMarks$LineSearch", "goOnFrom", "(LSonMarks$Roll;III)V"⟩, 3) := ⟨⟨by decide +kernel, by decide +kernel⟩, List.mem_of_getElem? (i := 84) (by decide +kernel), List.mem_of_getElem? (i := 510) (by decide +kernel), List.mem_of_getElem? (i := 511) (by decide +kernel)⟩
theorem lw_p8 : lw_okq (⟨"SonMarksModel", "living", "()I"⟩, 15) := ⟨⟨by decide +kernel, by decide +kernel⟩, List.mem_of_getElem? (i := 613) (by decide +kernel), List.mem_of_getElem? (i := 676) (by decide +kernel), List.mem_of_getElem? (i := 677) (by decide +kernel)⟩
theorem lw_p9 : lw_okq (⟨"SonMarksModel", "of", "(II)I"⟩, 15) := ⟨⟨by decide +kernel, by decide +kernel⟩, List.mem_of_getElem? (i := 613) (by decide +kernel), List.mem_of_getElem? (i := 680) (by decide +kernel), List.mem_of_getElem? (i := 681) (by decide +kernel)⟩
theorem lw_p10 : lw_okq (⟨"SonMarksModel", "record", "()V"⟩, 15) := ⟨⟨by decide +kernel, by decide +kernel⟩, List.mem_of_getElem? (i := 613) (by decide +kernel), List.mem_of_getElem? (i := 688) (by decide +kernel), List.mem_of_getElem? (i := 689) (by decide +kernel)⟩
theorem lw_p11 : lw_okq (⟨"SonMarksModel", "whyNotFound", "(I)I"⟩, 15) := ⟨⟨by decide +kernel, by decide +kernel⟩, List.mem_of_getElem? (i := 613) (by decide +kernel), List.mem_of_getElem? (i := 696) (by decide +kernel), List.mem_of_getElem? (i := 697) (by decide +kernel)⟩
theorem lw_p12 : lw_okq (⟨"SonMarksModel", "foundNow", "(I)I"⟩, 15) := ⟨⟨by decide +kernel, by decide +kernel⟩, List.mem_of_getElem? (i := 613) (by decide +kernel), List.mem_of_getElem? (i := 706) (by decide +kernel), List.mem_of_getElem? (i := 707) (by decide +kernel)⟩
theorem lw_p13 : lw_okq (⟨"SonMarksModel", "bears", "(I)I"⟩, 15) := ⟨⟨by decide +kernel, by decide +kernel⟩, List.mem_of_getElem? (i := 613) (by decide +kernel), List.mem_of_getElem? (i := 710) (by decide +kernel), List.mem_of_getElem? (i := 711) (by decide +kernel)⟩
theorem lw_p14 : lw_okq (⟨"SonMarksModel", "lives", "(I)Z"⟩, 15) := ⟨⟨by decide +kernel, by decide +kernel⟩, List.mem_of_getElem? (i := 613) (by decide +kernel), List.mem_of_getElem? (i := 714) (by decide +kernel), List.mem_of_getElem? (i := 715) (by decide +kernel)⟩
theorem lw_p15 : lw_okq (⟨"SonMarksModel", "refuse", "(I)I"⟩, 15) := ⟨⟨by decide +kernel, by decide +kernel⟩, List.mem_of_getElem? (i := 613) (by decide +kernel), List.mem_of_getElem? (i := 718) (by decide +kernel), List.mem_of_getElem? (i := 719) (by decide +kernel)⟩
def lw_privs_1 : List (MethodName × Nat) := [(⟨"SonMarks$History", "stateAt", "(I)LSonMarks$Roll;"⟩, 2), (⟨"SonMarks$Roll", "refuse", "(I)I"⟩, 8), (⟨"SonMarks$Roll", "add", "(IIII)I"⟩, 8), (⟨"SonMarks", "keepIfChanged", "(I)I"⟩, 10), (⟨"SonMarks", "enrolDeed", "(I)I"⟩, 10), (⟨"SonMarks$LineSearch", "reaches", "(LSonMarks$Roll;III)Z"⟩, 3), (⟨"SonMarks$LineSearch", "goOn", "(LSonMarks$Roll;II)V"⟩, 3), (⟨"SonMarks$LineSearch", "goOnFrom", "(LSonMarks$Roll;III)V"⟩, 3), (⟨"SonMarksModel", "living", "()I"⟩, 15), (⟨"SonMarksModel", "of", "(II)I"⟩, 15), (⟨"SonMarksModel", "record", "()V"⟩, 15), (⟨"SonMarksModel", "whyNotFound", "(I)I"⟩, 15), (⟨"SonMarksModel", "foundNow", "(I)I"⟩, 15), (⟨"SonMarksModel", "bears", "(I)I"⟩, 15), (⟨"SonMarksModel", "lives", "(I)Z"⟩, 15), (⟨"SonMarksModel", "refuse", "(I)I"⟩, 15)]
theorem lw_r1 : ∀ q ∈ lw_privs_1, lw_okq q := List.forall_mem_cons.mpr ⟨lw_p0, List.forall_mem_cons.mpr ⟨lw_p1, List.forall_mem_cons.mpr ⟨lw_p2, List.forall_mem_cons.mpr ⟨lw_p3, List.forall_mem_cons.mpr ⟨lw_p4, List.forall_mem_cons.mpr ⟨lw_p5, List.forall_mem_cons.mpr ⟨lw_p6, List.forall_mem_cons.mpr ⟨lw_p7, List.forall_mem_cons.mpr ⟨lw_p8, List.forall_mem_cons.mpr ⟨lw_p9, List.forall_mem_cons.mpr ⟨lw_p10, List.forall_mem_cons.mpr ⟨lw_p11, List.forall_mem_cons.mpr ⟨lw_p12, List.forall_mem_cons.mpr ⟨lw_p13, List.forall_mem_cons.mpr ⟨lw_p14, List.forall_mem_cons.mpr ⟨lw_p15, fun _ h => absurd h List.not_mem_nil⟩⟩⟩⟩⟩⟩⟩⟩⟩⟩⟩⟩⟩⟩⟩⟩
theorem lw_p16 : lw_okq (⟨"SonMarksModel", "come", "(IIII)I"⟩, 15) := ⟨⟨by decide +kernel, by decide +kernel⟩, List.mem_of_getElem? (i := 613) (by decide +kernel), List.mem_of_getElem? (i := 722) (by decide +kernel), List.mem_of_getElem? (i := 723) (by decide +kernel)⟩
theorem lw_p17 : lw_okq (⟨"SonMarksModel", "lay", "(III)V"⟩, 15) := ⟨⟨by decide +kernel, by decide +kernel⟩, List.mem_of_getElem? (i := 613) (by decide +kernel), List.mem_of_getElem? (i := 726) (by decide +kernel), List.mem_of_getElem? (i := 727) (by decide +kernel)⟩
theorem lw_p18 : lw_okq (⟨"SonMarksModel", "whyNotBear", "(III)I"⟩, 15) := ⟨⟨by decide +kernel, by decide +kernel⟩, List.mem_of_getElem? (i := 613) (by decide +kernel), List.mem_of_getElem? (i := 734) (by decide +kernel), List.mem_of_getElem? (i := 735) (by decide +kernel)⟩
theorem lw_p19 : lw_okq (⟨"SonMarksModel", "isPerson", "(I)Z"⟩, 15) := ⟨⟨by decide +kernel, by decide +kernel⟩, List.mem_of_getElem? (i := 613) (by decide +kernel), List.mem_of_getElem? (i := 738) (by decide +kernel), List.mem_of_getElem? (i := 739) (by decide +kernel)⟩
theorem lw_p20 : lw_okq (⟨"SonMarksModel", "bearNow", "(III)I"⟩, 15) := ⟨⟨by decide +kernel, by decide +kernel⟩, List.mem_of_getElem? (i := 613) (by decide +kernel), List.mem_of_getElem? (i := 745) (by decide +kernel), List.mem_of_getElem? (i := 746) (by decide +kernel)⟩
theorem lw_p21 : lw_okq (⟨"SonMarksModel", "reason", "(III)I"⟩, 15) := ⟨⟨by decide +kernel, by decide +kernel⟩, List.mem_of_getElem? (i := 613) (by decide +kernel), List.mem_of_getElem? (i := 749) (by decide +kernel), List.mem_of_getElem? (i := 750) (by decide +kernel)⟩
theorem lw_p22 : lw_okq (⟨"SonMarksModel", "isCousins", "(II)Z"⟩, 15) := ⟨⟨by decide +kernel, by decide +kernel⟩, List.mem_of_getElem? (i := 613) (by decide +kernel), List.mem_of_getElem? (i := 762) (by decide +kernel), List.mem_of_getElem? (i := 763) (by decide +kernel)⟩
theorem lw_p23 : lw_okq (⟨"SonMarksModel", "areBrothers", "(II)Z"⟩, 15) := ⟨⟨by decide +kernel, by decide +kernel⟩, List.mem_of_getElem? (i := 613) (by decide +kernel), List.mem_of_getElem? (i := 766) (by decide +kernel), List.mem_of_getElem? (i := 767) (by decide +kernel)⟩
theorem lw_p24 : lw_okq (⟨"SonMarksModel", "sonsOf", "(IZ)I"⟩, 15) := ⟨⟨by decide +kernel, by decide +kernel⟩, List.mem_of_getElem? (i := 613) (by decide +kernel), List.mem_of_getElem? (i := 770) (by decide +kernel), List.mem_of_getElem? (i := 771) (by decide +kernel)⟩
theorem lw_p25 : lw_okq (⟨"SonMarksModel", "dieNow", "(I)I"⟩, 15) := ⟨⟨by decide +kernel, by decide +kernel⟩, List.mem_of_getElem? (i := 613) (by decide +kernel), List.mem_of_getElem? (i := 778) (by decide +kernel), List.mem_of_getElem? (i := 779) (by decide +kernel)⟩
theorem lw_p26 : lw_okq (⟨"SonMarksModel", "whyNotInherit", "(I)I"⟩, 15) := ⟨⟨by decide +kernel, by decide +kernel⟩, List.mem_of_getElem? (i := 613) (by decide +kernel), List.mem_of_getElem? (i := 786) (by decide +kernel), List.mem_of_getElem? (i := 787) (by decide +kernel)⟩
theorem lw_p27 : lw_okq (⟨"SonMarksModel", "inheritNow", "(I)I"⟩, 15) := ⟨⟨by decide +kernel, by decide +kernel⟩, List.mem_of_getElem? (i := 613) (by decide +kernel), List.mem_of_getElem? (i := 790) (by decide +kernel), List.mem_of_getElem? (i := 791) (by decide +kernel)⟩
theorem lw_p28 : lw_okq (⟨"SonMarksModel", "eldest", "(I)I"⟩, 15) := ⟨⟨by decide +kernel, by decide +kernel⟩, List.mem_of_getElem? (i := 613) (by decide +kernel), List.mem_of_getElem? (i := 794) (by decide +kernel), List.mem_of_getElem? (i := 795) (by decide +kernel)⟩
theorem lw_p29 : lw_okq (⟨"SonMarksModel", "readPad", "()Z"⟩, 15) := ⟨⟨by decide +kernel, by decide +kernel⟩, List.mem_of_getElem? (i := 613) (by decide +kernel), List.mem_of_getElem? (i := 813) (by decide +kernel), List.mem_of_getElem? (i := 814) (by decide +kernel)⟩
theorem lw_p30 : lw_okq (⟨"SonMarksModel", "readDeed", "()Z"⟩, 15) := ⟨⟨by decide +kernel, by decide +kernel⟩, List.mem_of_getElem? (i := 613) (by decide +kernel), List.mem_of_getElem? (i := 817) (by decide +kernel), List.mem_of_getElem? (i := 818) (by decide +kernel)⟩
theorem lw_p31 : lw_okq (⟨"SonMarksModel", "readShield", "()I"⟩, 15) := ⟨⟨by decide +kernel, by decide +kernel⟩, List.mem_of_getElem? (i := 613) (by decide +kernel), List.mem_of_getElem? (i := 821) (by decide +kernel), List.mem_of_getElem? (i := 822) (by decide +kernel)⟩
def lw_privs_2 : List (MethodName × Nat) := [(⟨"SonMarksModel", "come", "(IIII)I"⟩, 15), (⟨"SonMarksModel", "lay", "(III)V"⟩, 15), (⟨"SonMarksModel", "whyNotBear", "(III)I"⟩, 15), (⟨"SonMarksModel", "isPerson", "(I)Z"⟩, 15), (⟨"SonMarksModel", "bearNow", "(III)I"⟩, 15), (⟨"SonMarksModel", "reason", "(III)I"⟩, 15), (⟨"SonMarksModel", "isCousins", "(II)Z"⟩, 15), (⟨"SonMarksModel", "areBrothers", "(II)Z"⟩, 15), (⟨"SonMarksModel", "sonsOf", "(IZ)I"⟩, 15), (⟨"SonMarksModel", "dieNow", "(I)I"⟩, 15), (⟨"SonMarksModel", "whyNotInherit", "(I)I"⟩, 15), (⟨"SonMarksModel", "inheritNow", "(I)I"⟩, 15), (⟨"SonMarksModel", "eldest", "(I)I"⟩, 15), (⟨"SonMarksModel", "readPad", "()Z"⟩, 15), (⟨"SonMarksModel", "readDeed", "()Z"⟩, 15), (⟨"SonMarksModel", "readShield", "()I"⟩, 15)]
theorem lw_r2 : ∀ q ∈ lw_privs_2, lw_okq q := List.forall_mem_cons.mpr ⟨lw_p16, List.forall_mem_cons.mpr ⟨lw_p17, List.forall_mem_cons.mpr ⟨lw_p18, List.forall_mem_cons.mpr ⟨lw_p19, List.forall_mem_cons.mpr ⟨lw_p20, List.forall_mem_cons.mpr ⟨lw_p21, List.forall_mem_cons.mpr ⟨lw_p22, List.forall_mem_cons.mpr ⟨lw_p23, List.forall_mem_cons.mpr ⟨lw_p24, List.forall_mem_cons.mpr ⟨lw_p25, List.forall_mem_cons.mpr ⟨lw_p26, List.forall_mem_cons.mpr ⟨lw_p27, List.forall_mem_cons.mpr ⟨lw_p28, List.forall_mem_cons.mpr ⟨lw_p29, List.forall_mem_cons.mpr ⟨lw_p30, List.forall_mem_cons.mpr ⟨lw_p31, fun _ h => absurd h List.not_mem_nil⟩⟩⟩⟩⟩⟩⟩⟩⟩⟩⟩⟩⟩⟩⟩⟩
theorem lw_p32 : lw_okq (⟨"SonMarksModel", "digit", "(I)I"⟩, 15) := ⟨⟨by decide +kernel, by decide +kernel⟩, List.mem_of_getElem? (i := 613) (by decide +kernel), List.mem_of_getElem? (i := 825) (by decide +kernel), List.mem_of_getElem? (i := 826) (by decide +kernel)⟩
theorem lw_p33 : lw_okq (⟨"SonMarksModel", "sees", "(II)Z"⟩, 15) := ⟨⟨by decide +kernel, by decide +kernel⟩, List.mem_of_getElem? (i := 613) (by decide +kernel), List.mem_of_getElem? (i := 829) (by decide +kernel), List.mem_of_getElem? (i := 830) (by decide +kernel)⟩
theorem lw_p34 : lw_okq (⟨"SonMarksModel", "number", "()I"⟩, 15) := ⟨⟨by decide +kernel, by decide +kernel⟩, List.mem_of_getElem? (i := 613) (by decide +kernel), List.mem_of_getElem? (i := 833) (by decide +kernel), List.mem_of_getElem? (i := 834) (by decide +kernel)⟩
theorem lw_p35 : lw_okq (⟨"SonMarksModel", "takes", "(I)Z"⟩, 15) := ⟨⟨by decide +kernel, by decide +kernel⟩, List.mem_of_getElem? (i := 613) (by decide +kernel), List.mem_of_getElem? (i := 837) (by decide +kernel), List.mem_of_getElem? (i := 838) (by decide +kernel)⟩
theorem lw_p36 : lw_okq (⟨"SonMarksModel", "doDeed", "(I)I"⟩, 15) := ⟨⟨by decide +kernel, by decide +kernel⟩, List.mem_of_getElem? (i := 613) (by decide +kernel), List.mem_of_getElem? (i := 845) (by decide +kernel), List.mem_of_getElem? (i := 846) (by decide +kernel)⟩
theorem lw_p37 : lw_okq (⟨"SonMarksModel", "livingKin", "(IZ)I"⟩, 15) := ⟨⟨by decide +kernel, by decide +kernel⟩, List.mem_of_getElem? (i := 613) (by decide +kernel), List.mem_of_getElem? (i := 857) (by decide +kernel), List.mem_of_getElem? (i := 858) (by decide +kernel)⟩
theorem lw_p38 : lw_okq (⟨"SonMarksModel", "areCousins", "(II)Z"⟩, 15) := ⟨⟨by decide +kernel, by decide +kernel⟩, List.mem_of_getElem? (i := 613) (by decide +kernel), List.mem_of_getElem? (i := 861) (by decide +kernel), List.mem_of_getElem? (i := 862) (by decide +kernel)⟩
theorem lw_p39 : lw_okq (⟨"SonMarksModel", "allFrom", "(I)I"⟩, 15) := ⟨⟨by decide +kernel, by decide +kernel⟩, List.mem_of_getElem? (i := 613) (by decide +kernel), List.mem_of_getElem? (i := 865) (by decide +kernel), List.mem_of_getElem? (i := 866) (by decide +kernel)⟩
theorem lw_p40 : lw_okq (⟨"SonMarksModel", "comesFrom", "(II)Z"⟩, 15) := ⟨⟨by decide +kernel, by decide +kernel⟩, List.mem_of_getElem? (i := 613) (by decide +kernel), List.mem_of_getElem? (i := 869) (by decide +kernel), List.mem_of_getElem? (i := 870) (by decide +kernel)⟩
theorem lw_p41 : lw_okq (⟨"SonMarksModel", "depth", "(I)I"⟩, 15) := ⟨⟨by decide +kernel, by decide +kernel⟩, List.mem_of_getElem? (i := 613) (by decide +kernel), List.mem_of_getElem? (i := 873) (by decide +kernel), List.mem_of_getElem? (i := 874) (by decide +kernel)⟩
theorem lw_p42 : lw_okq (⟨"SonMarksModel", "farFromFather", "(I)I"⟩, 15) := ⟨⟨by decide +kernel, by decide +kernel⟩, List.mem_of_getElem? (i := 613) (by decide +kernel), List.mem_of_getElem? (i := 877) (by decide +kernel), List.mem_of_getElem? (i := 878) (by decide +kernel)⟩
theorem lw_p43 : lw_okq (⟨"SonMarksModel", "choicesOf", "(I)I"⟩, 15) := ⟨⟨by decide +kernel, by decide +kernel⟩, List.mem_of_getElem? (i := 613) (by decide +kernel), List.mem_of_getElem? (i := 893) (by decide +kernel), List.mem_of_getElem? (i := 894) (by decide +kernel)⟩
theorem lw_p44 : lw_okq (⟨"SonMarksModel", "leastFar", "(II)I"⟩, 15) := ⟨⟨by decide +kernel, by decide +kernel⟩, List.mem_of_getElem? (i := 613) (by decide +kernel), List.mem_of_getElem? (i := 901) (by decide +kernel), List.mem_of_getElem? (i := 902) (by decide +kernel)⟩
theorem lw_p45 : lw_okq (⟨"SonMarksModel", "fewest", "(II)I"⟩, 15) := ⟨⟨by decide +kernel, by decide +kernel⟩, List.mem_of_getElem? (i := 613) (by decide +kernel), List.mem_of_getElem? (i := 921) (by decide +kernel), List.mem_of_getElem? (i := 922) (by decide +kernel)⟩
theorem lw_p46 : lw_okq (⟨"SonMarksModel", "founders", "()I"⟩, 15) := ⟨⟨by decide +kernel, by decide +kernel⟩, List.mem_of_getElem? (i := 613) (by decide +kernel), List.mem_of_getElem? (i := 929) (by decide +kernel), List.mem_of_getElem? (i := 930) (by decide +kernel)⟩
theorem lw_p47 : lw_okq (⟨"SonMarksModel", "confused", "()I"⟩, 15) := ⟨⟨by decide +kernel, by decide +kernel⟩, List.mem_of_getElem? (i := 613) (by decide +kernel), List.mem_of_getElem? (i := 933) (by decide +kernel), List.mem_of_getElem? (i := 934) (by decide +kernel)⟩
def lw_privs_3 : List (MethodName × Nat) := [(⟨"SonMarksModel", "digit", "(I)I"⟩, 15), (⟨"SonMarksModel", "sees", "(II)Z"⟩, 15), (⟨"SonMarksModel", "number", "()I"⟩, 15), (⟨"SonMarksModel", "takes", "(I)Z"⟩, 15), (⟨"SonMarksModel", "doDeed", "(I)I"⟩, 15), (⟨"SonMarksModel", "livingKin", "(IZ)I"⟩, 15), (⟨"SonMarksModel", "areCousins", "(II)Z"⟩, 15), (⟨"SonMarksModel", "allFrom", "(I)I"⟩, 15), (⟨"SonMarksModel", "comesFrom", "(II)Z"⟩, 15), (⟨"SonMarksModel", "depth", "(I)I"⟩, 15), (⟨"SonMarksModel", "farFromFather", "(I)I"⟩, 15), (⟨"SonMarksModel", "choicesOf", "(I)I"⟩, 15), (⟨"SonMarksModel", "leastFar", "(II)I"⟩, 15), (⟨"SonMarksModel", "fewest", "(II)I"⟩, 15), (⟨"SonMarksModel", "founders", "()I"⟩, 15), (⟨"SonMarksModel", "confused", "()I"⟩, 15)]
theorem lw_r3 : ∀ q ∈ lw_privs_3, lw_okq q := List.forall_mem_cons.mpr ⟨lw_p32, List.forall_mem_cons.mpr ⟨lw_p33, List.forall_mem_cons.mpr ⟨lw_p34, List.forall_mem_cons.mpr ⟨lw_p35, List.forall_mem_cons.mpr ⟨lw_p36, List.forall_mem_cons.mpr ⟨lw_p37, List.forall_mem_cons.mpr ⟨lw_p38, List.forall_mem_cons.mpr ⟨lw_p39, List.forall_mem_cons.mpr ⟨lw_p40, List.forall_mem_cons.mpr ⟨lw_p41, List.forall_mem_cons.mpr ⟨lw_p42, List.forall_mem_cons.mpr ⟨lw_p43, List.forall_mem_cons.mpr ⟨lw_p44, List.forall_mem_cons.mpr ⟨lw_p45, List.forall_mem_cons.mpr ⟨lw_p46, List.forall_mem_cons.mpr ⟨lw_p47, fun _ h => absurd h List.not_mem_nil⟩⟩⟩⟩⟩⟩⟩⟩⟩⟩⟩⟩⟩⟩⟩⟩
theorem lw_p48 : lw_okq (⟨"SonMarksModel", "isConfused", "(II)Z"⟩, 15) := ⟨⟨by decide +kernel, by decide +kernel⟩, List.mem_of_getElem? (i := 613) (by decide +kernel), List.mem_of_getElem? (i := 937) (by decide +kernel), List.mem_of_getElem? (i := 938) (by decide +kernel)⟩
theorem lw_p49 : lw_okq (⟨"SonMarksModel", "deepest", "()I"⟩, 15) := ⟨⟨by decide +kernel, by decide +kernel⟩, List.mem_of_getElem? (i := 613) (by decide +kernel), List.mem_of_getElem? (i := 941) (by decide +kernel), List.mem_of_getElem? (i := 942) (by decide +kernel)⟩
theorem lw_p50 : lw_okq (⟨"SonMarksModel", "differentShields", "()I"⟩, 15) := ⟨⟨by decide +kernel, by decide +kernel⟩, List.mem_of_getElem? (i := 613) (by decide +kernel), List.mem_of_getElem? (i := 945) (by decide +kernel), List.mem_of_getElem? (i := 946) (by decide +kernel)⟩
theorem lw_p51 : lw_okq (⟨"SonMarksModel", "livingBy", "(I)I"⟩, 15) := ⟨⟨by decide +kernel, by decide +kernel⟩, List.mem_of_getElem? (i := 613) (by decide +kernel), List.mem_of_getElem? (i := 949) (by decide +kernel), List.mem_of_getElem? (i := 950) (by decide +kernel)⟩
theorem lw_p52 : lw_okq (⟨"SonMarksModel", "allChoices", "()I"⟩, 15) := ⟨⟨by decide +kernel, by decide +kernel⟩, List.mem_of_getElem? (i := 613) (by decide +kernel), List.mem_of_getElem? (i := 965) (by decide +kernel), List.mem_of_getElem? (i := 966) (by decide +kernel)⟩
def lw_privs_4 : List (MethodName × Nat) := [(⟨"SonMarksModel", "isConfused", "(II)Z"⟩, 15), (⟨"SonMarksModel", "deepest", "()I"⟩, 15), (⟨"SonMarksModel", "differentShields", "()I"⟩, 15), (⟨"SonMarksModel", "livingBy", "(I)I"⟩, 15), (⟨"SonMarksModel", "allChoices", "()I"⟩, 15)]
theorem lw_r4 : ∀ q ∈ lw_privs_4, lw_okq q := List.forall_mem_cons.mpr ⟨lw_p48, List.forall_mem_cons.mpr ⟨lw_p49, List.forall_mem_cons.mpr ⟨lw_p50, List.forall_mem_cons.mpr ⟨lw_p51, List.forall_mem_cons.mpr ⟨lw_p52, fun _ h => absurd h List.not_mem_nil⟩⟩⟩⟩⟩
def lw_privs : List (MethodName × Nat) := lw_privs_1 ++ (lw_privs_2 ++ (lw_privs_3 ++ (lw_privs_4)))
def lw_tbl : List Cond := k2_sels lw_privs ++ tables_1
theorem lw_privs_ok : ∀ q ∈ lw_privs, lw_okq q := by
  show ∀ q ∈ lw_privs_1 ++ (lw_privs_2 ++ (lw_privs_3 ++ (lw_privs_4))), lw_okq q
  exact List.forall_mem_append.mpr ⟨lw_r1, List.forall_mem_append.mpr ⟨lw_r2, List.forall_mem_append.mpr ⟨lw_r3, lw_r4⟩⟩⟩
/-- the streams that the claim lets the run draw from -/
abbrev lw_cs : List Choice := [Jvm.Choice.named "NaN.bits"]
theorem lw_bits : nanBits ∈ lw_cs := by first | decide | exact List.mem_cons_self | simp [lw_cs, nanBits]

def RX0 : String := "SonMarks$Accounts"
def TX0 : u_T := fun k => match k with
  | _ => ("", "", "", false)
def tyX0 : Nat → FieldType := fun k => match k with
  | _ => .int
abbrev wsX00 : List Cond := u_ws RX0 TX0 0
theorem nmX0 : ∀ a, a < 0 → ∀ b, b < 0 → a ≠ b → (TX0 a).2.1 ≠ (TX0 b).2.1 := by decide +kernel
theorem tyX0_ok : ∀ k, k < 0 → parseFieldDescriptor (TX0 k).2.2.1 = some (tyX0 k) := by decide +kernel
abbrev cX0_founders : ByteArray := prog_2_method_2_code
def yX0_founders : MethodName := ⟨RX0, "founders", "(LSonMarks$Roll;)I"⟩
abbrev cX0_confusedPairs : ByteArray := prog_2_method_3_code
def yX0_confusedPairs : MethodName := ⟨RX0, "confusedPairs", "(LSonMarks$Roll;)I"⟩
abbrev cX0_areConfused : ByteArray := prog_2_method_4_code
def yX0_areConfused : MethodName := ⟨RX0, "areConfused", "(LSonMarks$Roll;II)Z"⟩
abbrev cX0_mostStepsFromFounder : ByteArray := prog_2_method_5_code
def yX0_mostStepsFromFounder : MethodName := ⟨RX0, "mostStepsFromFounder", "(LSonMarks$Roll;)I"⟩
abbrev cX0_differentShields : ByteArray := prog_2_method_6_code
def yX0_differentShields : MethodName := ⟨RX0, "differentShields", "(LSonMarks$Roll;)I"⟩
abbrev cX0_isFirstWithItsShield : ByteArray := prog_2_method_7_code
def yX0_isFirstWithItsShield : MethodName := ⟨RX0, "isFirstWithItsShield", "(LSonMarks$Roll;I)Z"⟩
abbrev cX0_farFromFather : ByteArray := prog_2_method_8_code
def yX0_farFromFather : MethodName := ⟨RX0, "farFromFather", "(LSonMarks$Roll;)I"⟩
abbrev cX0_livingSonless : ByteArray := prog_2_method_9_code
def yX0_livingSonless : MethodName := ⟨RX0, "livingSonless", "(LSonMarks$Roll;)I"⟩
abbrev cX0_livingWithMark : ByteArray := prog_2_method_10_code
def yX0_livingWithMark : MethodName := ⟨RX0, "livingWithMark", "(LSonMarks$Roll;II)I"⟩
abbrev cX0_meanApart : ByteArray := prog_2_method_11_code
def yX0_meanApart : MethodName := ⟨RX0, "meanApart", "(LSonMarks$Roll;)D"⟩
def RX1 : String := "SonMarks$Births"
def TX1 : u_T := fun k => match k with
  | _ => ("", "", "", false)
def tyX1 : Nat → FieldType := fun k => match k with
  | _ => .int
abbrev wsX10 : List Cond := u_ws RX1 TX1 0
theorem nmX1 : ∀ a, a < 0 → ∀ b, b < 0 → a ≠ b → (TX1 a).2.1 ≠ (TX1 b).2.1 := by decide +kernel
theorem tyX1_ok : ∀ k, k < 0 → parseFieldDescriptor (TX1 k).2.2.1 = some (tyX1 k) := by decide +kernel
abbrev cX1_leftByTrying : ByteArray := prog_3_method_2_code
def yX1_leftByTrying : MethodName := ⟨RX1, "leftByTrying", "(LSonMarks$Roll;I)I"⟩
abbrev cX1_leftByPlaces : ByteArray := prog_3_method_3_code
def yX1_leftByPlaces : MethodName := ⟨RX1, "leftByPlaces", "(LSonMarks$Roll;I)I"⟩
abbrev cX1_livingApartAt : ByteArray := prog_3_method_4_code
def yX1_livingApartAt : MethodName := ⟨RX1, "livingApartAt", "(LSonMarks$Roll;II)I"⟩
abbrev cX1_leftToAll : ByteArray := prog_3_method_5_code
def yX1_leftToAll : MethodName := ⟨RX1, "leftToAll", "(LSonMarks$Roll;)I"⟩
abbrev cX1_farthest : ByteArray := prog_3_method_6_code
def yX1_farthest : MethodName := ⟨RX1, "farthest", "(LSonMarks$Roll;I)I"⟩
abbrev cX1_leastApart : ByteArray := prog_3_method_7_code
def yX1_leastApart : MethodName := ⟨RX1, "leastApart", "(LSonMarks$Roll;II)I"⟩
def RX2 : String := "SonMarks$History"
def TX2 : u_T := fun k => match k with
  | 0 => ("SonMarks$History", "states", "[LSonMarks$Roll;", true)
  | _ => ("SonMarks$History", "size", "I", false)
def tyX2 : Nat → FieldType := fun k => match k with
  | 0 => .array (.object "SonMarks$Roll")
  | _ => .int
abbrev wsX20 : List Cond := u_ws RX2 TX2 2
theorem nmX2 : ∀ a, a < 2 → ∀ b, b < 2 → a ≠ b → (TX2 a).2.1 ≠ (TX2 b).2.1 := by decide +kernel
theorem tyX2_ok : ∀ k, k < 2 → parseFieldDescriptor (TX2 k).2.2.1 = some (tyX2 k) := by decide +kernel
abbrev cX2_init : ByteArray := prog_4_method_1_code
def yX2_init : MethodName := ⟨RX2, "<init>", "()V"⟩
abbrev cX2_size : ByteArray := prog_4_method_2_code
def yX2_size : MethodName := ⟨RX2, "size", "()I"⟩
abbrev cX2_stateAt : ByteArray := prog_4_method_3_code
def yX2_stateAt : MethodName := ⟨RX2, "stateAt", "(I)LSonMarks$Roll;"⟩
abbrev cX2_note : ByteArray := prog_4_method_4_code
def yX2_note : MethodName := ⟨RX2, "note", "(LSonMarks$Roll;)V"⟩
abbrev cX2_keepNoted : ByteArray := prog_4_method_5_code
def yX2_keepNoted : MethodName := ⟨RX2, "keepNoted", "()V"⟩
abbrev cX2_takeBack : ByteArray := prog_4_method_6_code
def yX2_takeBack : MethodName := ⟨RX2, "takeBack", "(LSonMarks$Roll;)V"⟩
def RX3 : String := "SonMarks$Kindred"
def TX3 : u_T := fun k => match k with
  | _ => ("", "", "", false)
def tyX3 : Nat → FieldType := fun k => match k with
  | _ => .int
abbrev wsX30 : List Cond := u_ws RX3 TX3 0
theorem nmX3 : ∀ a, a < 0 → ∀ b, b < 0 → a ≠ b → (TX3 a).2.1 ≠ (TX3 b).2.1 := by decide +kernel
theorem tyX3_ok : ∀ k, k < 0 → parseFieldDescriptor (TX3 k).2.2.1 = some (tyX3 k) := by decide +kernel
abbrev cX3_livingSons : ByteArray := prog_5_method_2_code
def yX3_livingSons : MethodName := ⟨RX3, "livingSons", "(LSonMarks$Roll;I)I"⟩
abbrev cX3_livingBrothers : ByteArray := prog_5_method_3_code
def yX3_livingBrothers : MethodName := ⟨RX3, "livingBrothers", "(LSonMarks$Roll;I)I"⟩
abbrev cX3_livingCousins : ByteArray := prog_5_method_4_code
def yX3_livingCousins : MethodName := ⟨RX3, "livingCousins", "(LSonMarks$Roll;I)I"⟩
abbrev cX3_descendants : ByteArray := prog_5_method_5_code
def yX3_descendants : MethodName := ⟨RX3, "descendants", "(LSonMarks$Roll;I)I"⟩
abbrev cX3_comesFrom : ByteArray := prog_5_method_6_code
def yX3_comesFrom : MethodName := ⟨RX3, "comesFrom", "(LSonMarks$Roll;II)Z"⟩
abbrev cX3_stepsFromFounder : ByteArray := prog_5_method_7_code
def yX3_stepsFromFounder : MethodName := ⟨RX3, "stepsFromFounder", "(LSonMarks$Roll;I)I"⟩
abbrev cX3_placesFromFather : ByteArray := prog_5_method_8_code
def yX3_placesFromFather : MethodName := ⟨RX3, "placesFromFather", "(LSonMarks$Roll;I)I"⟩
abbrev cX3_nearness : ByteArray := prog_5_method_9_code
def yX3_nearness : MethodName := ⟨RX3, "nearness", "(LSonMarks$Roll;II)I"⟩
abbrev cX3_heirOf : ByteArray := prog_5_method_10_code
def yX3_heirOf : MethodName := ⟨RX3, "heirOf", "(LSonMarks$Roll;I)I"⟩
def RX4 : String := "SonMarks$LineSearch"
def TX4 : u_T := fun k => match k with
  | 0 => ("SonMarks$LineSearch", "seen", "LSonMarks$ShieldSet;", true)
  | 1 => ("SonMarks$LineSearch", "reached", "LSonMarks$ShieldSet;", false)
  | _ => ("SonMarks$LineSearch", "next", "LSonMarks$ShieldSet;", false)
def tyX4 : Nat → FieldType := fun k => match k with
  | 0 => .object "SonMarks$ShieldSet"
  | 1 => .object "SonMarks$ShieldSet"
  | _ => .object "SonMarks$ShieldSet"
abbrev wsX40 : List Cond := u_ws RX4 TX4 3
theorem nmX4 : ∀ a, a < 3 → ∀ b, b < 3 → a ≠ b → (TX4 a).2.1 ≠ (TX4 b).2.1 := by decide +kernel
theorem tyX4_ok : ∀ k, k < 3 → parseFieldDescriptor (TX4 k).2.2.1 = some (tyX4 k) := by decide +kernel
abbrev cX4_init : ByteArray := prog_6_method_1_code
def yX4_init : MethodName := ⟨RX4, "<init>", "()V"⟩
abbrev cX4_fewest : ByteArray := prog_6_method_2_code
def yX4_fewest : MethodName := ⟨RX4, "fewest", "(LSonMarks$Roll;II)I"⟩
abbrev cX4_reaches : ByteArray := prog_6_method_3_code
def yX4_reaches : MethodName := ⟨RX4, "reaches", "(LSonMarks$Roll;III)Z"⟩
abbrev cX4_goOn : ByteArray := prog_6_method_4_code
def yX4_goOn : MethodName := ⟨RX4, "goOn", "(LSonMarks$Roll;II)V"⟩
abbrev cX4_goOnFrom : ByteArray := prog_6_method_5_code
def yX4_goOnFrom : MethodName := ⟨RX4, "goOnFrom", "(LSonMarks$Roll;III)V"⟩
def RX5 : String := "SonMarks$Pad"
def TX5 : u_T := fun k => match k with
  | 0 => ("SonMarks$Pad", "signs", "[I", true)
  | _ => ("SonMarks$Pad", "length", "I", false)
def tyX5 : Nat → FieldType := fun k => match k with
  | 0 => .array .int
  | _ => .int
abbrev wsX50 : List Cond := u_ws RX5 TX5 2
theorem nmX5 : ∀ a, a < 2 → ∀ b, b < 2 → a ≠ b → (TX5 a).2.1 ≠ (TX5 b).2.1 := by decide +kernel
theorem tyX5_ok : ∀ k, k < 2 → parseFieldDescriptor (TX5 k).2.2.1 = some (tyX5 k) := by decide +kernel
abbrev cX5_init : ByteArray := prog_7_method_1_code
def yX5_init : MethodName := ⟨RX5, "<init>", "()V"⟩
abbrev cX5_length : ByteArray := prog_7_method_2_code
def yX5_length : MethodName := ⟨RX5, "length", "()I"⟩
abbrev cX5_isFull : ByteArray := prog_7_method_3_code
def yX5_isFull : MethodName := ⟨RX5, "isFull", "()Z"⟩
abbrev cX5_put : ByteArray := prog_7_method_4_code
def yX5_put : MethodName := ⟨RX5, "put", "(I)V"⟩
abbrev cX5_empty : ByteArray := prog_7_method_5_code
def yX5_empty : MethodName := ⟨RX5, "empty", "()V"⟩
abbrev cX5_signAt : ByteArray := prog_7_method_6_code
def yX5_signAt : MethodName := ⟨RX5, "signAt", "(I)I"⟩
abbrev cX5_startsDeed : ByteArray := prog_7_method_7_code
def yX5_startsDeed : MethodName := ⟨RX5, "startsDeed", "(I)Z"⟩
abbrev cX5_digitAt : ByteArray := prog_7_method_8_code
def yX5_digitAt : MethodName := ⟨RX5, "digitAt", "(I)I"⟩
abbrev cX5_afterNumber : ByteArray := prog_7_method_9_code
def yX5_afterNumber : MethodName := ⟨RX5, "afterNumber", "(I)I"⟩
abbrev cX5_numberAt : ByteArray := prog_7_method_10_code
def yX5_numberAt : MethodName := ⟨RX5, "numberAt", "(I)I"⟩
abbrev cX5_shieldAt : ByteArray := prog_7_method_11_code
def yX5_shieldAt : MethodName := ⟨RX5, "shieldAt", "(I)I"⟩
abbrev cX5_firstFault : ByteArray := prog_7_method_12_code
def yX5_firstFault : MethodName := ⟨RX5, "firstFault", "()I"⟩
abbrev cX5_stateAfter : ByteArray := prog_7_method_13_code
def yX5_stateAfter : MethodName := ⟨RX5, "stateAfter", "(II)I"⟩
abbrev cX5_stateAfterLetter : ByteArray := prog_7_method_14_code
def yX5_stateAfterLetter : MethodName := ⟨RX5, "stateAfterLetter", "(I)I"⟩
abbrev cX5_stateAfterFather : ByteArray := prog_7_method_15_code
def yX5_stateAfterFather : MethodName := ⟨RX5, "stateAfterFather", "(I)I"⟩
abbrev cX5_stateAfterDeed : ByteArray := prog_7_method_16_code
def yX5_stateAfterDeed : MethodName := ⟨RX5, "stateAfterDeed", "(I)I"⟩
abbrev cX5_stateAfterDigit : ByteArray := prog_7_method_17_code
def yX5_stateAfterDigit : MethodName := ⟨RX5, "stateAfterDigit", "(III)I"⟩
abbrev cX5_isBetween : ByteArray := prog_7_method_18_code
def yX5_isBetween : MethodName := ⟨RX5, "isBetween", "(III)Z"⟩
def RX6 : String := "SonMarks$Roll"
def TX6 : u_T := fun k => match k with
  | 0 => ("SonMarks$Roll", "shields", "[I", true)
  | 1 => ("SonMarks$Roll", "alive", "[Z", true)
  | 2 => ("SonMarks$Roll", "fathers", "[I", true)
  | 3 => ("SonMarks$Roll", "birthPlaces", "[I", true)
  | 4 => ("SonMarks$Roll", "birthMarks", "[I", true)
  | 5 => ("SonMarks$Roll", "size", "I", false)
  | 6 => ("SonMarks$Roll", "heirs", "I", false)
  | _ => ("SonMarks$Roll", "refusals", "I", false)
def tyX6 : Nat → FieldType := fun k => match k with
  | 0 => .array .int
  | 1 => .array .boolean
  | 2 => .array .int
  | 3 => .array .int
  | 4 => .array .int
  | 5 => .int
  | 6 => .int
  | _ => .int
abbrev wsX60 : List Cond := u_ws RX6 TX6 8
theorem nmX6 : ∀ a, a < 8 → ∀ b, b < 8 → a ≠ b → (TX6 a).2.1 ≠ (TX6 b).2.1 := by decide +kernel
theorem tyX6_ok : ∀ k, k < 8 → parseFieldDescriptor (TX6 k).2.2.1 = some (tyX6 k) := by decide +kernel
abbrev cX6_init : ByteArray := prog_8_method_1_code
def yX6_init : MethodName := ⟨RX6, "<init>", "()V"⟩
abbrev cX6_copyFrom : ByteArray := prog_8_method_2_code
def yX6_copyFrom : MethodName := ⟨RX6, "copyFrom", "(LSonMarks$Roll;)V"⟩
abbrev cX6_size : ByteArray := prog_8_method_3_code
def yX6_size : MethodName := ⟨RX6, "size", "()I"⟩
abbrev cX6_heirs : ByteArray := prog_8_method_4_code
def yX6_heirs : MethodName := ⟨RX6, "heirs", "()I"⟩
abbrev cX6_refusals : ByteArray := prog_8_method_5_code
def yX6_refusals : MethodName := ⟨RX6, "refusals", "()I"⟩
abbrev cX6_has : ByteArray := prog_8_method_6_code
def yX6_has : MethodName := ⟨RX6, "has", "(I)Z"⟩
abbrev cX6_shieldOf : ByteArray := prog_8_method_7_code
def yX6_shieldOf : MethodName := ⟨RX6, "shieldOf", "(I)I"⟩
abbrev cX6_isAlive : ByteArray := prog_8_method_8_code
def yX6_isAlive : MethodName := ⟨RX6, "isAlive", "(I)Z"⟩
abbrev cX6_fatherOf : ByteArray := prog_8_method_9_code
def yX6_fatherOf : MethodName := ⟨RX6, "fatherOf", "(I)I"⟩
abbrev cX6_birthPlaceOf : ByteArray := prog_8_method_10_code
def yX6_birthPlaceOf : MethodName := ⟨RX6, "birthPlaceOf", "(I)I"⟩
abbrev cX6_birthMarkOf : ByteArray := prog_8_method_11_code
def yX6_birthMarkOf : MethodName := ⟨RX6, "birthMarkOf", "(I)I"⟩
abbrev cX6_living : ByteArray := prog_8_method_12_code
def yX6_living : MethodName := ⟨RX6, "living", "()I"⟩
abbrev cX6_livingWith : ByteArray := prog_8_method_13_code
def yX6_livingWith : MethodName := ⟨RX6, "livingWith", "(I)I"⟩
abbrev cX6_sonsOf : ByteArray := prog_8_method_14_code
def yX6_sonsOf : MethodName := ⟨RX6, "sonsOf", "(I)I"⟩
abbrev cX6_areBrothers : ByteArray := prog_8_method_15_code
def yX6_areBrothers : MethodName := ⟨RX6, "areBrothers", "(II)Z"⟩
abbrev cX6_founderComes : ByteArray := prog_8_method_16_code
def yX6_founderComes : MethodName := ⟨RX6, "founderComes", "(I)I"⟩
abbrev cX6_sonComes : ByteArray := prog_8_method_17_code
def yX6_sonComes : MethodName := ⟨RX6, "sonComes", "(III)I"⟩
abbrev cX6_goes : ByteArray := prog_8_method_18_code
def yX6_goes : MethodName := ⟨RX6, "goes", "(I)I"⟩
abbrev cX6_becomesHeir : ByteArray := prog_8_method_19_code
def yX6_becomesHeir : MethodName := ⟨RX6, "becomesHeir", "(I)I"⟩
abbrev cX6_refuse : ByteArray := prog_8_method_20_code
def yX6_refuse : MethodName := ⟨RX6, "refuse", "(I)I"⟩
abbrev cX6_add : ByteArray := prog_8_method_21_code
def yX6_add : MethodName := ⟨RX6, "add", "(IIII)I"⟩
abbrev cX6_reasonAgainstSon : ByteArray := prog_8_method_22_code
def yX6_reasonAgainstSon : MethodName := ⟨RX6, "reasonAgainstSon", "(III)I"⟩
abbrev cX6_cousinChanged : ByteArray := prog_8_method_23_code
def yX6_cousinChanged : MethodName := ⟨RX6, "cousinChanged", "(II)Z"⟩
abbrev cX6_reasonAgainstHeir : ByteArray := prog_8_method_24_code
def yX6_reasonAgainstHeir : MethodName := ⟨RX6, "reasonAgainstHeir", "(I)I"⟩
def RX7 : String := "SonMarks$ShieldSet"
def TX7 : u_T := fun k => match k with
  | _ => ("SonMarks$ShieldSet", "words", "[J", true)
def tyX7 : Nat → FieldType := fun k => match k with
  | _ => .array .long
abbrev wsX70 : List Cond := u_ws RX7 TX7 1
theorem nmX7 : ∀ a, a < 1 → ∀ b, b < 1 → a ≠ b → (TX7 a).2.1 ≠ (TX7 b).2.1 := by decide +kernel
theorem tyX7_ok : ∀ k, k < 1 → parseFieldDescriptor (TX7 k).2.2.1 = some (tyX7 k) := by decide +kernel
abbrev cX7_init : ByteArray := prog_9_method_1_code
def yX7_init : MethodName := ⟨RX7, "<init>", "()V"⟩
abbrev cX7_has : ByteArray := prog_9_method_2_code
def yX7_has : MethodName := ⟨RX7, "has", "(I)Z"⟩
abbrev cX7_add : ByteArray := prog_9_method_3_code
def yX7_add : MethodName := ⟨RX7, "add", "(I)V"⟩
abbrev cX7_empty : ByteArray := prog_9_method_4_code
def yX7_empty : MethodName := ⟨RX7, "empty", "()V"⟩
abbrev cX7_isWordEmpty : ByteArray := prog_9_method_5_code
def yX7_isWordEmpty : MethodName := ⟨RX7, "isWordEmpty", "(I)Z"⟩
def RX8 : String := "SonMarks$Shields"
def TX8 : u_T := fun k => match k with
  | _ => ("", "", "", false)
def tyX8 : Nat → FieldType := fun k => match k with
  | _ => .int
abbrev wsX80 : List Cond := u_ws RX8 TX8 0
theorem nmX8 : ∀ a, a < 0 → ∀ b, b < 0 → a ≠ b → (TX8 a).2.1 ≠ (TX8 b).2.1 := by decide +kernel
theorem tyX8_ok : ∀ k, k < 0 → parseFieldDescriptor (TX8 k).2.2.1 = some (tyX8 k) := by decide +kernel
abbrev cX8_isShield : ByteArray := prog_10_method_2_code
def yX8_isShield : MethodName := ⟨RX8, "isShield", "(I)Z"⟩
abbrev cX8_isPlace : ByteArray := prog_10_method_3_code
def yX8_isPlace : MethodName := ⟨RX8, "isPlace", "(I)Z"⟩
abbrev cX8_isMark : ByteArray := prog_10_method_4_code
def yX8_isMark : MethodName := ⟨RX8, "isMark", "(I)Z"⟩
abbrev cX8_markAt : ByteArray := prog_10_method_5_code
def yX8_markAt : MethodName := ⟨RX8, "markAt", "(II)I"⟩
abbrev cX8_weightOf : ByteArray := prog_10_method_6_code
def yX8_weightOf : MethodName := ⟨RX8, "weightOf", "(I)I"⟩
abbrev cX8_withMark : ByteArray := prog_10_method_7_code
def yX8_withMark : MethodName := ⟨RX8, "withMark", "(III)I"⟩
abbrev cX8_apart : ByteArray := prog_10_method_8_code
def yX8_apart : MethodName := ⟨RX8, "apart", "(II)I"⟩
def RX9 : String := "SonMarks"
def TX9 : u_T := fun k => match k with
  | 0 => ("SonMarks", "roll", "LSonMarks$Roll;", true)
  | 1 => ("SonMarks", "snapshot", "LSonMarks$Roll;", true)
  | 2 => ("SonMarks", "trial", "LSonMarks$Roll;", true)
  | 3 => ("SonMarks", "history", "LSonMarks$History;", true)
  | 4 => ("SonMarks", "pad", "LSonMarks$Pad;", true)
  | 5 => ("SonMarks", "lines", "LSonMarks$LineSearch;", true)
  | 6 => ("SonMarks", "snapshotTaken", "Z", false)
  | 7 => ("SonMarks", "stopAnswer", "I", false)
  | 8 => ("SonMarks", "stopDeed", "I", false)
  | _ => ("SonMarks", "stopPosition", "I", false)
def tyX9 : Nat → FieldType := fun k => match k with
  | 0 => .object "SonMarks$Roll"
  | 1 => .object "SonMarks$Roll"
  | 2 => .object "SonMarks$Roll"
  | 3 => .object "SonMarks$History"
  | 4 => .object "SonMarks$Pad"
  | 5 => .object "SonMarks$LineSearch"
  | 6 => .boolean
  | 7 => .int
  | 8 => .int
  | _ => .int
abbrev wsX90 : List Cond := u_ws RX9 TX9 10
theorem nmX9 : ∀ a, a < 10 → ∀ b, b < 10 → a ≠ b → (TX9 a).2.1 ≠ (TX9 b).2.1 := by decide +kernel
theorem tyX9_ok : ∀ k, k < 10 → parseFieldDescriptor (TX9 k).2.2.1 = some (tyX9 k) := by decide +kernel
abbrev cX9_init : ByteArray := prog_1_method_1_code
def yX9_init : MethodName := ⟨RX9, "<init>", "()V"⟩
abbrev cX9_found : ByteArray := prog_1_method_2_code
def yX9_found : MethodName := ⟨RX9, "found", "(I)I"⟩
abbrev cX9_bear : ByteArray := prog_1_method_3_code
def yX9_bear : MethodName := ⟨RX9, "bear", "(III)I"⟩
abbrev cX9_die : ByteArray := prog_1_method_4_code
def yX9_die : MethodName := ⟨RX9, "die", "(I)I"⟩
abbrev cX9_inherit : ByteArray := prog_1_method_5_code
def yX9_inherit : MethodName := ⟨RX9, "inherit", "(I)I"⟩
abbrev cX9_keepIfChanged : ByteArray := prog_1_method_6_code
def yX9_keepIfChanged : MethodName := ⟨RX9, "keepIfChanged", "(I)I"⟩
abbrev cX9_append : ByteArray := prog_1_method_7_code
def yX9_append : MethodName := ⟨RX9, "append", "(I)I"⟩
abbrev cX9_clear : ByteArray := prog_1_method_8_code
def yX9_clear : MethodName := ⟨RX9, "clear", "()I"⟩
abbrev cX9_fault : ByteArray := prog_1_method_9_code
def yX9_fault : MethodName := ⟨RX9, "fault", "()I"⟩
abbrev cX9_enrol : ByteArray := prog_1_method_10_code
def yX9_enrol : MethodName := ⟨RX9, "enrol", "()I"⟩
abbrev cX9_enrolDeed : ByteArray := prog_1_method_11_code
def yX9_enrolDeed : MethodName := ⟨RX9, "enrolDeed", "(I)I"⟩
abbrev cX9_why : ByteArray := prog_1_method_12_code
def yX9_why : MethodName := ⟨RX9, "why", "(I)I"⟩
abbrev cX9_person : ByteArray := prog_1_method_13_code
def yX9_person : MethodName := ⟨RX9, "person", "(II)I"⟩
abbrev cX9_orNotFound : ByteArray := prog_1_method_14_code
def yX9_orNotFound : MethodName := ⟨RX9, "orNotFound", "(I)I"⟩
abbrev cX9_mark : ByteArray := prog_1_method_15_code
def yX9_mark : MethodName := ⟨RX9, "mark", "(II)I"⟩
abbrev cX9_whyNot : ByteArray := prog_1_method_16_code
def yX9_whyNot : MethodName := ⟨RX9, "whyNot", "(III)I"⟩
abbrev cX9_choices : ByteArray := prog_1_method_17_code
def yX9_choices : MethodName := ⟨RX9, "choices", "(II)I"⟩
abbrev cX9_best : ByteArray := prog_1_method_18_code
def yX9_best : MethodName := ⟨RX9, "best", "(I)I"⟩
abbrev cX9_differs : ByteArray := prog_1_method_19_code
def yX9_differs : MethodName := ⟨RX9, "differs", "(II)I"⟩
abbrev cX9_kin : ByteArray := prog_1_method_20_code
def yX9_kin : MethodName := ⟨RX9, "kin", "(II)I"⟩
abbrev cX9_bearer : ByteArray := prog_1_method_21_code
def yX9_bearer : MethodName := ⟨RX9, "bearer", "(I)I"⟩
abbrev cX9_line : ByteArray := prog_1_method_22_code
def yX9_line : MethodName := ⟨RX9, "line", "(III)I"⟩
abbrev cX9_isWay : ByteArray := prog_1_method_23_code
def yX9_isWay : MethodName := ⟨RX9, "isWay", "(I)Z"⟩
abbrev cX9_count : ByteArray := prog_1_method_24_code
def yX9_count : MethodName := ⟨RX9, "count", "(I)I"⟩
abbrev cX9_borne : ByteArray := prog_1_method_25_code
def yX9_borne : MethodName := ⟨RX9, "borne", "(II)I"⟩
abbrev cX9_unlike : ByteArray := prog_1_method_26_code
def yX9_unlike : MethodName := ⟨RX9, "unlike", "()D"⟩
abbrev cX9_ifDead : ByteArray := prog_1_method_27_code
def yX9_ifDead : MethodName := ⟨RX9, "ifDead", "(II)I"⟩
abbrev cX9_undo : ByteArray := prog_1_method_28_code
def yX9_undo : MethodName := ⟨RX9, "undo", "()I"⟩
abbrev cX9_save : ByteArray := prog_1_method_29_code
def yX9_save : MethodName := ⟨RX9, "save", "()I"⟩
abbrev cX9_restore : ByteArray := prog_1_method_30_code
def yX9_restore : MethodName := ⟨RX9, "restore", "()I"⟩
def RX10 : String := "SonMarksModel"
def TX10 : u_T := fun k => match k with
  | 0 => ("SonMarksModel", "z", "[I", true)
  | 1 => ("SonMarksModel", "past", "[I", true)
  | 2 => ("SonMarksModel", "states", "I", false)
  | 3 => ("SonMarksModel", "kept", "[I", true)
  | 4 => ("SonMarksModel", "isKept", "Z", false)
  | 5 => ("SonMarksModel", "pad", "[I", true)
  | 6 => ("SonMarksModel", "typed", "I", false)
  | 7 => ("SonMarksModel", "stopReason", "I", false)
  | 8 => ("SonMarksModel", "stopNumber", "I", false)
  | 9 => ("SonMarksModel", "stopAt", "I", false)
  | 10 => ("SonMarksModel", "spot", "I", false)
  | 11 => ("SonMarksModel", "told", "[I", true)
  | 12 => ("SonMarksModel", "toldMany", "I", false)
  | 13 => ("SonMarksModel", "sons", "[I", true)
  | _ => ("SonMarksModel", "reached", "[I", true)
def tyX10 : Nat → FieldType := fun k => match k with
  | 0 => .array .int
  | 1 => .array .int
  | 2 => .int
  | 3 => .array .int
  | 4 => .boolean
  | 5 => .array .int
  | 6 => .int
  | 7 => .int
  | 8 => .int
  | 9 => .int
  | 10 => .int
  | 11 => .array .int
  | 12 => .int
  | 13 => .array .int
  | _ => .array .int
abbrev wsX100 : List Cond := u_ws RX10 TX10 15
theorem nmX10 : ∀ a, a < 15 → ∀ b, b < 15 → a ≠ b → (TX10 a).2.1 ≠ (TX10 b).2.1 := by decide +kernel
theorem tyX10_ok : ∀ k, k < 15 → parseFieldDescriptor (TX10 k).2.2.1 = some (tyX10 k) := by decide +kernel
abbrev cX10_init : ByteArray := prog_12_method_1_code
def yX10_init : MethodName := ⟨RX10, "<init>", "()V"⟩
abbrev cX10_in : ByteArray := prog_12_method_2_code
def yX10_in : MethodName := ⟨RX10, "in", "(III)Z"⟩
abbrev cX10_of : ByteArray := prog_12_method_3_code
def yX10_of : MethodName := ⟨RX10, "of", "(II)I"⟩
abbrev cX10_lay : ByteArray := prog_12_method_4_code
def yX10_lay : MethodName := ⟨RX10, "lay", "(III)V"⟩
abbrev cX10_isPerson : ByteArray := prog_12_method_5_code
def yX10_isPerson : MethodName := ⟨RX10, "isPerson", "(I)Z"⟩
abbrev cX10_lives : ByteArray := prog_12_method_6_code
def yX10_lives : MethodName := ⟨RX10, "lives", "(I)Z"⟩
abbrev cX10_isShield : ByteArray := prog_12_method_7_code
def yX10_isShield : MethodName := ⟨RX10, "isShield", "(I)Z"⟩
abbrev cX10_power : ByteArray := prog_12_method_8_code
def yX10_power : MethodName := ⟨RX10, "power", "(I)I"⟩
abbrev cX10_markOf : ByteArray := prog_12_method_9_code
def yX10_markOf : MethodName := ⟨RX10, "markOf", "(II)I"⟩
abbrev cX10_with : ByteArray := prog_12_method_10_code
def yX10_with : MethodName := ⟨RX10, "with", "(III)I"⟩
abbrev cX10_far : ByteArray := prog_12_method_11_code
def yX10_far : MethodName := ⟨RX10, "far", "(II)I"⟩
abbrev cX10_bears : ByteArray := prog_12_method_12_code
def yX10_bears : MethodName := ⟨RX10, "bears", "(I)I"⟩
abbrev cX10_copyState : ByteArray := prog_12_method_13_code
def yX10_copyState : MethodName := ⟨RX10, "copyState", "([II[II)V"⟩
abbrev cX10_record : ByteArray := prog_12_method_14_code
def yX10_record : MethodName := ⟨RX10, "record", "()V"⟩
abbrev cX10_undo : ByteArray := prog_12_method_15_code
def yX10_undo : MethodName := ⟨RX10, "undo", "()I"⟩
abbrev cX10_living : ByteArray := prog_12_method_16_code
def yX10_living : MethodName := ⟨RX10, "living", "()I"⟩
abbrev cX10_save : ByteArray := prog_12_method_17_code
def yX10_save : MethodName := ⟨RX10, "save", "()I"⟩
abbrev cX10_restore : ByteArray := prog_12_method_18_code
def yX10_restore : MethodName := ⟨RX10, "restore", "()I"⟩
abbrev cX10_areBrothers : ByteArray := prog_12_method_19_code
def yX10_areBrothers : MethodName := ⟨RX10, "areBrothers", "(II)Z"⟩
abbrev cX10_areCousins : ByteArray := prog_12_method_20_code
def yX10_areCousins : MethodName := ⟨RX10, "areCousins", "(II)Z"⟩
abbrev cX10_sonsOf : ByteArray := prog_12_method_21_code
def yX10_sonsOf : MethodName := ⟨RX10, "sonsOf", "(IZ)I"⟩
abbrev cX10_depth : ByteArray := prog_12_method_22_code
def yX10_depth : MethodName := ⟨RX10, "depth", "(I)I"⟩
abbrev cX10_eldest : ByteArray := prog_12_method_23_code
def yX10_eldest : MethodName := ⟨RX10, "eldest", "(I)I"⟩
abbrev cX10_refuse : ByteArray := prog_12_method_24_code
def yX10_refuse : MethodName := ⟨RX10, "refuse", "(I)I"⟩
abbrev cX10_come : ByteArray := prog_12_method_25_code
def yX10_come : MethodName := ⟨RX10, "come", "(IIII)I"⟩
abbrev cX10_whyNotFound : ByteArray := prog_12_method_26_code
def yX10_whyNotFound : MethodName := ⟨RX10, "whyNotFound", "(I)I"⟩
abbrev cX10_foundNow : ByteArray := prog_12_method_27_code
def yX10_foundNow : MethodName := ⟨RX10, "foundNow", "(I)I"⟩
abbrev cX10_found : ByteArray := prog_12_method_28_code
def yX10_found : MethodName := ⟨RX10, "found", "(I)I"⟩
abbrev cX10_isChange : ByteArray := prog_12_method_29_code
def yX10_isChange : MethodName := ⟨RX10, "isChange", "(II)Z"⟩
abbrev cX10_isCousins : ByteArray := prog_12_method_30_code
def yX10_isCousins : MethodName := ⟨RX10, "isCousins", "(II)Z"⟩
abbrev cX10_reason : ByteArray := prog_12_method_31_code
def yX10_reason : MethodName := ⟨RX10, "reason", "(III)I"⟩
abbrev cX10_whyNotBear : ByteArray := prog_12_method_32_code
def yX10_whyNotBear : MethodName := ⟨RX10, "whyNotBear", "(III)I"⟩
abbrev cX10_bearNow : ByteArray := prog_12_method_33_code
def yX10_bearNow : MethodName := ⟨RX10, "bearNow", "(III)I"⟩
abbrev cX10_bear : ByteArray := prog_12_method_34_code
def yX10_bear : MethodName := ⟨RX10, "bear", "(III)I"⟩
abbrev cX10_dieNow : ByteArray := prog_12_method_35_code
def yX10_dieNow : MethodName := ⟨RX10, "dieNow", "(I)I"⟩
abbrev cX10_die : ByteArray := prog_12_method_36_code
def yX10_die : MethodName := ⟨RX10, "die", "(I)I"⟩
abbrev cX10_whyNotInherit : ByteArray := prog_12_method_37_code
def yX10_whyNotInherit : MethodName := ⟨RX10, "whyNotInherit", "(I)I"⟩
abbrev cX10_inheritNow : ByteArray := prog_12_method_38_code
def yX10_inheritNow : MethodName := ⟨RX10, "inheritNow", "(I)I"⟩
abbrev cX10_inherit : ByteArray := prog_12_method_39_code
def yX10_inherit : MethodName := ⟨RX10, "inherit", "(I)I"⟩
abbrev cX10_append : ByteArray := prog_12_method_40_code
def yX10_append : MethodName := ⟨RX10, "append", "(I)I"⟩
abbrev cX10_clear : ByteArray := prog_12_method_41_code
def yX10_clear : MethodName := ⟨RX10, "clear", "()I"⟩
abbrev cX10_sees : ByteArray := prog_12_method_42_code
def yX10_sees : MethodName := ⟨RX10, "sees", "(II)Z"⟩
abbrev cX10_takes : ByteArray := prog_12_method_43_code
def yX10_takes : MethodName := ⟨RX10, "takes", "(I)Z"⟩
abbrev cX10_digit : ByteArray := prog_12_method_44_code
def yX10_digit : MethodName := ⟨RX10, "digit", "(I)I"⟩
abbrev cX10_number : ByteArray := prog_12_method_45_code
def yX10_number : MethodName := ⟨RX10, "number", "()I"⟩
abbrev cX10_readShield : ByteArray := prog_12_method_46_code
def yX10_readShield : MethodName := ⟨RX10, "readShield", "()I"⟩
abbrev cX10_readDeed : ByteArray := prog_12_method_47_code
def yX10_readDeed : MethodName := ⟨RX10, "readDeed", "()Z"⟩
abbrev cX10_readPad : ByteArray := prog_12_method_48_code
def yX10_readPad : MethodName := ⟨RX10, "readPad", "()Z"⟩
abbrev cX10_fault : ByteArray := prog_12_method_49_code
def yX10_fault : MethodName := ⟨RX10, "fault", "()I"⟩
abbrev cX10_doDeed : ByteArray := prog_12_method_50_code
def yX10_doDeed : MethodName := ⟨RX10, "doDeed", "(I)I"⟩
abbrev cX10_enrol : ByteArray := prog_12_method_51_code
def yX10_enrol : MethodName := ⟨RX10, "enrol", "()I"⟩
abbrev cX10_why : ByteArray := prog_12_method_52_code
def yX10_why : MethodName := ⟨RX10, "why", "(I)I"⟩
abbrev cX10_livingKin : ByteArray := prog_12_method_53_code
def yX10_livingKin : MethodName := ⟨RX10, "livingKin", "(IZ)I"⟩
abbrev cX10_comesFrom : ByteArray := prog_12_method_54_code
def yX10_comesFrom : MethodName := ⟨RX10, "comesFrom", "(II)Z"⟩
abbrev cX10_allFrom : ByteArray := prog_12_method_55_code
def yX10_allFrom : MethodName := ⟨RX10, "allFrom", "(I)I"⟩
abbrev cX10_farFromFather : ByteArray := prog_12_method_56_code
def yX10_farFromFather : MethodName := ⟨RX10, "farFromFather", "(I)I"⟩
abbrev cX10_person : ByteArray := prog_12_method_57_code
def yX10_person : MethodName := ⟨RX10, "person", "(II)I"⟩
abbrev cX10_mark : ByteArray := prog_12_method_58_code
def yX10_mark : MethodName := ⟨RX10, "mark", "(II)I"⟩
abbrev cX10_whyNot : ByteArray := prog_12_method_59_code
def yX10_whyNot : MethodName := ⟨RX10, "whyNot", "(III)I"⟩
abbrev cX10_choicesOf : ByteArray := prog_12_method_60_code
def yX10_choicesOf : MethodName := ⟨RX10, "choicesOf", "(I)I"⟩
abbrev cX10_choices : ByteArray := prog_12_method_61_code
def yX10_choices : MethodName := ⟨RX10, "choices", "(II)I"⟩
abbrev cX10_leastFar : ByteArray := prog_12_method_62_code
def yX10_leastFar : MethodName := ⟨RX10, "leastFar", "(II)I"⟩
abbrev cX10_best : ByteArray := prog_12_method_63_code
def yX10_best : MethodName := ⟨RX10, "best", "(I)I"⟩
abbrev cX10_differs : ByteArray := prog_12_method_64_code
def yX10_differs : MethodName := ⟨RX10, "differs", "(II)I"⟩
abbrev cX10_kin : ByteArray := prog_12_method_65_code
def yX10_kin : MethodName := ⟨RX10, "kin", "(II)I"⟩
abbrev cX10_bearer : ByteArray := prog_12_method_66_code
def yX10_bearer : MethodName := ⟨RX10, "bearer", "(I)I"⟩
abbrev cX10_fewest : ByteArray := prog_12_method_67_code
def yX10_fewest : MethodName := ⟨RX10, "fewest", "(II)I"⟩
abbrev cX10_line : ByteArray := prog_12_method_68_code
def yX10_line : MethodName := ⟨RX10, "line", "(III)I"⟩
abbrev cX10_isConfused : ByteArray := prog_12_method_69_code
def yX10_isConfused : MethodName := ⟨RX10, "isConfused", "(II)Z"⟩
abbrev cX10_confused : ByteArray := prog_12_method_70_code
def yX10_confused : MethodName := ⟨RX10, "confused", "()I"⟩
abbrev cX10_founders : ByteArray := prog_12_method_71_code
def yX10_founders : MethodName := ⟨RX10, "founders", "()I"⟩
abbrev cX10_deepest : ByteArray := prog_12_method_72_code
def yX10_deepest : MethodName := ⟨RX10, "deepest", "()I"⟩
abbrev cX10_differentShields : ByteArray := prog_12_method_73_code
def yX10_differentShields : MethodName := ⟨RX10, "differentShields", "()I"⟩
abbrev cX10_livingBy : ByteArray := prog_12_method_74_code
def yX10_livingBy : MethodName := ⟨RX10, "livingBy", "(I)I"⟩
abbrev cX10_count : ByteArray := prog_12_method_75_code
def yX10_count : MethodName := ⟨RX10, "count", "(I)I"⟩
abbrev cX10_borne : ByteArray := prog_12_method_76_code
def yX10_borne : MethodName := ⟨RX10, "borne", "(II)I"⟩
abbrev cX10_unlike : ByteArray := prog_12_method_77_code
def yX10_unlike : MethodName := ⟨RX10, "unlike", "()D"⟩
abbrev cX10_allChoices : ByteArray := prog_12_method_78_code
def yX10_allChoices : MethodName := ⟨RX10, "allChoices", "()I"⟩
abbrev cX10_ifDead : ByteArray := prog_12_method_79_code
def yX10_ifDead : MethodName := ⟨RX10, "ifDead", "(II)I"⟩
def RL : String := "SonMarksLaw"
abbrev cL_law : ByteArray := code
def yL_law : MethodName := ⟨RL, "law", "([I)Z"⟩
abbrev vwCl : List vw_C := [(RX2, TX2, 2), (RX4, TX4, 3), (RX5, TX5, 2), (RX6, TX6, 8), (RX7, TX7, 1), (RX9, TX9, 10), (RX10, TX10, 15)]
end
section
theorem dX0_founders_0 : decode cX0_founders 0 = .ok (.iconst 0, 1) := by decide +kernel
theorem dX0_founders_1 : decode cX0_founders 1 = .ok (.istore_n 1, 1) := by decide +kernel
theorem dX0_founders_2 : decode cX0_founders 2 = .ok (.iconst 0, 1) := by decide +kernel
theorem dX0_founders_3 : decode cX0_founders 3 = .ok (.istore_n 2, 1) := by decide +kernel
theorem dX0_founders_4 : decode cX0_founders 4 = .ok (.iload_n 2, 1) := by decide +kernel
theorem dX0_founders_5 : decode cX0_founders 5 = .ok (.aload_n 0, 1) := by decide +kernel
theorem dX0_founders_6 : decode cX0_founders 6 = .ok (.invokevirtual 9, 3) := by decide +kernel
theorem dX0_founders_9 : decode cX0_founders 9 = .ok (.if_icmp .ge 21, 3) := by decide +kernel
theorem dX0_founders_12 : decode cX0_founders 12 = .ok (.aload_n 0, 1) := by decide +kernel
theorem dX0_founders_13 : decode cX0_founders 13 = .ok (.iload_n 2, 1) := by decide +kernel
theorem dX0_founders_14 : decode cX0_founders 14 = .ok (.invokevirtual 15, 3) := by decide +kernel
theorem dX0_founders_17 : decode cX0_founders 17 = .ok (.iconst (-1), 1) := by decide +kernel
theorem dX0_founders_18 : decode cX0_founders 18 = .ok (.if_icmp .ne 6, 3) := by decide +kernel
theorem dX0_founders_21 : decode cX0_founders 21 = .ok (.iinc 1 1, 3) := by decide +kernel
theorem dX0_founders_24 : decode cX0_founders 24 = .ok (.iinc 2 1, 3) := by decide +kernel
theorem dX0_founders_27 : decode cX0_founders 27 = .ok (.goto (-23), 3) := by decide +kernel
theorem dX0_founders_30 : decode cX0_founders 30 = .ok (.iload_n 1, 1) := by decide +kernel
theorem dX0_founders_31 : decode cX0_founders 31 = .ok (.ireturn, 1) := by decide +kernel
theorem dX0_confusedPairs_0 : decode cX0_confusedPairs 0 = .ok (.iconst 0, 1) := by decide +kernel
theorem dX0_confusedPairs_1 : decode cX0_confusedPairs 1 = .ok (.istore_n 1, 1) := by decide +kernel
theorem dX0_confusedPairs_2 : decode cX0_confusedPairs 2 = .ok (.iconst 0, 1) := by decide +kernel
theorem dX0_confusedPairs_3 : decode cX0_confusedPairs 3 = .ok (.istore_n 2, 1) := by decide +kernel
theorem dX0_confusedPairs_4 : decode cX0_confusedPairs 4 = .ok (.iload_n 2, 1) := by decide +kernel
theorem dX0_confusedPairs_5 : decode cX0_confusedPairs 5 = .ok (.aload_n 0, 1) := by decide +kernel
theorem dX0_confusedPairs_6 : decode cX0_confusedPairs 6 = .ok (.invokevirtual 9, 3) := by decide +kernel
theorem dX0_confusedPairs_9 : decode cX0_confusedPairs 9 = .ok (.if_icmp .ge 39, 3) := by decide +kernel
theorem dX0_confusedPairs_12 : decode cX0_confusedPairs 12 = .ok (.iload_n 2, 1) := by decide +kernel
theorem dX0_confusedPairs_13 : decode cX0_confusedPairs 13 = .ok (.iconst 1, 1) := by decide +kernel
theorem dX0_confusedPairs_14 : decode cX0_confusedPairs 14 = .ok (.iadd, 1) := by decide +kernel
theorem dX0_confusedPairs_15 : decode cX0_confusedPairs 15 = .ok (.istore_n 3, 1) := by decide +kernel
theorem dX0_confusedPairs_16 : decode cX0_confusedPairs 16 = .ok (.iload_n 3, 1) := by decide +kernel
theorem dX0_confusedPairs_17 : decode cX0_confusedPairs 17 = .ok (.aload_n 0, 1) := by decide +kernel
theorem dX0_confusedPairs_18 : decode cX0_confusedPairs 18 = .ok (.invokevirtual 9, 3) := by decide +kernel
theorem dX0_confusedPairs_21 : decode cX0_confusedPairs 21 = .ok (.if_icmp .ge 21, 3) := by decide +kernel
theorem dX0_confusedPairs_24 : decode cX0_confusedPairs 24 = .ok (.aload_n 0, 1) := by decide +kernel
theorem dX0_confusedPairs_25 : decode cX0_confusedPairs 25 = .ok (.iload_n 2, 1) := by decide +kernel
theorem dX0_confusedPairs_26 : decode cX0_confusedPairs 26 = .ok (.iload_n 3, 1) := by decide +kernel
theorem dX0_confusedPairs_27 : decode cX0_confusedPairs 27 = .ok (.invokestatic 19, 3) := by decide +kernel
theorem dX0_confusedPairs_30 : decode cX0_confusedPairs 30 = .ok (.ifCond .eq 6, 3) := by decide +kernel
theorem dX0_confusedPairs_33 : decode cX0_confusedPairs 33 = .ok (.iinc 1 1, 3) := by decide +kernel
theorem dX0_confusedPairs_36 : decode cX0_confusedPairs 36 = .ok (.iinc 3 1, 3) := by decide +kernel
theorem dX0_confusedPairs_39 : decode cX0_confusedPairs 39 = .ok (.goto (-23), 3) := by decide +kernel
theorem dX0_confusedPairs_42 : decode cX0_confusedPairs 42 = .ok (.iinc 2 1, 3) := by decide +kernel
theorem dX0_confusedPairs_45 : decode cX0_confusedPairs 45 = .ok (.goto (-41), 3) := by decide +kernel
theorem dX0_confusedPairs_48 : decode cX0_confusedPairs 48 = .ok (.iload_n 1, 1) := by decide +kernel
theorem dX0_confusedPairs_49 : decode cX0_confusedPairs 49 = .ok (.ireturn, 1) := by decide +kernel
theorem dX0_areConfused_0 : decode cX0_areConfused 0 = .ok (.aload_n 0, 1) := by decide +kernel
theorem dX0_areConfused_1 : decode cX0_areConfused 1 = .ok (.iload_n 1, 1) := by decide +kernel
theorem dX0_areConfused_2 : decode cX0_areConfused 2 = .ok (.invokevirtual 25, 3) := by decide +kernel
theorem dX0_areConfused_5 : decode cX0_areConfused 5 = .ok (.ifCond .eq 50, 3) := by decide +kernel
theorem dX0_areConfused_8 : decode cX0_areConfused 8 = .ok (.aload_n 0, 1) := by decide +kernel
theorem dX0_areConfused_9 : decode cX0_areConfused 9 = .ok (.iload_n 2, 1) := by decide +kernel
theorem dX0_areConfused_10 : decode cX0_areConfused 10 = .ok (.invokevirtual 25, 3) := by decide +kernel
theorem dX0_areConfused_13 : decode cX0_areConfused 13 = .ok (.ifCond .eq 42, 3) := by decide +kernel
theorem dX0_areConfused_16 : decode cX0_areConfused 16 = .ok (.aload_n 0, 1) := by decide +kernel
theorem dX0_areConfused_17 : decode cX0_areConfused 17 = .ok (.iload_n 1, 1) := by decide +kernel
theorem dX0_areConfused_18 : decode cX0_areConfused 18 = .ok (.invokevirtual 15, 3) := by decide +kernel
theorem dX0_areConfused_21 : decode cX0_areConfused 21 = .ok (.iload_n 2, 1) := by decide +kernel
theorem dX0_areConfused_22 : decode cX0_areConfused 22 = .ok (.if_icmp .eq 33, 3) := by decide +kernel
theorem dX0_areConfused_25 : decode cX0_areConfused 25 = .ok (.aload_n 0, 1) := by decide +kernel
theorem dX0_areConfused_26 : decode cX0_areConfused 26 = .ok (.iload_n 2, 1) := by decide +kernel
theorem dX0_areConfused_27 : decode cX0_areConfused 27 = .ok (.invokevirtual 15, 3) := by decide +kernel
theorem dX0_areConfused_30 : decode cX0_areConfused 30 = .ok (.iload_n 1, 1) := by decide +kernel
theorem dX0_areConfused_31 : decode cX0_areConfused 31 = .ok (.if_icmp .eq 24, 3) := by decide +kernel
theorem dX0_areConfused_34 : decode cX0_areConfused 34 = .ok (.aload_n 0, 1) := by decide +kernel
theorem dX0_areConfused_35 : decode cX0_areConfused 35 = .ok (.iload_n 1, 1) := by decide +kernel
theorem dX0_areConfused_36 : decode cX0_areConfused 36 = .ok (.invokevirtual 29, 3) := by decide +kernel
theorem dX0_areConfused_39 : decode cX0_areConfused 39 = .ok (.aload_n 0, 1) := by decide +kernel
theorem dX0_areConfused_40 : decode cX0_areConfused 40 = .ok (.iload_n 2, 1) := by decide +kernel
theorem dX0_areConfused_41 : decode cX0_areConfused 41 = .ok (.invokevirtual 29, 3) := by decide +kernel
theorem dX0_areConfused_44 : decode cX0_areConfused 44 = .ok (.invokestatic 32, 3) := by decide +kernel
theorem dX0_areConfused_47 : decode cX0_areConfused 47 = .ok (.iconst 1, 1) := by decide +kernel
theorem dX0_areConfused_48 : decode cX0_areConfused 48 = .ok (.if_icmp .ne 7, 3) := by decide +kernel
theorem dX0_areConfused_51 : decode cX0_areConfused 51 = .ok (.iconst 1, 1) := by decide +kernel
theorem dX0_areConfused_52 : decode cX0_areConfused 52 = .ok (.goto 4, 3) := by decide +kernel
theorem dX0_areConfused_55 : decode cX0_areConfused 55 = .ok (.iconst 0, 1) := by decide +kernel
theorem dX0_areConfused_56 : decode cX0_areConfused 56 = .ok (.ireturn, 1) := by decide +kernel
theorem dX0_mostStepsFromFounder_0 : decode cX0_mostStepsFromFounder 0 = .ok (.iconst 0, 1) := by decide +kernel
theorem dX0_mostStepsFromFounder_1 : decode cX0_mostStepsFromFounder 1 = .ok (.istore_n 1, 1) := by decide +kernel
theorem dX0_mostStepsFromFounder_2 : decode cX0_mostStepsFromFounder 2 = .ok (.iconst 0, 1) := by decide +kernel
theorem dX0_mostStepsFromFounder_3 : decode cX0_mostStepsFromFounder 3 = .ok (.istore_n 2, 1) := by decide +kernel
theorem dX0_mostStepsFromFounder_4 : decode cX0_mostStepsFromFounder 4 = .ok (.iload_n 2, 1) := by decide +kernel
theorem dX0_mostStepsFromFounder_5 : decode cX0_mostStepsFromFounder 5 = .ok (.aload_n 0, 1) := by decide +kernel
theorem dX0_mostStepsFromFounder_6 : decode cX0_mostStepsFromFounder 6 = .ok (.invokevirtual 9, 3) := by decide +kernel
theorem dX0_mostStepsFromFounder_9 : decode cX0_mostStepsFromFounder 9 = .ok (.if_icmp .ge 19, 3) := by decide +kernel
theorem dX0_mostStepsFromFounder_12 : decode cX0_mostStepsFromFounder 12 = .ok (.iload_n 1, 1) := by decide +kernel
theorem dX0_mostStepsFromFounder_13 : decode cX0_mostStepsFromFounder 13 = .ok (.aload_n 0, 1) := by decide +kernel
theorem dX0_mostStepsFromFounder_14 : decode cX0_mostStepsFromFounder 14 = .ok (.iload_n 2, 1) := by decide +kernel
theorem dX0_mostStepsFromFounder_15 : decode cX0_mostStepsFromFounder 15 = .ok (.invokestatic 38, 3) := by decide +kernel
theorem dX0_mostStepsFromFounder_18 : decode cX0_mostStepsFromFounder 18 = .ok (.invokestatic 44, 3) := by decide +kernel
theorem dX0_mostStepsFromFounder_21 : decode cX0_mostStepsFromFounder 21 = .ok (.istore_n 1, 1) := by decide +kernel
theorem dX0_mostStepsFromFounder_22 : decode cX0_mostStepsFromFounder 22 = .ok (.iinc 2 1, 3) := by decide +kernel
theorem dX0_mostStepsFromFounder_25 : decode cX0_mostStepsFromFounder 25 = .ok (.goto (-21), 3) := by decide +kernel
theorem dX0_mostStepsFromFounder_28 : decode cX0_mostStepsFromFounder 28 = .ok (.iload_n 1, 1) := by decide +kernel
theorem dX0_mostStepsFromFounder_29 : decode cX0_mostStepsFromFounder 29 = .ok (.ireturn, 1) := by decide +kernel
theorem dX0_differentShields_0 : decode cX0_differentShields 0 = .ok (.iconst 0, 1) := by decide +kernel
theorem dX0_differentShields_1 : decode cX0_differentShields 1 = .ok (.istore_n 1, 1) := by decide +kernel
theorem dX0_differentShields_2 : decode cX0_differentShields 2 = .ok (.iconst 0, 1) := by decide +kernel
theorem dX0_differentShields_3 : decode cX0_differentShields 3 = .ok (.istore_n 2, 1) := by decide +kernel
theorem dX0_differentShields_4 : decode cX0_differentShields 4 = .ok (.iload_n 2, 1) := by decide +kernel
theorem dX0_differentShields_5 : decode cX0_differentShields 5 = .ok (.aload_n 0, 1) := by decide +kernel
theorem dX0_differentShields_6 : decode cX0_differentShields 6 = .ok (.invokevirtual 9, 3) := by decide +kernel
theorem dX0_differentShields_9 : decode cX0_differentShields 9 = .ok (.if_icmp .ge 20, 3) := by decide +kernel
theorem dX0_differentShields_12 : decode cX0_differentShields 12 = .ok (.aload_n 0, 1) := by decide +kernel
theorem dX0_differentShields_13 : decode cX0_differentShields 13 = .ok (.iload_n 2, 1) := by decide +kernel
theorem dX0_differentShields_14 : decode cX0_differentShields 14 = .ok (.invokestatic 49, 3) := by decide +kernel
theorem dX0_differentShields_17 : decode cX0_differentShields 17 = .ok (.ifCond .eq 6, 3) := by decide +kernel
theorem dX0_differentShields_20 : decode cX0_differentShields 20 = .ok (.iinc 1 1, 3) := by decide +kernel
theorem dX0_differentShields_23 : decode cX0_differentShields 23 = .ok (.iinc 2 1, 3) := by decide +kernel
theorem dX0_differentShields_26 : decode cX0_differentShields 26 = .ok (.goto (-22), 3) := by decide +kernel
theorem dX0_differentShields_29 : decode cX0_differentShields 29 = .ok (.iload_n 1, 1) := by decide +kernel
theorem dX0_differentShields_30 : decode cX0_differentShields 30 = .ok (.ireturn, 1) := by decide +kernel
theorem dX0_isFirstWithItsShield_0 : decode cX0_isFirstWithItsShield 0 = .ok (.iconst 0, 1) := by decide +kernel
theorem dX0_isFirstWithItsShield_1 : decode cX0_isFirstWithItsShield 1 = .ok (.istore_n 2, 1) := by decide +kernel
theorem dX0_isFirstWithItsShield_2 : decode cX0_isFirstWithItsShield 2 = .ok (.iload_n 2, 1) := by decide +kernel
theorem dX0_isFirstWithItsShield_3 : decode cX0_isFirstWithItsShield 3 = .ok (.iload_n 1, 1) := by decide +kernel
theorem dX0_isFirstWithItsShield_4 : decode cX0_isFirstWithItsShield 4 = .ok (.if_icmp .ge 24, 3) := by decide +kernel
theorem dX0_isFirstWithItsShield_7 : decode cX0_isFirstWithItsShield 7 = .ok (.aload_n 0, 1) := by decide +kernel
theorem dX0_isFirstWithItsShield_8 : decode cX0_isFirstWithItsShield 8 = .ok (.iload_n 2, 1) := by decide +kernel
theorem dX0_isFirstWithItsShield_9 : decode cX0_isFirstWithItsShield 9 = .ok (.invokevirtual 29, 3) := by decide +kernel
theorem dX0_isFirstWithItsShield_12 : decode cX0_isFirstWithItsShield 12 = .ok (.aload_n 0, 1) := by decide +kernel
theorem dX0_isFirstWithItsShield_13 : decode cX0_isFirstWithItsShield 13 = .ok (.iload_n 1, 1) := by decide +kernel
theorem dX0_isFirstWithItsShield_14 : decode cX0_isFirstWithItsShield 14 = .ok (.invokevirtual 29, 3) := by decide +kernel
theorem dX0_isFirstWithItsShield_17 : decode cX0_isFirstWithItsShield 17 = .ok (.if_icmp .ne 5, 3) := by decide +kernel
theorem dX0_isFirstWithItsShield_20 : decode cX0_isFirstWithItsShield 20 = .ok (.iconst 0, 1) := by decide +kernel
theorem dX0_isFirstWithItsShield_21 : decode cX0_isFirstWithItsShield 21 = .ok (.ireturn, 1) := by decide +kernel
theorem dX0_isFirstWithItsShield_22 : decode cX0_isFirstWithItsShield 22 = .ok (.iinc 2 1, 3) := by decide +kernel
theorem dX0_isFirstWithItsShield_25 : decode cX0_isFirstWithItsShield 25 = .ok (.goto (-23), 3) := by decide +kernel
theorem dX0_isFirstWithItsShield_28 : decode cX0_isFirstWithItsShield 28 = .ok (.iconst 1, 1) := by decide +kernel
theorem dX0_isFirstWithItsShield_29 : decode cX0_isFirstWithItsShield 29 = .ok (.ireturn, 1) := by decide +kernel
theorem dX0_farFromFather_0 : decode cX0_farFromFather 0 = .ok (.iconst 0, 1) := by decide +kernel
theorem dX0_farFromFather_1 : decode cX0_farFromFather 1 = .ok (.istore_n 1, 1) := by decide +kernel
theorem dX0_farFromFather_2 : decode cX0_farFromFather 2 = .ok (.iconst 0, 1) := by decide +kernel
theorem dX0_farFromFather_3 : decode cX0_farFromFather 3 = .ok (.istore_n 2, 1) := by decide +kernel
theorem dX0_farFromFather_4 : decode cX0_farFromFather 4 = .ok (.iload_n 2, 1) := by decide +kernel
theorem dX0_farFromFather_5 : decode cX0_farFromFather 5 = .ok (.aload_n 0, 1) := by decide +kernel
theorem dX0_farFromFather_6 : decode cX0_farFromFather 6 = .ok (.invokevirtual 9, 3) := by decide +kernel
theorem dX0_farFromFather_9 : decode cX0_farFromFather 9 = .ok (.if_icmp .ge 29, 3) := by decide +kernel
theorem dX0_farFromFather_12 : decode cX0_farFromFather 12 = .ok (.aload_n 0, 1) := by decide +kernel
theorem dX0_farFromFather_13 : decode cX0_farFromFather 13 = .ok (.iload_n 2, 1) := by decide +kernel
theorem dX0_farFromFather_14 : decode cX0_farFromFather 14 = .ok (.invokevirtual 25, 3) := by decide +kernel
theorem dX0_farFromFather_17 : decode cX0_farFromFather 17 = .ok (.ifCond .eq 15, 3) := by decide +kernel
theorem dX0_farFromFather_20 : decode cX0_farFromFather 20 = .ok (.aload_n 0, 1) := by decide +kernel
theorem dX0_farFromFather_21 : decode cX0_farFromFather 21 = .ok (.iload_n 2, 1) := by decide +kernel
theorem dX0_farFromFather_22 : decode cX0_farFromFather 22 = .ok (.invokestatic 53, 3) := by decide +kernel
theorem dX0_farFromFather_25 : decode cX0_farFromFather 25 = .ok (.iconst 1, 1) := by decide +kernel
theorem dX0_farFromFather_26 : decode cX0_farFromFather 26 = .ok (.if_icmp .le 6, 3) := by decide +kernel
theorem dX0_farFromFather_29 : decode cX0_farFromFather 29 = .ok (.iinc 1 1, 3) := by decide +kernel
theorem dX0_farFromFather_32 : decode cX0_farFromFather 32 = .ok (.iinc 2 1, 3) := by decide +kernel
theorem dX0_farFromFather_35 : decode cX0_farFromFather 35 = .ok (.goto (-31), 3) := by decide +kernel
theorem dX0_farFromFather_38 : decode cX0_farFromFather 38 = .ok (.iload_n 1, 1) := by decide +kernel
theorem dX0_farFromFather_39 : decode cX0_farFromFather 39 = .ok (.ireturn, 1) := by decide +kernel
theorem dX0_livingSonless_0 : decode cX0_livingSonless 0 = .ok (.iconst 0, 1) := by decide +kernel
theorem dX0_livingSonless_1 : decode cX0_livingSonless 1 = .ok (.istore_n 1, 1) := by decide +kernel
theorem dX0_livingSonless_2 : decode cX0_livingSonless 2 = .ok (.iconst 0, 1) := by decide +kernel
theorem dX0_livingSonless_3 : decode cX0_livingSonless 3 = .ok (.istore_n 2, 1) := by decide +kernel
theorem dX0_livingSonless_4 : decode cX0_livingSonless 4 = .ok (.iload_n 2, 1) := by decide +kernel
theorem dX0_livingSonless_5 : decode cX0_livingSonless 5 = .ok (.aload_n 0, 1) := by decide +kernel
theorem dX0_livingSonless_6 : decode cX0_livingSonless 6 = .ok (.invokevirtual 9, 3) := by decide +kernel
theorem dX0_livingSonless_9 : decode cX0_livingSonless 9 = .ok (.if_icmp .ge 28, 3) := by decide +kernel
theorem dX0_livingSonless_12 : decode cX0_livingSonless 12 = .ok (.aload_n 0, 1) := by decide +kernel
theorem dX0_livingSonless_13 : decode cX0_livingSonless 13 = .ok (.iload_n 2, 1) := by decide +kernel
theorem dX0_livingSonless_14 : decode cX0_livingSonless 14 = .ok (.invokevirtual 25, 3) := by decide +kernel
theorem dX0_livingSonless_17 : decode cX0_livingSonless 17 = .ok (.ifCond .eq 14, 3) := by decide +kernel
theorem dX0_livingSonless_20 : decode cX0_livingSonless 20 = .ok (.aload_n 0, 1) := by decide +kernel
theorem dX0_livingSonless_21 : decode cX0_livingSonless 21 = .ok (.iload_n 2, 1) := by decide +kernel
theorem dX0_livingSonless_22 : decode cX0_livingSonless 22 = .ok (.invokevirtual 56, 3) := by decide +kernel
theorem dX0_livingSonless_25 : decode cX0_livingSonless 25 = .ok (.ifCond .ne 6, 3) := by decide +kernel
theorem dX0_livingSonless_28 : decode cX0_livingSonless 28 = .ok (.iinc 1 1, 3) := by decide +kernel
theorem dX0_livingSonless_31 : decode cX0_livingSonless 31 = .ok (.iinc 2 1, 3) := by decide +kernel
theorem dX0_livingSonless_34 : decode cX0_livingSonless 34 = .ok (.goto (-30), 3) := by decide +kernel
theorem dX0_livingSonless_37 : decode cX0_livingSonless 37 = .ok (.iload_n 1, 1) := by decide +kernel
theorem dX0_livingSonless_38 : decode cX0_livingSonless 38 = .ok (.ireturn, 1) := by decide +kernel
theorem dX0_livingWithMark_0 : decode cX0_livingWithMark 0 = .ok (.iconst 0, 1) := by decide +kernel
theorem dX0_livingWithMark_1 : decode cX0_livingWithMark 1 = .ok (.istore_n 3, 1) := by decide +kernel
theorem dX0_livingWithMark_2 : decode cX0_livingWithMark 2 = .ok (.iconst 0, 1) := by decide +kernel
theorem dX0_livingWithMark_3 : decode cX0_livingWithMark 3 = .ok (.istore 4, 2) := by decide +kernel
theorem dX0_livingWithMark_5 : decode cX0_livingWithMark 5 = .ok (.iload 4, 2) := by decide +kernel
theorem dX0_livingWithMark_7 : decode cX0_livingWithMark 7 = .ok (.aload_n 0, 1) := by decide +kernel
theorem dX0_livingWithMark_8 : decode cX0_livingWithMark 8 = .ok (.invokevirtual 9, 3) := by decide +kernel
theorem dX0_livingWithMark_11 : decode cX0_livingWithMark 11 = .ok (.if_icmp .ge 35, 3) := by decide +kernel
theorem dX0_livingWithMark_14 : decode cX0_livingWithMark 14 = .ok (.aload_n 0, 1) := by decide +kernel
theorem dX0_livingWithMark_15 : decode cX0_livingWithMark 15 = .ok (.iload 4, 2) := by decide +kernel
theorem dX0_livingWithMark_17 : decode cX0_livingWithMark 17 = .ok (.invokevirtual 25, 3) := by decide +kernel
theorem dX0_livingWithMark_20 : decode cX0_livingWithMark 20 = .ok (.ifCond .eq 20, 3) := by decide +kernel
theorem dX0_livingWithMark_23 : decode cX0_livingWithMark 23 = .ok (.aload_n 0, 1) := by decide +kernel
theorem dX0_livingWithMark_24 : decode cX0_livingWithMark 24 = .ok (.iload 4, 2) := by decide +kernel
theorem dX0_livingWithMark_26 : decode cX0_livingWithMark 26 = .ok (.invokevirtual 29, 3) := by decide +kernel
theorem dX0_livingWithMark_29 : decode cX0_livingWithMark 29 = .ok (.iload_n 1, 1) := by decide +kernel
theorem dX0_livingWithMark_30 : decode cX0_livingWithMark 30 = .ok (.invokestatic 59, 3) := by decide +kernel
theorem dX0_livingWithMark_33 : decode cX0_livingWithMark 33 = .ok (.iload_n 2, 1) := by decide +kernel
theorem dX0_livingWithMark_34 : decode cX0_livingWithMark 34 = .ok (.if_icmp .ne 6, 3) := by decide +kernel
theorem dX0_livingWithMark_37 : decode cX0_livingWithMark 37 = .ok (.iinc 3 1, 3) := by decide +kernel
theorem dX0_livingWithMark_40 : decode cX0_livingWithMark 40 = .ok (.iinc 4 1, 3) := by decide +kernel
theorem dX0_livingWithMark_43 : decode cX0_livingWithMark 43 = .ok (.goto (-38), 3) := by decide +kernel
theorem dX0_livingWithMark_46 : decode cX0_livingWithMark 46 = .ok (.iload_n 3, 1) := by decide +kernel
theorem dX0_livingWithMark_47 : decode cX0_livingWithMark 47 = .ok (.ireturn, 1) := by decide +kernel
theorem dX0_meanApart_0 : decode cX0_meanApart 0 = .ok (.iconst 0, 1) := by decide +kernel
theorem dX0_meanApart_1 : decode cX0_meanApart 1 = .ok (.istore_n 1, 1) := by decide +kernel
theorem dX0_meanApart_2 : decode cX0_meanApart 2 = .ok (.iconst 0, 1) := by decide +kernel
theorem dX0_meanApart_3 : decode cX0_meanApart 3 = .ok (.istore_n 2, 1) := by decide +kernel
theorem dX0_meanApart_4 : decode cX0_meanApart 4 = .ok (.iconst 0, 1) := by decide +kernel
theorem dX0_meanApart_5 : decode cX0_meanApart 5 = .ok (.istore_n 3, 1) := by decide +kernel
theorem dX0_meanApart_6 : decode cX0_meanApart 6 = .ok (.iload_n 3, 1) := by decide +kernel
theorem dX0_meanApart_7 : decode cX0_meanApart 7 = .ok (.aload_n 0, 1) := by decide +kernel
theorem dX0_meanApart_8 : decode cX0_meanApart 8 = .ok (.invokevirtual 9, 3) := by decide +kernel
theorem dX0_meanApart_11 : decode cX0_meanApart 11 = .ok (.if_icmp .ge 66, 3) := by decide +kernel
theorem dX0_meanApart_14 : decode cX0_meanApart 14 = .ok (.iload_n 3, 1) := by decide +kernel
theorem dX0_meanApart_15 : decode cX0_meanApart 15 = .ok (.iconst 1, 1) := by decide +kernel
theorem dX0_meanApart_16 : decode cX0_meanApart 16 = .ok (.iadd, 1) := by decide +kernel
theorem dX0_meanApart_17 : decode cX0_meanApart 17 = .ok (.istore 4, 2) := by decide +kernel
theorem dX0_meanApart_19 : decode cX0_meanApart 19 = .ok (.iload 4, 2) := by decide +kernel
theorem dX0_meanApart_21 : decode cX0_meanApart 21 = .ok (.aload_n 0, 1) := by decide +kernel
theorem dX0_meanApart_22 : decode cX0_meanApart 22 = .ok (.invokevirtual 9, 3) := by decide +kernel
theorem dX0_meanApart_25 : decode cX0_meanApart 25 = .ok (.if_icmp .ge 46, 3) := by decide +kernel
theorem dX0_meanApart_28 : decode cX0_meanApart 28 = .ok (.aload_n 0, 1) := by decide +kernel
theorem dX0_meanApart_29 : decode cX0_meanApart 29 = .ok (.iload_n 3, 1) := by decide +kernel
theorem dX0_meanApart_30 : decode cX0_meanApart 30 = .ok (.invokevirtual 25, 3) := by decide +kernel
theorem dX0_meanApart_33 : decode cX0_meanApart 33 = .ok (.ifCond .eq 32, 3) := by decide +kernel
theorem dX0_meanApart_36 : decode cX0_meanApart 36 = .ok (.aload_n 0, 1) := by decide +kernel
theorem dX0_meanApart_37 : decode cX0_meanApart 37 = .ok (.iload 4, 2) := by decide +kernel
theorem dX0_meanApart_39 : decode cX0_meanApart 39 = .ok (.invokevirtual 25, 3) := by decide +kernel
theorem dX0_meanApart_42 : decode cX0_meanApart 42 = .ok (.ifCond .eq 23, 3) := by decide +kernel
theorem dX0_meanApart_45 : decode cX0_meanApart 45 = .ok (.iload_n 1, 1) := by decide +kernel
theorem dX0_meanApart_46 : decode cX0_meanApart 46 = .ok (.aload_n 0, 1) := by decide +kernel
theorem dX0_meanApart_47 : decode cX0_meanApart 47 = .ok (.iload_n 3, 1) := by decide +kernel
theorem dX0_meanApart_48 : decode cX0_meanApart 48 = .ok (.invokevirtual 29, 3) := by decide +kernel
theorem dX0_meanApart_51 : decode cX0_meanApart 51 = .ok (.aload_n 0, 1) := by decide +kernel
theorem dX0_meanApart_52 : decode cX0_meanApart 52 = .ok (.iload 4, 2) := by decide +kernel
theorem dX0_meanApart_54 : decode cX0_meanApart 54 = .ok (.invokevirtual 29, 3) := by decide +kernel
theorem dX0_meanApart_57 : decode cX0_meanApart 57 = .ok (.invokestatic 32, 3) := by decide +kernel
theorem dX0_meanApart_60 : decode cX0_meanApart 60 = .ok (.iadd, 1) := by decide +kernel
theorem dX0_meanApart_61 : decode cX0_meanApart 61 = .ok (.istore_n 1, 1) := by decide +kernel
theorem dX0_meanApart_62 : decode cX0_meanApart 62 = .ok (.iinc 2 1, 3) := by decide +kernel
theorem dX0_meanApart_65 : decode cX0_meanApart 65 = .ok (.iinc 4 1, 3) := by decide +kernel
theorem dX0_meanApart_68 : decode cX0_meanApart 68 = .ok (.goto (-49), 3) := by decide +kernel
theorem dX0_meanApart_71 : decode cX0_meanApart 71 = .ok (.iinc 3 1, 3) := by decide +kernel
theorem dX0_meanApart_74 : decode cX0_meanApart 74 = .ok (.goto (-68), 3) := by decide +kernel
theorem dX0_meanApart_77 : decode cX0_meanApart 77 = .ok (.iload_n 2, 1) := by decide +kernel
theorem dX0_meanApart_78 : decode cX0_meanApart 78 = .ok (.ifCond .ne 7, 3) := by decide +kernel
theorem dX0_meanApart_81 : decode cX0_meanApart 81 = .ok (.dconst 0, 1) := by decide +kernel
theorem dX0_meanApart_82 : decode cX0_meanApart 82 = .ok (.goto 8, 3) := by decide +kernel
theorem dX0_meanApart_85 : decode cX0_meanApart 85 = .ok (.iload_n 1, 1) := by decide +kernel
theorem dX0_meanApart_86 : decode cX0_meanApart 86 = .ok (.i2d, 1) := by decide +kernel
theorem dX0_meanApart_87 : decode cX0_meanApart 87 = .ok (.iload_n 2, 1) := by decide +kernel
theorem dX0_meanApart_88 : decode cX0_meanApart 88 = .ok (.i2d, 1) := by decide +kernel
theorem dX0_meanApart_89 : decode cX0_meanApart 89 = .ok (.ddiv, 1) := by decide +kernel
theorem dX0_meanApart_90 : decode cX0_meanApart 90 = .ok (.dreturn, 1) := by decide +kernel
theorem dX1_leftByTrying_0 : decode cX1_leftByTrying 0 = .ok (.iconst 0, 1) := by decide +kernel
theorem dX1_leftByTrying_1 : decode cX1_leftByTrying 1 = .ok (.istore_n 2, 1) := by decide +kernel
theorem dX1_leftByTrying_2 : decode cX1_leftByTrying 2 = .ok (.iconst 0, 1) := by decide +kernel
theorem dX1_leftByTrying_3 : decode cX1_leftByTrying 3 = .ok (.istore_n 3, 1) := by decide +kernel
theorem dX1_leftByTrying_4 : decode cX1_leftByTrying 4 = .ok (.iload_n 3, 1) := by decide +kernel
theorem dX1_leftByTrying_5 : decode cX1_leftByTrying 5 = .ok (.bipush 6, 2) := by decide +kernel
theorem dX1_leftByTrying_7 : decode cX1_leftByTrying 7 = .ok (.if_icmp .ge 38, 3) := by decide +kernel
theorem dX1_leftByTrying_10 : decode cX1_leftByTrying 10 = .ok (.iconst 0, 1) := by decide +kernel
theorem dX1_leftByTrying_11 : decode cX1_leftByTrying 11 = .ok (.istore 4, 2) := by decide +kernel
theorem dX1_leftByTrying_13 : decode cX1_leftByTrying 13 = .ok (.iload 4, 2) := by decide +kernel
theorem dX1_leftByTrying_15 : decode cX1_leftByTrying 15 = .ok (.iconst 5, 1) := by decide +kernel
theorem dX1_leftByTrying_16 : decode cX1_leftByTrying 16 = .ok (.if_icmp .ge 23, 3) := by decide +kernel
theorem dX1_leftByTrying_19 : decode cX1_leftByTrying 19 = .ok (.aload_n 0, 1) := by decide +kernel
theorem dX1_leftByTrying_20 : decode cX1_leftByTrying 20 = .ok (.iload_n 1, 1) := by decide +kernel
theorem dX1_leftByTrying_21 : decode cX1_leftByTrying 21 = .ok (.iload_n 3, 1) := by decide +kernel
theorem dX1_leftByTrying_22 : decode cX1_leftByTrying 22 = .ok (.iload 4, 2) := by decide +kernel
theorem dX1_leftByTrying_24 : decode cX1_leftByTrying 24 = .ok (.invokevirtual 9, 3) := by decide +kernel
theorem dX1_leftByTrying_27 : decode cX1_leftByTrying 27 = .ok (.ifCond .ne 6, 3) := by decide +kernel
theorem dX1_leftByTrying_30 : decode cX1_leftByTrying 30 = .ok (.iinc 2 1, 3) := by decide +kernel
theorem dX1_leftByTrying_33 : decode cX1_leftByTrying 33 = .ok (.iinc 4 1, 3) := by decide +kernel
theorem dX1_leftByTrying_36 : decode cX1_leftByTrying 36 = .ok (.goto (-23), 3) := by decide +kernel
theorem dX1_leftByTrying_39 : decode cX1_leftByTrying 39 = .ok (.iinc 3 1, 3) := by decide +kernel
theorem dX1_leftByTrying_42 : decode cX1_leftByTrying 42 = .ok (.goto (-38), 3) := by decide +kernel
theorem dX1_leftByTrying_45 : decode cX1_leftByTrying 45 = .ok (.iload_n 2, 1) := by decide +kernel
theorem dX1_leftByTrying_46 : decode cX1_leftByTrying 46 = .ok (.ireturn, 1) := by decide +kernel
theorem dX1_leftByPlaces_0 : decode cX1_leftByPlaces 0 = .ok (.aload_n 0, 1) := by decide +kernel
theorem dX1_leftByPlaces_1 : decode cX1_leftByPlaces 1 = .ok (.iload_n 1, 1) := by decide +kernel
theorem dX1_leftByPlaces_2 : decode cX1_leftByPlaces 2 = .ok (.invokevirtual 15, 3) := by decide +kernel
theorem dX1_leftByPlaces_5 : decode cX1_leftByPlaces 5 = .ok (.ifCond .eq 12, 3) := by decide +kernel
theorem dX1_leftByPlaces_8 : decode cX1_leftByPlaces 8 = .ok (.aload_n 0, 1) := by decide +kernel
theorem dX1_leftByPlaces_9 : decode cX1_leftByPlaces 9 = .ok (.iload_n 1, 1) := by decide +kernel
theorem dX1_leftByPlaces_10 : decode cX1_leftByPlaces 10 = .ok (.invokevirtual 19, 3) := by decide +kernel
theorem dX1_leftByPlaces_13 : decode cX1_leftByPlaces 13 = .ok (.iconst 4, 1) := by decide +kernel
theorem dX1_leftByPlaces_14 : decode cX1_leftByPlaces 14 = .ok (.if_icmp .lt 5, 3) := by decide +kernel
theorem dX1_leftByPlaces_17 : decode cX1_leftByPlaces 17 = .ok (.iconst 0, 1) := by decide +kernel
theorem dX1_leftByPlaces_18 : decode cX1_leftByPlaces 18 = .ok (.ireturn, 1) := by decide +kernel
theorem dX1_leftByPlaces_19 : decode cX1_leftByPlaces 19 = .ok (.iconst 0, 1) := by decide +kernel
theorem dX1_leftByPlaces_20 : decode cX1_leftByPlaces 20 = .ok (.istore_n 2, 1) := by decide +kernel
theorem dX1_leftByPlaces_21 : decode cX1_leftByPlaces 21 = .ok (.iconst 0, 1) := by decide +kernel
theorem dX1_leftByPlaces_22 : decode cX1_leftByPlaces 22 = .ok (.istore_n 3, 1) := by decide +kernel
theorem dX1_leftByPlaces_23 : decode cX1_leftByPlaces 23 = .ok (.iload_n 3, 1) := by decide +kernel
theorem dX1_leftByPlaces_24 : decode cX1_leftByPlaces 24 = .ok (.bipush 6, 2) := by decide +kernel
theorem dX1_leftByPlaces_26 : decode cX1_leftByPlaces 26 = .ok (.if_icmp .ge 29, 3) := by decide +kernel
theorem dX1_leftByPlaces_29 : decode cX1_leftByPlaces 29 = .ok (.aload_n 0, 1) := by decide +kernel
theorem dX1_leftByPlaces_30 : decode cX1_leftByPlaces 30 = .ok (.iload_n 1, 1) := by decide +kernel
theorem dX1_leftByPlaces_31 : decode cX1_leftByPlaces 31 = .ok (.iload_n 3, 1) := by decide +kernel
theorem dX1_leftByPlaces_32 : decode cX1_leftByPlaces 32 = .ok (.invokevirtual 23, 3) := by decide +kernel
theorem dX1_leftByPlaces_35 : decode cX1_leftByPlaces 35 = .ok (.ifCond .ne 14, 3) := by decide +kernel
theorem dX1_leftByPlaces_38 : decode cX1_leftByPlaces 38 = .ok (.iload_n 2, 1) := by decide +kernel
theorem dX1_leftByPlaces_39 : decode cX1_leftByPlaces 39 = .ok (.iconst 4, 1) := by decide +kernel
theorem dX1_leftByPlaces_40 : decode cX1_leftByPlaces 40 = .ok (.aload_n 0, 1) := by decide +kernel
theorem dX1_leftByPlaces_41 : decode cX1_leftByPlaces 41 = .ok (.iload_n 1, 1) := by decide +kernel
theorem dX1_leftByPlaces_42 : decode cX1_leftByPlaces 42 = .ok (.iload_n 3, 1) := by decide +kernel
theorem dX1_leftByPlaces_43 : decode cX1_leftByPlaces 43 = .ok (.invokestatic 27, 3) := by decide +kernel
theorem dX1_leftByPlaces_46 : decode cX1_leftByPlaces 46 = .ok (.isub, 1) := by decide +kernel
theorem dX1_leftByPlaces_47 : decode cX1_leftByPlaces 47 = .ok (.iadd, 1) := by decide +kernel
theorem dX1_leftByPlaces_48 : decode cX1_leftByPlaces 48 = .ok (.istore_n 2, 1) := by decide +kernel
theorem dX1_leftByPlaces_49 : decode cX1_leftByPlaces 49 = .ok (.iinc 3 1, 3) := by decide +kernel
theorem dX1_leftByPlaces_52 : decode cX1_leftByPlaces 52 = .ok (.goto (-29), 3) := by decide +kernel
theorem dX1_leftByPlaces_55 : decode cX1_leftByPlaces 55 = .ok (.iload_n 2, 1) := by decide +kernel
theorem dX1_leftByPlaces_56 : decode cX1_leftByPlaces 56 = .ok (.ireturn, 1) := by decide +kernel
theorem dX1_livingApartAt_0 : decode cX1_livingApartAt 0 = .ok (.aload_n 0, 1) := by decide +kernel
theorem dX1_livingApartAt_1 : decode cX1_livingApartAt 1 = .ok (.iload_n 1, 1) := by decide +kernel
theorem dX1_livingApartAt_2 : decode cX1_livingApartAt 2 = .ok (.invokevirtual 33, 3) := by decide +kernel
theorem dX1_livingApartAt_5 : decode cX1_livingApartAt 5 = .ok (.istore_n 3, 1) := by decide +kernel
theorem dX1_livingApartAt_6 : decode cX1_livingApartAt 6 = .ok (.iload_n 3, 1) := by decide +kernel
theorem dX1_livingApartAt_7 : decode cX1_livingApartAt 7 = .ok (.iload_n 2, 1) := by decide +kernel
theorem dX1_livingApartAt_8 : decode cX1_livingApartAt 8 = .ok (.invokestatic 36, 3) := by decide +kernel
theorem dX1_livingApartAt_11 : decode cX1_livingApartAt 11 = .ok (.istore 4, 2) := by decide +kernel
theorem dX1_livingApartAt_13 : decode cX1_livingApartAt 13 = .ok (.iconst 0, 1) := by decide +kernel
theorem dX1_livingApartAt_14 : decode cX1_livingApartAt 14 = .ok (.istore 5, 2) := by decide +kernel
theorem dX1_livingApartAt_16 : decode cX1_livingApartAt 16 = .ok (.iconst 0, 1) := by decide +kernel
theorem dX1_livingApartAt_17 : decode cX1_livingApartAt 17 = .ok (.istore 6, 2) := by decide +kernel
theorem dX1_livingApartAt_19 : decode cX1_livingApartAt 19 = .ok (.iload 6, 2) := by decide +kernel
theorem dX1_livingApartAt_21 : decode cX1_livingApartAt 21 = .ok (.aload_n 0, 1) := by decide +kernel
theorem dX1_livingApartAt_22 : decode cX1_livingApartAt 22 = .ok (.invokevirtual 42, 3) := by decide +kernel
theorem dX1_livingApartAt_25 : decode cX1_livingApartAt 25 = .ok (.if_icmp .ge 50, 3) := by decide +kernel
theorem dX1_livingApartAt_28 : decode cX1_livingApartAt 28 = .ok (.aload_n 0, 1) := by decide +kernel
theorem dX1_livingApartAt_29 : decode cX1_livingApartAt 29 = .ok (.iload 6, 2) := by decide +kernel
theorem dX1_livingApartAt_31 : decode cX1_livingApartAt 31 = .ok (.invokevirtual 33, 3) := by decide +kernel
theorem dX1_livingApartAt_34 : decode cX1_livingApartAt 34 = .ok (.istore 7, 2) := by decide +kernel
theorem dX1_livingApartAt_36 : decode cX1_livingApartAt 36 = .ok (.aload_n 0, 1) := by decide +kernel
theorem dX1_livingApartAt_37 : decode cX1_livingApartAt 37 = .ok (.iload 6, 2) := by decide +kernel
theorem dX1_livingApartAt_39 : decode cX1_livingApartAt 39 = .ok (.invokevirtual 15, 3) := by decide +kernel
theorem dX1_livingApartAt_42 : decode cX1_livingApartAt 42 = .ok (.ifCond .eq 27, 3) := by decide +kernel
theorem dX1_livingApartAt_45 : decode cX1_livingApartAt 45 = .ok (.iload_n 3, 1) := by decide +kernel
theorem dX1_livingApartAt_46 : decode cX1_livingApartAt 46 = .ok (.iload 7, 2) := by decide +kernel
theorem dX1_livingApartAt_48 : decode cX1_livingApartAt 48 = .ok (.invokestatic 46, 3) := by decide +kernel
theorem dX1_livingApartAt_51 : decode cX1_livingApartAt 51 = .ok (.iconst 1, 1) := by decide +kernel
theorem dX1_livingApartAt_52 : decode cX1_livingApartAt 52 = .ok (.if_icmp .ne 17, 3) := by decide +kernel
theorem dX1_livingApartAt_55 : decode cX1_livingApartAt 55 = .ok (.iload 7, 2) := by decide +kernel
theorem dX1_livingApartAt_57 : decode cX1_livingApartAt 57 = .ok (.iload_n 2, 1) := by decide +kernel
theorem dX1_livingApartAt_58 : decode cX1_livingApartAt 58 = .ok (.invokestatic 36, 3) := by decide +kernel
theorem dX1_livingApartAt_61 : decode cX1_livingApartAt 61 = .ok (.iload 4, 2) := by decide +kernel
theorem dX1_livingApartAt_63 : decode cX1_livingApartAt 63 = .ok (.if_icmp .eq 6, 3) := by decide +kernel
theorem dX1_livingApartAt_66 : decode cX1_livingApartAt 66 = .ok (.iinc 5 1, 3) := by decide +kernel
theorem dX1_livingApartAt_69 : decode cX1_livingApartAt 69 = .ok (.iinc 6 1, 3) := by decide +kernel
theorem dX1_livingApartAt_72 : decode cX1_livingApartAt 72 = .ok (.goto (-53), 3) := by decide +kernel
theorem dX1_livingApartAt_75 : decode cX1_livingApartAt 75 = .ok (.iload 5, 2) := by decide +kernel
theorem dX1_livingApartAt_77 : decode cX1_livingApartAt 77 = .ok (.ireturn, 1) := by decide +kernel
theorem dX1_leftToAll_0 : decode cX1_leftToAll 0 = .ok (.iconst 0, 1) := by decide +kernel
theorem dX1_leftToAll_1 : decode cX1_leftToAll 1 = .ok (.istore_n 1, 1) := by decide +kernel
theorem dX1_leftToAll_2 : decode cX1_leftToAll 2 = .ok (.iconst 0, 1) := by decide +kernel
theorem dX1_leftToAll_3 : decode cX1_leftToAll 3 = .ok (.istore_n 2, 1) := by decide +kernel
theorem dX1_leftToAll_4 : decode cX1_leftToAll 4 = .ok (.iload_n 2, 1) := by decide +kernel
theorem dX1_leftToAll_5 : decode cX1_leftToAll 5 = .ok (.aload_n 0, 1) := by decide +kernel
theorem dX1_leftToAll_6 : decode cX1_leftToAll 6 = .ok (.invokevirtual 42, 3) := by decide +kernel
theorem dX1_leftToAll_9 : decode cX1_leftToAll 9 = .ok (.if_icmp .ge 17, 3) := by decide +kernel
theorem dX1_leftToAll_12 : decode cX1_leftToAll 12 = .ok (.iload_n 1, 1) := by decide +kernel
theorem dX1_leftToAll_13 : decode cX1_leftToAll 13 = .ok (.aload_n 0, 1) := by decide +kernel
theorem dX1_leftToAll_14 : decode cX1_leftToAll 14 = .ok (.iload_n 2, 1) := by decide +kernel
theorem dX1_leftToAll_15 : decode cX1_leftToAll 15 = .ok (.invokestatic 49, 3) := by decide +kernel
theorem dX1_leftToAll_18 : decode cX1_leftToAll 18 = .ok (.iadd, 1) := by decide +kernel
theorem dX1_leftToAll_19 : decode cX1_leftToAll 19 = .ok (.istore_n 1, 1) := by decide +kernel
theorem dX1_leftToAll_20 : decode cX1_leftToAll 20 = .ok (.iinc 2 1, 3) := by decide +kernel
theorem dX1_leftToAll_23 : decode cX1_leftToAll 23 = .ok (.goto (-19), 3) := by decide +kernel
theorem dX1_leftToAll_26 : decode cX1_leftToAll 26 = .ok (.iload_n 1, 1) := by decide +kernel
theorem dX1_leftToAll_27 : decode cX1_leftToAll 27 = .ok (.ireturn, 1) := by decide +kernel
theorem dX1_farthest_0 : decode cX1_farthest 0 = .ok (.bipush (-4), 2) := by decide +kernel
theorem dX1_farthest_2 : decode cX1_farthest 2 = .ok (.istore_n 2, 1) := by decide +kernel
theorem dX1_farthest_3 : decode cX1_farthest 3 = .ok (.iconst (-1), 1) := by decide +kernel
theorem dX1_farthest_4 : decode cX1_farthest 4 = .ok (.istore_n 3, 1) := by decide +kernel
theorem dX1_farthest_5 : decode cX1_farthest 5 = .ok (.iconst 0, 1) := by decide +kernel
theorem dX1_farthest_6 : decode cX1_farthest 6 = .ok (.istore 4, 2) := by decide +kernel
theorem dX1_farthest_8 : decode cX1_farthest 8 = .ok (.iload 4, 2) := by decide +kernel
theorem dX1_farthest_10 : decode cX1_farthest 10 = .ok (.bipush 30, 2) := by decide +kernel
theorem dX1_farthest_12 : decode cX1_farthest 12 = .ok (.if_icmp .ge 67, 3) := by decide +kernel
theorem dX1_farthest_15 : decode cX1_farthest 15 = .ok (.iload 4, 2) := by decide +kernel
theorem dX1_farthest_17 : decode cX1_farthest 17 = .ok (.iconst 5, 1) := by decide +kernel
theorem dX1_farthest_18 : decode cX1_farthest 18 = .ok (.idiv, 1) := by decide +kernel
theorem dX1_farthest_19 : decode cX1_farthest 19 = .ok (.istore 5, 2) := by decide +kernel
theorem dX1_farthest_21 : decode cX1_farthest 21 = .ok (.iload 4, 2) := by decide +kernel
theorem dX1_farthest_23 : decode cX1_farthest 23 = .ok (.iconst 5, 1) := by decide +kernel
theorem dX1_farthest_24 : decode cX1_farthest 24 = .ok (.irem, 1) := by decide +kernel
theorem dX1_farthest_25 : decode cX1_farthest 25 = .ok (.istore 6, 2) := by decide +kernel
theorem dX1_farthest_27 : decode cX1_farthest 27 = .ok (.aload_n 0, 1) := by decide +kernel
theorem dX1_farthest_28 : decode cX1_farthest 28 = .ok (.iload_n 1, 1) := by decide +kernel
theorem dX1_farthest_29 : decode cX1_farthest 29 = .ok (.iload 5, 2) := by decide +kernel
theorem dX1_farthest_31 : decode cX1_farthest 31 = .ok (.iload 6, 2) := by decide +kernel
theorem dX1_farthest_33 : decode cX1_farthest 33 = .ok (.invokevirtual 9, 3) := by decide +kernel
theorem dX1_farthest_36 : decode cX1_farthest 36 = .ok (.ifCond .eq 6, 3) := by decide +kernel
theorem dX1_farthest_39 : decode cX1_farthest 39 = .ok (.goto 34, 3) := by decide +kernel
theorem dX1_farthest_42 : decode cX1_farthest 42 = .ok (.aload_n 0, 1) := by decide +kernel
theorem dX1_farthest_43 : decode cX1_farthest 43 = .ok (.aload_n 0, 1) := by decide +kernel
theorem dX1_farthest_44 : decode cX1_farthest 44 = .ok (.iload_n 1, 1) := by decide +kernel
theorem dX1_farthest_45 : decode cX1_farthest 45 = .ok (.invokevirtual 33, 3) := by decide +kernel
theorem dX1_farthest_48 : decode cX1_farthest 48 = .ok (.iload 5, 2) := by decide +kernel
theorem dX1_farthest_50 : decode cX1_farthest 50 = .ok (.iload 6, 2) := by decide +kernel
theorem dX1_farthest_52 : decode cX1_farthest 52 = .ok (.invokestatic 53, 3) := by decide +kernel
theorem dX1_farthest_55 : decode cX1_farthest 55 = .ok (.iload_n 1, 1) := by decide +kernel
theorem dX1_farthest_56 : decode cX1_farthest 56 = .ok (.invokestatic 56, 3) := by decide +kernel
theorem dX1_farthest_59 : decode cX1_farthest 59 = .ok (.istore 7, 2) := by decide +kernel
theorem dX1_farthest_61 : decode cX1_farthest 61 = .ok (.iload 7, 2) := by decide +kernel
theorem dX1_farthest_63 : decode cX1_farthest 63 = .ok (.iload_n 3, 1) := by decide +kernel
theorem dX1_farthest_64 : decode cX1_farthest 64 = .ok (.if_icmp .le 9, 3) := by decide +kernel
theorem dX1_farthest_67 : decode cX1_farthest 67 = .ok (.iload 4, 2) := by decide +kernel
theorem dX1_farthest_69 : decode cX1_farthest 69 = .ok (.istore_n 2, 1) := by decide +kernel
theorem dX1_farthest_70 : decode cX1_farthest 70 = .ok (.iload 7, 2) := by decide +kernel
theorem dX1_farthest_72 : decode cX1_farthest 72 = .ok (.istore_n 3, 1) := by decide +kernel
theorem dX1_farthest_73 : decode cX1_farthest 73 = .ok (.iinc 4 1, 3) := by decide +kernel
theorem dX1_farthest_76 : decode cX1_farthest 76 = .ok (.goto (-68), 3) := by decide +kernel
theorem dX1_farthest_79 : decode cX1_farthest 79 = .ok (.iload_n 2, 1) := by decide +kernel
theorem dX1_farthest_80 : decode cX1_farthest 80 = .ok (.ireturn, 1) := by decide +kernel
theorem dX1_leastApart_0 : decode cX1_leastApart 0 = .ok (.bipush 6, 2) := by decide +kernel
theorem dX1_leastApart_2 : decode cX1_leastApart 2 = .ok (.istore_n 3, 1) := by decide +kernel
theorem dX1_leastApart_3 : decode cX1_leastApart 3 = .ok (.iconst 0, 1) := by decide +kernel
theorem dX1_leastApart_4 : decode cX1_leastApart 4 = .ok (.istore 4, 2) := by decide +kernel
theorem dX1_leastApart_6 : decode cX1_leastApart 6 = .ok (.iload 4, 2) := by decide +kernel
theorem dX1_leastApart_8 : decode cX1_leastApart 8 = .ok (.aload_n 0, 1) := by decide +kernel
theorem dX1_leastApart_9 : decode cX1_leastApart 9 = .ok (.invokevirtual 42, 3) := by decide +kernel
theorem dX1_leastApart_12 : decode cX1_leastApart 12 = .ok (.if_icmp .ge 39, 3) := by decide +kernel
theorem dX1_leastApart_15 : decode cX1_leastApart 15 = .ok (.aload_n 0, 1) := by decide +kernel
theorem dX1_leastApart_16 : decode cX1_leastApart 16 = .ok (.iload 4, 2) := by decide +kernel
theorem dX1_leastApart_18 : decode cX1_leastApart 18 = .ok (.invokevirtual 15, 3) := by decide +kernel
theorem dX1_leastApart_21 : decode cX1_leastApart 21 = .ok (.ifCond .eq 24, 3) := by decide +kernel
theorem dX1_leastApart_24 : decode cX1_leastApart 24 = .ok (.iload 4, 2) := by decide +kernel
theorem dX1_leastApart_26 : decode cX1_leastApart 26 = .ok (.iload_n 2, 1) := by decide +kernel
theorem dX1_leastApart_27 : decode cX1_leastApart 27 = .ok (.if_icmp .eq 18, 3) := by decide +kernel
theorem dX1_leastApart_30 : decode cX1_leastApart 30 = .ok (.iload_n 3, 1) := by decide +kernel
theorem dX1_leastApart_31 : decode cX1_leastApart 31 = .ok (.iload_n 1, 1) := by decide +kernel
theorem dX1_leastApart_32 : decode cX1_leastApart 32 = .ok (.aload_n 0, 1) := by decide +kernel
theorem dX1_leastApart_33 : decode cX1_leastApart 33 = .ok (.iload 4, 2) := by decide +kernel
theorem dX1_leastApart_35 : decode cX1_leastApart 35 = .ok (.invokevirtual 33, 3) := by decide +kernel
theorem dX1_leastApart_38 : decode cX1_leastApart 38 = .ok (.invokestatic 46, 3) := by decide +kernel
theorem dX1_leastApart_41 : decode cX1_leastApart 41 = .ok (.invokestatic 59, 3) := by decide +kernel
theorem dX1_leastApart_44 : decode cX1_leastApart 44 = .ok (.istore_n 3, 1) := by decide +kernel
theorem dX1_leastApart_45 : decode cX1_leastApart 45 = .ok (.iinc 4 1, 3) := by decide +kernel
theorem dX1_leastApart_48 : decode cX1_leastApart 48 = .ok (.goto (-42), 3) := by decide +kernel
theorem dX1_leastApart_51 : decode cX1_leastApart 51 = .ok (.iload_n 3, 1) := by decide +kernel
theorem dX1_leastApart_52 : decode cX1_leastApart 52 = .ok (.ireturn, 1) := by decide +kernel
theorem dX2_init_0 : decode cX2_init 0 = .ok (.aload_n 0, 1) := by decide +kernel
theorem dX2_init_1 : decode cX2_init 1 = .ok (.invokespecial 3, 3) := by decide +kernel
theorem dX2_init_4 : decode cX2_init 4 = .ok (.aload_n 0, 1) := by decide +kernel
theorem dX2_init_5 : decode cX2_init 5 = .ok (.iconst 5, 1) := by decide +kernel
theorem dX2_init_6 : decode cX2_init 6 = .ok (.anewarray 9, 3) := by decide +kernel
theorem dX2_init_9 : decode cX2_init 9 = .ok (.putfield 11, 3) := by decide +kernel
theorem dX2_init_12 : decode cX2_init 12 = .ok (.aload_n 0, 1) := by decide +kernel
theorem dX2_init_13 : decode cX2_init 13 = .ok (.iconst 0, 1) := by decide +kernel
theorem dX2_init_14 : decode cX2_init 14 = .ok (.putfield 17, 3) := by decide +kernel
theorem dX2_init_17 : decode cX2_init 17 = .ok (.iconst 0, 1) := by decide +kernel
theorem dX2_init_18 : decode cX2_init 18 = .ok (.istore_n 1, 1) := by decide +kernel
theorem dX2_init_19 : decode cX2_init 19 = .ok (.iload_n 1, 1) := by decide +kernel
theorem dX2_init_20 : decode cX2_init 20 = .ok (.aload_n 0, 1) := by decide +kernel
theorem dX2_init_21 : decode cX2_init 21 = .ok (.getfield 11, 3) := by decide +kernel
theorem dX2_init_24 : decode cX2_init 24 = .ok (.arraylength, 1) := by decide +kernel
theorem dX2_init_25 : decode cX2_init 25 = .ok (.if_icmp .ge 22, 3) := by decide +kernel
theorem dX2_init_28 : decode cX2_init 28 = .ok (.aload_n 0, 1) := by decide +kernel
theorem dX2_init_29 : decode cX2_init 29 = .ok (.getfield 11, 3) := by decide +kernel
theorem dX2_init_32 : decode cX2_init 32 = .ok (.iload_n 1, 1) := by decide +kernel
theorem dX2_init_33 : decode cX2_init 33 = .ok (.new 9, 3) := by decide +kernel
theorem dX2_init_36 : decode cX2_init 36 = .ok (.dup, 1) := by decide +kernel
theorem dX2_init_37 : decode cX2_init 37 = .ok (.invokespecial 21, 3) := by decide +kernel
theorem dX2_init_40 : decode cX2_init 40 = .ok (.aastore, 1) := by decide +kernel
theorem dX2_init_41 : decode cX2_init 41 = .ok (.iinc 1 1, 3) := by decide +kernel
theorem dX2_init_44 : decode cX2_init 44 = .ok (.goto (-25), 3) := by decide +kernel
theorem dX2_init_47 : decode cX2_init 47 = .ok (.return_, 1) := by decide +kernel
theorem dX2_size_0 : decode cX2_size 0 = .ok (.aload_n 0, 1) := by decide +kernel
theorem dX2_size_1 : decode cX2_size 1 = .ok (.getfield 17, 3) := by decide +kernel
theorem dX2_size_4 : decode cX2_size 4 = .ok (.ireturn, 1) := by decide +kernel
theorem dX2_stateAt_0 : decode cX2_stateAt 0 = .ok (.iload_n 1, 1) := by decide +kernel
theorem dX2_stateAt_1 : decode cX2_stateAt 1 = .ok (.ifCond .lt 21, 3) := by decide +kernel
theorem dX2_stateAt_4 : decode cX2_stateAt 4 = .ok (.iload_n 1, 1) := by decide +kernel
theorem dX2_stateAt_5 : decode cX2_stateAt 5 = .ok (.aload_n 0, 1) := by decide +kernel
theorem dX2_stateAt_6 : decode cX2_stateAt 6 = .ok (.getfield 11, 3) := by decide +kernel
theorem dX2_stateAt_9 : decode cX2_stateAt 9 = .ok (.arraylength, 1) := by decide +kernel
theorem dX2_stateAt_10 : decode cX2_stateAt 10 = .ok (.if_icmp .ge 12, 3) := by decide +kernel
theorem dX2_stateAt_13 : decode cX2_stateAt 13 = .ok (.aload_n 0, 1) := by decide +kernel
theorem dX2_stateAt_14 : decode cX2_stateAt 14 = .ok (.getfield 11, 3) := by decide +kernel
theorem dX2_stateAt_17 : decode cX2_stateAt 17 = .ok (.iload_n 1, 1) := by decide +kernel
theorem dX2_stateAt_18 : decode cX2_stateAt 18 = .ok (.aaload, 1) := by decide +kernel
theorem dX2_stateAt_19 : decode cX2_stateAt 19 = .ok (.goto 4, 3) := by decide +kernel
theorem dX2_stateAt_22 : decode cX2_stateAt 22 = .ok (.aconst_null, 1) := by decide +kernel
theorem dX2_stateAt_23 : decode cX2_stateAt 23 = .ok (.areturn, 1) := by decide +kernel
theorem dX2_note_0 : decode cX2_note 0 = .ok (.aload_n 0, 1) := by decide +kernel
theorem dX2_note_1 : decode cX2_note 1 = .ok (.aload_n 0, 1) := by decide +kernel
theorem dX2_note_2 : decode cX2_note 2 = .ok (.getfield 17, 3) := by decide +kernel
theorem dX2_note_5 : decode cX2_note 5 = .ok (.invokevirtual 22, 3) := by decide +kernel
theorem dX2_note_8 : decode cX2_note 8 = .ok (.astore_n 2, 1) := by decide +kernel
theorem dX2_note_9 : decode cX2_note 9 = .ok (.aload_n 2, 1) := by decide +kernel
theorem dX2_note_10 : decode cX2_note 10 = .ok (.ifnull 8, 3) := by decide +kernel
theorem dX2_note_13 : decode cX2_note 13 = .ok (.aload_n 2, 1) := by decide +kernel
theorem dX2_note_14 : decode cX2_note 14 = .ok (.aload_n 1, 1) := by decide +kernel
theorem dX2_note_15 : decode cX2_note 15 = .ok (.invokevirtual 26, 3) := by decide +kernel
theorem dX2_note_18 : decode cX2_note 18 = .ok (.return_, 1) := by decide +kernel
theorem dX2_keepNoted_0 : decode cX2_keepNoted 0 = .ok (.aload_n 0, 1) := by decide +kernel
theorem dX2_keepNoted_1 : decode cX2_keepNoted 1 = .ok (.getfield 17, 3) := by decide +kernel
theorem dX2_keepNoted_4 : decode cX2_keepNoted 4 = .ok (.iconst 4, 1) := by decide +kernel
theorem dX2_keepNoted_5 : decode cX2_keepNoted 5 = .ok (.if_icmp .ge 14, 3) := by decide +kernel
theorem dX2_keepNoted_8 : decode cX2_keepNoted 8 = .ok (.aload_n 0, 1) := by decide +kernel
theorem dX2_keepNoted_9 : decode cX2_keepNoted 9 = .ok (.dup, 1) := by decide +kernel
theorem dX2_keepNoted_10 : decode cX2_keepNoted 10 = .ok (.getfield 17, 3) := by decide +kernel
theorem dX2_keepNoted_13 : decode cX2_keepNoted 13 = .ok (.iconst 1, 1) := by decide +kernel
theorem dX2_keepNoted_14 : decode cX2_keepNoted 14 = .ok (.iadd, 1) := by decide +kernel
theorem dX2_keepNoted_15 : decode cX2_keepNoted 15 = .ok (.putfield 17, 3) := by decide +kernel
theorem dX2_keepNoted_18 : decode cX2_keepNoted 18 = .ok (.return_, 1) := by decide +kernel
theorem dX2_keepNoted_19 : decode cX2_keepNoted 19 = .ok (.aload_n 0, 1) := by decide +kernel
theorem dX2_keepNoted_20 : decode cX2_keepNoted 20 = .ok (.getfield 11, 3) := by decide +kernel
theorem dX2_keepNoted_23 : decode cX2_keepNoted 23 = .ok (.iconst 0, 1) := by decide +kernel
theorem dX2_keepNoted_24 : decode cX2_keepNoted 24 = .ok (.aaload, 1) := by decide +kernel
theorem dX2_keepNoted_25 : decode cX2_keepNoted 25 = .ok (.astore_n 1, 1) := by decide +kernel
theorem dX2_keepNoted_26 : decode cX2_keepNoted 26 = .ok (.iconst 0, 1) := by decide +kernel
theorem dX2_keepNoted_27 : decode cX2_keepNoted 27 = .ok (.istore_n 2, 1) := by decide +kernel
theorem dX2_keepNoted_28 : decode cX2_keepNoted 28 = .ok (.iload_n 2, 1) := by decide +kernel
theorem dX2_keepNoted_29 : decode cX2_keepNoted 29 = .ok (.iconst 4, 1) := by decide +kernel
theorem dX2_keepNoted_30 : decode cX2_keepNoted 30 = .ok (.if_icmp .ge 23, 3) := by decide +kernel
theorem dX2_keepNoted_33 : decode cX2_keepNoted 33 = .ok (.aload_n 0, 1) := by decide +kernel
theorem dX2_keepNoted_34 : decode cX2_keepNoted 34 = .ok (.getfield 11, 3) := by decide +kernel
theorem dX2_keepNoted_37 : decode cX2_keepNoted 37 = .ok (.iload_n 2, 1) := by decide +kernel
theorem dX2_keepNoted_38 : decode cX2_keepNoted 38 = .ok (.aload_n 0, 1) := by decide +kernel
theorem dX2_keepNoted_39 : decode cX2_keepNoted 39 = .ok (.getfield 11, 3) := by decide +kernel
theorem dX2_keepNoted_42 : decode cX2_keepNoted 42 = .ok (.iload_n 2, 1) := by decide +kernel
theorem dX2_keepNoted_43 : decode cX2_keepNoted 43 = .ok (.iconst 1, 1) := by decide +kernel
theorem dX2_keepNoted_44 : decode cX2_keepNoted 44 = .ok (.iadd, 1) := by decide +kernel
theorem dX2_keepNoted_45 : decode cX2_keepNoted 45 = .ok (.aaload, 1) := by decide +kernel
theorem dX2_keepNoted_46 : decode cX2_keepNoted 46 = .ok (.aastore, 1) := by decide +kernel
theorem dX2_keepNoted_47 : decode cX2_keepNoted 47 = .ok (.iinc 2 1, 3) := by decide +kernel
theorem dX2_keepNoted_50 : decode cX2_keepNoted 50 = .ok (.goto (-22), 3) := by decide +kernel
theorem dX2_keepNoted_53 : decode cX2_keepNoted 53 = .ok (.aload_n 0, 1) := by decide +kernel
theorem dX2_keepNoted_54 : decode cX2_keepNoted 54 = .ok (.getfield 11, 3) := by decide +kernel
theorem dX2_keepNoted_57 : decode cX2_keepNoted 57 = .ok (.iconst 4, 1) := by decide +kernel
theorem dX2_keepNoted_58 : decode cX2_keepNoted 58 = .ok (.aload_n 1, 1) := by decide +kernel
theorem dX2_keepNoted_59 : decode cX2_keepNoted 59 = .ok (.aastore, 1) := by decide +kernel
theorem dX2_keepNoted_60 : decode cX2_keepNoted 60 = .ok (.return_, 1) := by decide +kernel
theorem dX2_takeBack_0 : decode cX2_takeBack 0 = .ok (.aload_n 0, 1) := by decide +kernel
theorem dX2_takeBack_1 : decode cX2_takeBack 1 = .ok (.aload_n 0, 1) := by decide +kernel
theorem dX2_takeBack_2 : decode cX2_takeBack 2 = .ok (.getfield 17, 3) := by decide +kernel
theorem dX2_takeBack_5 : decode cX2_takeBack 5 = .ok (.iconst 1, 1) := by decide +kernel
theorem dX2_takeBack_6 : decode cX2_takeBack 6 = .ok (.isub, 1) := by decide +kernel
theorem dX2_takeBack_7 : decode cX2_takeBack 7 = .ok (.invokevirtual 22, 3) := by decide +kernel
theorem dX2_takeBack_10 : decode cX2_takeBack 10 = .ok (.astore_n 2, 1) := by decide +kernel
theorem dX2_takeBack_11 : decode cX2_takeBack 11 = .ok (.aload_n 2, 1) := by decide +kernel
theorem dX2_takeBack_12 : decode cX2_takeBack 12 = .ok (.ifnull 18, 3) := by decide +kernel
theorem dX2_takeBack_15 : decode cX2_takeBack 15 = .ok (.aload_n 1, 1) := by decide +kernel
theorem dX2_takeBack_16 : decode cX2_takeBack 16 = .ok (.aload_n 2, 1) := by decide +kernel
theorem dX2_takeBack_17 : decode cX2_takeBack 17 = .ok (.invokevirtual 26, 3) := by decide +kernel
theorem dX2_takeBack_20 : decode cX2_takeBack 20 = .ok (.aload_n 0, 1) := by decide +kernel
theorem dX2_takeBack_21 : decode cX2_takeBack 21 = .ok (.dup, 1) := by decide +kernel
theorem dX2_takeBack_22 : decode cX2_takeBack 22 = .ok (.getfield 17, 3) := by decide +kernel
theorem dX2_takeBack_25 : decode cX2_takeBack 25 = .ok (.iconst 1, 1) := by decide +kernel
theorem dX2_takeBack_26 : decode cX2_takeBack 26 = .ok (.isub, 1) := by decide +kernel
theorem dX2_takeBack_27 : decode cX2_takeBack 27 = .ok (.putfield 17, 3) := by decide +kernel
theorem dX2_takeBack_30 : decode cX2_takeBack 30 = .ok (.return_, 1) := by decide +kernel
theorem dX3_livingSons_0 : decode cX3_livingSons 0 = .ok (.iconst 0, 1) := by decide +kernel
theorem dX3_livingSons_1 : decode cX3_livingSons 1 = .ok (.istore_n 2, 1) := by decide +kernel
theorem dX3_livingSons_2 : decode cX3_livingSons 2 = .ok (.iconst 0, 1) := by decide +kernel
theorem dX3_livingSons_3 : decode cX3_livingSons 3 = .ok (.istore_n 3, 1) := by decide +kernel
theorem dX3_livingSons_4 : decode cX3_livingSons 4 = .ok (.iload_n 3, 1) := by decide +kernel
theorem dX3_livingSons_5 : decode cX3_livingSons 5 = .ok (.aload_n 0, 1) := by decide +kernel
theorem dX3_livingSons_6 : decode cX3_livingSons 6 = .ok (.invokevirtual 9, 3) := by decide +kernel
theorem dX3_livingSons_9 : decode cX3_livingSons 9 = .ok (.if_icmp .ge 29, 3) := by decide +kernel
theorem dX3_livingSons_12 : decode cX3_livingSons 12 = .ok (.aload_n 0, 1) := by decide +kernel
theorem dX3_livingSons_13 : decode cX3_livingSons 13 = .ok (.iload_n 3, 1) := by decide +kernel
theorem dX3_livingSons_14 : decode cX3_livingSons 14 = .ok (.invokevirtual 15, 3) := by decide +kernel
theorem dX3_livingSons_17 : decode cX3_livingSons 17 = .ok (.ifCond .eq 15, 3) := by decide +kernel
theorem dX3_livingSons_20 : decode cX3_livingSons 20 = .ok (.aload_n 0, 1) := by decide +kernel
theorem dX3_livingSons_21 : decode cX3_livingSons 21 = .ok (.iload_n 3, 1) := by decide +kernel
theorem dX3_livingSons_22 : decode cX3_livingSons 22 = .ok (.invokevirtual 19, 3) := by decide +kernel
theorem dX3_livingSons_25 : decode cX3_livingSons 25 = .ok (.iload_n 1, 1) := by decide +kernel
theorem dX3_livingSons_26 : decode cX3_livingSons 26 = .ok (.if_icmp .ne 6, 3) := by decide +kernel
theorem dX3_livingSons_29 : decode cX3_livingSons 29 = .ok (.iinc 2 1, 3) := by decide +kernel
theorem dX3_livingSons_32 : decode cX3_livingSons 32 = .ok (.iinc 3 1, 3) := by decide +kernel
theorem dX3_livingSons_35 : decode cX3_livingSons 35 = .ok (.goto (-31), 3) := by decide +kernel
theorem dX3_livingSons_38 : decode cX3_livingSons 38 = .ok (.iload_n 2, 1) := by decide +kernel
theorem dX3_livingSons_39 : decode cX3_livingSons 39 = .ok (.ireturn, 1) := by decide +kernel
theorem dX3_livingBrothers_0 : decode cX3_livingBrothers 0 = .ok (.iconst 0, 1) := by decide +kernel
theorem dX3_livingBrothers_1 : decode cX3_livingBrothers 1 = .ok (.istore_n 2, 1) := by decide +kernel
theorem dX3_livingBrothers_2 : decode cX3_livingBrothers 2 = .ok (.iconst 0, 1) := by decide +kernel
theorem dX3_livingBrothers_3 : decode cX3_livingBrothers 3 = .ok (.istore_n 3, 1) := by decide +kernel
theorem dX3_livingBrothers_4 : decode cX3_livingBrothers 4 = .ok (.iload_n 3, 1) := by decide +kernel
theorem dX3_livingBrothers_5 : decode cX3_livingBrothers 5 = .ok (.aload_n 0, 1) := by decide +kernel
theorem dX3_livingBrothers_6 : decode cX3_livingBrothers 6 = .ok (.invokevirtual 9, 3) := by decide +kernel
theorem dX3_livingBrothers_9 : decode cX3_livingBrothers 9 = .ok (.if_icmp .ge 29, 3) := by decide +kernel
theorem dX3_livingBrothers_12 : decode cX3_livingBrothers 12 = .ok (.aload_n 0, 1) := by decide +kernel
theorem dX3_livingBrothers_13 : decode cX3_livingBrothers 13 = .ok (.iload_n 3, 1) := by decide +kernel
theorem dX3_livingBrothers_14 : decode cX3_livingBrothers 14 = .ok (.invokevirtual 15, 3) := by decide +kernel
theorem dX3_livingBrothers_17 : decode cX3_livingBrothers 17 = .ok (.ifCond .eq 15, 3) := by decide +kernel
theorem dX3_livingBrothers_20 : decode cX3_livingBrothers 20 = .ok (.aload_n 0, 1) := by decide +kernel
theorem dX3_livingBrothers_21 : decode cX3_livingBrothers 21 = .ok (.iload_n 3, 1) := by decide +kernel
theorem dX3_livingBrothers_22 : decode cX3_livingBrothers 22 = .ok (.iload_n 1, 1) := by decide +kernel
theorem dX3_livingBrothers_23 : decode cX3_livingBrothers 23 = .ok (.invokevirtual 23, 3) := by decide +kernel
theorem dX3_livingBrothers_26 : decode cX3_livingBrothers 26 = .ok (.ifCond .eq 6, 3) := by decide +kernel
theorem dX3_livingBrothers_29 : decode cX3_livingBrothers 29 = .ok (.iinc 2 1, 3) := by decide +kernel
theorem dX3_livingBrothers_32 : decode cX3_livingBrothers 32 = .ok (.iinc 3 1, 3) := by decide +kernel
theorem dX3_livingBrothers_35 : decode cX3_livingBrothers 35 = .ok (.goto (-31), 3) := by decide +kernel
theorem dX3_livingBrothers_38 : decode cX3_livingBrothers 38 = .ok (.iload_n 2, 1) := by decide +kernel
theorem dX3_livingBrothers_39 : decode cX3_livingBrothers 39 = .ok (.ireturn, 1) := by decide +kernel
theorem dX3_livingCousins_0 : decode cX3_livingCousins 0 = .ok (.iconst 0, 1) := by decide +kernel
theorem dX3_livingCousins_1 : decode cX3_livingCousins 1 = .ok (.istore_n 2, 1) := by decide +kernel
theorem dX3_livingCousins_2 : decode cX3_livingCousins 2 = .ok (.iconst 0, 1) := by decide +kernel
theorem dX3_livingCousins_3 : decode cX3_livingCousins 3 = .ok (.istore_n 3, 1) := by decide +kernel
theorem dX3_livingCousins_4 : decode cX3_livingCousins 4 = .ok (.iload_n 3, 1) := by decide +kernel
theorem dX3_livingCousins_5 : decode cX3_livingCousins 5 = .ok (.aload_n 0, 1) := by decide +kernel
theorem dX3_livingCousins_6 : decode cX3_livingCousins 6 = .ok (.invokevirtual 9, 3) := by decide +kernel
theorem dX3_livingCousins_9 : decode cX3_livingCousins 9 = .ok (.if_icmp .ge 37, 3) := by decide +kernel
theorem dX3_livingCousins_12 : decode cX3_livingCousins 12 = .ok (.aload_n 0, 1) := by decide +kernel
theorem dX3_livingCousins_13 : decode cX3_livingCousins 13 = .ok (.iload_n 3, 1) := by decide +kernel
theorem dX3_livingCousins_14 : decode cX3_livingCousins 14 = .ok (.invokevirtual 15, 3) := by decide +kernel
theorem dX3_livingCousins_17 : decode cX3_livingCousins 17 = .ok (.ifCond .eq 23, 3) := by decide +kernel
theorem dX3_livingCousins_20 : decode cX3_livingCousins 20 = .ok (.aload_n 0, 1) := by decide +kernel
theorem dX3_livingCousins_21 : decode cX3_livingCousins 21 = .ok (.aload_n 0, 1) := by decide +kernel
theorem dX3_livingCousins_22 : decode cX3_livingCousins 22 = .ok (.iload_n 3, 1) := by decide +kernel
theorem dX3_livingCousins_23 : decode cX3_livingCousins 23 = .ok (.invokevirtual 19, 3) := by decide +kernel
theorem dX3_livingCousins_26 : decode cX3_livingCousins 26 = .ok (.aload_n 0, 1) := by decide +kernel
theorem dX3_livingCousins_27 : decode cX3_livingCousins 27 = .ok (.iload_n 1, 1) := by decide +kernel
theorem dX3_livingCousins_28 : decode cX3_livingCousins 28 = .ok (.invokevirtual 19, 3) := by decide +kernel
theorem dX3_livingCousins_31 : decode cX3_livingCousins 31 = .ok (.invokevirtual 23, 3) := by decide +kernel
theorem dX3_livingCousins_34 : decode cX3_livingCousins 34 = .ok (.ifCond .eq 6, 3) := by decide +kernel
theorem dX3_livingCousins_37 : decode cX3_livingCousins 37 = .ok (.iinc 2 1, 3) := by decide +kernel
theorem dX3_livingCousins_40 : decode cX3_livingCousins 40 = .ok (.iinc 3 1, 3) := by decide +kernel
theorem dX3_livingCousins_43 : decode cX3_livingCousins 43 = .ok (.goto (-39), 3) := by decide +kernel
theorem dX3_livingCousins_46 : decode cX3_livingCousins 46 = .ok (.iload_n 2, 1) := by decide +kernel
theorem dX3_livingCousins_47 : decode cX3_livingCousins 47 = .ok (.ireturn, 1) := by decide +kernel
theorem dX3_descendants_0 : decode cX3_descendants 0 = .ok (.iconst 0, 1) := by decide +kernel
theorem dX3_descendants_1 : decode cX3_descendants 1 = .ok (.istore_n 2, 1) := by decide +kernel
theorem dX3_descendants_2 : decode cX3_descendants 2 = .ok (.iload_n 1, 1) := by decide +kernel
theorem dX3_descendants_3 : decode cX3_descendants 3 = .ok (.iconst 1, 1) := by decide +kernel
theorem dX3_descendants_4 : decode cX3_descendants 4 = .ok (.iadd, 1) := by decide +kernel
theorem dX3_descendants_5 : decode cX3_descendants 5 = .ok (.istore_n 3, 1) := by decide +kernel
theorem dX3_descendants_6 : decode cX3_descendants 6 = .ok (.iload_n 3, 1) := by decide +kernel
theorem dX3_descendants_7 : decode cX3_descendants 7 = .ok (.aload_n 0, 1) := by decide +kernel
theorem dX3_descendants_8 : decode cX3_descendants 8 = .ok (.invokevirtual 9, 3) := by decide +kernel
theorem dX3_descendants_11 : decode cX3_descendants 11 = .ok (.if_icmp .ge 21, 3) := by decide +kernel
theorem dX3_descendants_14 : decode cX3_descendants 14 = .ok (.aload_n 0, 1) := by decide +kernel
theorem dX3_descendants_15 : decode cX3_descendants 15 = .ok (.iload_n 3, 1) := by decide +kernel
theorem dX3_descendants_16 : decode cX3_descendants 16 = .ok (.iload_n 1, 1) := by decide +kernel
theorem dX3_descendants_17 : decode cX3_descendants 17 = .ok (.invokestatic 27, 3) := by decide +kernel
theorem dX3_descendants_20 : decode cX3_descendants 20 = .ok (.ifCond .eq 6, 3) := by decide +kernel
theorem dX3_descendants_23 : decode cX3_descendants 23 = .ok (.iinc 2 1, 3) := by decide +kernel
theorem dX3_descendants_26 : decode cX3_descendants 26 = .ok (.iinc 3 1, 3) := by decide +kernel
theorem dX3_descendants_29 : decode cX3_descendants 29 = .ok (.goto (-23), 3) := by decide +kernel
theorem dX3_descendants_32 : decode cX3_descendants 32 = .ok (.iload_n 2, 1) := by decide +kernel
theorem dX3_descendants_33 : decode cX3_descendants 33 = .ok (.ireturn, 1) := by decide +kernel
theorem dX3_comesFrom_0 : decode cX3_comesFrom 0 = .ok (.iload_n 1, 1) := by decide +kernel
theorem dX3_comesFrom_1 : decode cX3_comesFrom 1 = .ok (.istore_n 3, 1) := by decide +kernel
theorem dX3_comesFrom_2 : decode cX3_comesFrom 2 = .ok (.iconst 0, 1) := by decide +kernel
theorem dX3_comesFrom_3 : decode cX3_comesFrom 3 = .ok (.istore 4, 2) := by decide +kernel
theorem dX3_comesFrom_5 : decode cX3_comesFrom 5 = .ok (.iload 4, 2) := by decide +kernel
theorem dX3_comesFrom_7 : decode cX3_comesFrom 7 = .ok (.bipush 20, 2) := by decide +kernel
theorem dX3_comesFrom_9 : decode cX3_comesFrom 9 = .ok (.if_icmp .ge 20, 3) := by decide +kernel
theorem dX3_comesFrom_12 : decode cX3_comesFrom 12 = .ok (.iload_n 3, 1) := by decide +kernel
theorem dX3_comesFrom_13 : decode cX3_comesFrom 13 = .ok (.iload_n 2, 1) := by decide +kernel
theorem dX3_comesFrom_14 : decode cX3_comesFrom 14 = .ok (.if_icmp .le 15, 3) := by decide +kernel
theorem dX3_comesFrom_17 : decode cX3_comesFrom 17 = .ok (.aload_n 0, 1) := by decide +kernel
theorem dX3_comesFrom_18 : decode cX3_comesFrom 18 = .ok (.iload_n 3, 1) := by decide +kernel
theorem dX3_comesFrom_19 : decode cX3_comesFrom 19 = .ok (.invokevirtual 19, 3) := by decide +kernel
theorem dX3_comesFrom_22 : decode cX3_comesFrom 22 = .ok (.istore_n 3, 1) := by decide +kernel
theorem dX3_comesFrom_23 : decode cX3_comesFrom 23 = .ok (.iinc 4 1, 3) := by decide +kernel
theorem dX3_comesFrom_26 : decode cX3_comesFrom 26 = .ok (.goto (-21), 3) := by decide +kernel
theorem dX3_comesFrom_29 : decode cX3_comesFrom 29 = .ok (.iload_n 3, 1) := by decide +kernel
theorem dX3_comesFrom_30 : decode cX3_comesFrom 30 = .ok (.iload_n 2, 1) := by decide +kernel
theorem dX3_comesFrom_31 : decode cX3_comesFrom 31 = .ok (.if_icmp .ne 7, 3) := by decide +kernel
theorem dX3_comesFrom_34 : decode cX3_comesFrom 34 = .ok (.iconst 1, 1) := by decide +kernel
theorem dX3_comesFrom_35 : decode cX3_comesFrom 35 = .ok (.goto 4, 3) := by decide +kernel
theorem dX3_comesFrom_38 : decode cX3_comesFrom 38 = .ok (.iconst 0, 1) := by decide +kernel
theorem dX3_comesFrom_39 : decode cX3_comesFrom 39 = .ok (.ireturn, 1) := by decide +kernel
theorem dX3_stepsFromFounder_0 : decode cX3_stepsFromFounder 0 = .ok (.iload_n 1, 1) := by decide +kernel
theorem dX3_stepsFromFounder_1 : decode cX3_stepsFromFounder 1 = .ok (.istore_n 2, 1) := by decide +kernel
theorem dX3_stepsFromFounder_2 : decode cX3_stepsFromFounder 2 = .ok (.iconst 0, 1) := by decide +kernel
theorem dX3_stepsFromFounder_3 : decode cX3_stepsFromFounder 3 = .ok (.istore_n 3, 1) := by decide +kernel
theorem dX3_stepsFromFounder_4 : decode cX3_stepsFromFounder 4 = .ok (.iload_n 3, 1) := by decide +kernel
theorem dX3_stepsFromFounder_5 : decode cX3_stepsFromFounder 5 = .ok (.bipush 20, 2) := by decide +kernel
theorem dX3_stepsFromFounder_7 : decode cX3_stepsFromFounder 7 = .ok (.if_icmp .ge 24, 3) := by decide +kernel
theorem dX3_stepsFromFounder_10 : decode cX3_stepsFromFounder 10 = .ok (.aload_n 0, 1) := by decide +kernel
theorem dX3_stepsFromFounder_11 : decode cX3_stepsFromFounder 11 = .ok (.iload_n 2, 1) := by decide +kernel
theorem dX3_stepsFromFounder_12 : decode cX3_stepsFromFounder 12 = .ok (.invokevirtual 19, 3) := by decide +kernel
theorem dX3_stepsFromFounder_15 : decode cX3_stepsFromFounder 15 = .ok (.iconst (-1), 1) := by decide +kernel
theorem dX3_stepsFromFounder_16 : decode cX3_stepsFromFounder 16 = .ok (.if_icmp .eq 15, 3) := by decide +kernel
theorem dX3_stepsFromFounder_19 : decode cX3_stepsFromFounder 19 = .ok (.aload_n 0, 1) := by decide +kernel
theorem dX3_stepsFromFounder_20 : decode cX3_stepsFromFounder 20 = .ok (.iload_n 2, 1) := by decide +kernel
theorem dX3_stepsFromFounder_21 : decode cX3_stepsFromFounder 21 = .ok (.invokevirtual 19, 3) := by decide +kernel
theorem dX3_stepsFromFounder_24 : decode cX3_stepsFromFounder 24 = .ok (.istore_n 2, 1) := by decide +kernel
theorem dX3_stepsFromFounder_25 : decode cX3_stepsFromFounder 25 = .ok (.iinc 3 1, 3) := by decide +kernel
theorem dX3_stepsFromFounder_28 : decode cX3_stepsFromFounder 28 = .ok (.goto (-24), 3) := by decide +kernel
theorem dX3_stepsFromFounder_31 : decode cX3_stepsFromFounder 31 = .ok (.iload_n 3, 1) := by decide +kernel
theorem dX3_stepsFromFounder_32 : decode cX3_stepsFromFounder 32 = .ok (.ireturn, 1) := by decide +kernel
theorem dX3_placesFromFather_0 : decode cX3_placesFromFather 0 = .ok (.aload_n 0, 1) := by decide +kernel
theorem dX3_placesFromFather_1 : decode cX3_placesFromFather 1 = .ok (.iload_n 1, 1) := by decide +kernel
theorem dX3_placesFromFather_2 : decode cX3_placesFromFather 2 = .ok (.invokevirtual 19, 3) := by decide +kernel
theorem dX3_placesFromFather_5 : decode cX3_placesFromFather 5 = .ok (.istore_n 2, 1) := by decide +kernel
theorem dX3_placesFromFather_6 : decode cX3_placesFromFather 6 = .ok (.iload_n 2, 1) := by decide +kernel
theorem dX3_placesFromFather_7 : decode cX3_placesFromFather 7 = .ok (.iconst (-1), 1) := by decide +kernel
theorem dX3_placesFromFather_8 : decode cX3_placesFromFather 8 = .ok (.if_icmp .ne 6, 3) := by decide +kernel
theorem dX3_placesFromFather_11 : decode cX3_placesFromFather 11 = .ok (.bipush (-4), 2) := by decide +kernel
theorem dX3_placesFromFather_13 : decode cX3_placesFromFather 13 = .ok (.ireturn, 1) := by decide +kernel
theorem dX3_placesFromFather_14 : decode cX3_placesFromFather 14 = .ok (.aload_n 0, 1) := by decide +kernel
theorem dX3_placesFromFather_15 : decode cX3_placesFromFather 15 = .ok (.iload_n 1, 1) := by decide +kernel
theorem dX3_placesFromFather_16 : decode cX3_placesFromFather 16 = .ok (.invokevirtual 33, 3) := by decide +kernel
theorem dX3_placesFromFather_19 : decode cX3_placesFromFather 19 = .ok (.aload_n 0, 1) := by decide +kernel
theorem dX3_placesFromFather_20 : decode cX3_placesFromFather 20 = .ok (.iload_n 2, 1) := by decide +kernel
theorem dX3_placesFromFather_21 : decode cX3_placesFromFather 21 = .ok (.invokevirtual 33, 3) := by decide +kernel
theorem dX3_placesFromFather_24 : decode cX3_placesFromFather 24 = .ok (.invokestatic 36, 3) := by decide +kernel
theorem dX3_placesFromFather_27 : decode cX3_placesFromFather 27 = .ok (.ireturn, 1) := by decide +kernel
theorem dX3_nearness_0 : decode cX3_nearness 0 = .ok (.iconst 0, 1) := by decide +kernel
theorem dX3_nearness_1 : decode cX3_nearness 1 = .ok (.istore_n 3, 1) := by decide +kernel
theorem dX3_nearness_2 : decode cX3_nearness 2 = .ok (.iload_n 3, 1) := by decide +kernel
theorem dX3_nearness_3 : decode cX3_nearness 3 = .ok (.bipush 40, 2) := by decide +kernel
theorem dX3_nearness_5 : decode cX3_nearness 5 = .ok (.if_icmp .ge 34, 3) := by decide +kernel
theorem dX3_nearness_8 : decode cX3_nearness 8 = .ok (.iload_n 1, 1) := by decide +kernel
theorem dX3_nearness_9 : decode cX3_nearness 9 = .ok (.iload_n 2, 1) := by decide +kernel
theorem dX3_nearness_10 : decode cX3_nearness 10 = .ok (.if_icmp .eq 29, 3) := by decide +kernel
theorem dX3_nearness_13 : decode cX3_nearness 13 = .ok (.iload_n 1, 1) := by decide +kernel
theorem dX3_nearness_14 : decode cX3_nearness 14 = .ok (.iload_n 2, 1) := by decide +kernel
theorem dX3_nearness_15 : decode cX3_nearness 15 = .ok (.if_icmp .le 12, 3) := by decide +kernel
theorem dX3_nearness_18 : decode cX3_nearness 18 = .ok (.aload_n 0, 1) := by decide +kernel
theorem dX3_nearness_19 : decode cX3_nearness 19 = .ok (.iload_n 1, 1) := by decide +kernel
theorem dX3_nearness_20 : decode cX3_nearness 20 = .ok (.invokevirtual 19, 3) := by decide +kernel
theorem dX3_nearness_23 : decode cX3_nearness 23 = .ok (.istore_n 1, 1) := by decide +kernel
theorem dX3_nearness_24 : decode cX3_nearness 24 = .ok (.goto 9, 3) := by decide +kernel
theorem dX3_nearness_27 : decode cX3_nearness 27 = .ok (.aload_n 0, 1) := by decide +kernel
theorem dX3_nearness_28 : decode cX3_nearness 28 = .ok (.iload_n 2, 1) := by decide +kernel
theorem dX3_nearness_29 : decode cX3_nearness 29 = .ok (.invokevirtual 19, 3) := by decide +kernel
theorem dX3_nearness_32 : decode cX3_nearness 32 = .ok (.istore_n 2, 1) := by decide +kernel
theorem dX3_nearness_33 : decode cX3_nearness 33 = .ok (.iinc 3 1, 3) := by decide +kernel
theorem dX3_nearness_36 : decode cX3_nearness 36 = .ok (.goto (-34), 3) := by decide +kernel
theorem dX3_nearness_39 : decode cX3_nearness 39 = .ok (.iload_n 1, 1) := by decide +kernel
theorem dX3_nearness_40 : decode cX3_nearness 40 = .ok (.iload_n 2, 1) := by decide +kernel
theorem dX3_nearness_41 : decode cX3_nearness 41 = .ok (.if_icmp .ne 12, 3) := by decide +kernel
theorem dX3_nearness_44 : decode cX3_nearness 44 = .ok (.iload_n 1, 1) := by decide +kernel
theorem dX3_nearness_45 : decode cX3_nearness 45 = .ok (.iconst (-1), 1) := by decide +kernel
theorem dX3_nearness_46 : decode cX3_nearness 46 = .ok (.if_icmp .eq 7, 3) := by decide +kernel
theorem dX3_nearness_49 : decode cX3_nearness 49 = .ok (.iload_n 3, 1) := by decide +kernel
theorem dX3_nearness_50 : decode cX3_nearness 50 = .ok (.goto 5, 3) := by decide +kernel
theorem dX3_nearness_53 : decode cX3_nearness 53 = .ok (.bipush (-4), 2) := by decide +kernel
theorem dX3_nearness_55 : decode cX3_nearness 55 = .ok (.ireturn, 1) := by decide +kernel
theorem dX3_heirOf_0 : decode cX3_heirOf 0 = .ok (.iconst 0, 1) := by decide +kernel
theorem dX3_heirOf_1 : decode cX3_heirOf 1 = .ok (.istore_n 2, 1) := by decide +kernel
theorem dX3_heirOf_2 : decode cX3_heirOf 2 = .ok (.iload_n 2, 1) := by decide +kernel
theorem dX3_heirOf_3 : decode cX3_heirOf 3 = .ok (.aload_n 0, 1) := by decide +kernel
theorem dX3_heirOf_4 : decode cX3_heirOf 4 = .ok (.invokevirtual 9, 3) := by decide +kernel
theorem dX3_heirOf_7 : decode cX3_heirOf 7 = .ok (.if_icmp .ge 36, 3) := by decide +kernel
theorem dX3_heirOf_10 : decode cX3_heirOf 10 = .ok (.aload_n 0, 1) := by decide +kernel
theorem dX3_heirOf_11 : decode cX3_heirOf 11 = .ok (.iload_n 2, 1) := by decide +kernel
theorem dX3_heirOf_12 : decode cX3_heirOf 12 = .ok (.invokevirtual 15, 3) := by decide +kernel
theorem dX3_heirOf_15 : decode cX3_heirOf 15 = .ok (.ifCond .eq 22, 3) := by decide +kernel
theorem dX3_heirOf_18 : decode cX3_heirOf 18 = .ok (.aload_n 0, 1) := by decide +kernel
theorem dX3_heirOf_19 : decode cX3_heirOf 19 = .ok (.iload_n 2, 1) := by decide +kernel
theorem dX3_heirOf_20 : decode cX3_heirOf 20 = .ok (.invokevirtual 19, 3) := by decide +kernel
theorem dX3_heirOf_23 : decode cX3_heirOf 23 = .ok (.iload_n 1, 1) := by decide +kernel
theorem dX3_heirOf_24 : decode cX3_heirOf 24 = .ok (.if_icmp .ne 13, 3) := by decide +kernel
theorem dX3_heirOf_27 : decode cX3_heirOf 27 = .ok (.aload_n 0, 1) := by decide +kernel
theorem dX3_heirOf_28 : decode cX3_heirOf 28 = .ok (.iload_n 2, 1) := by decide +kernel
theorem dX3_heirOf_29 : decode cX3_heirOf 29 = .ok (.invokevirtual 42, 3) := by decide +kernel
theorem dX3_heirOf_32 : decode cX3_heirOf 32 = .ok (.ifCond .ne 5, 3) := by decide +kernel
theorem dX3_heirOf_35 : decode cX3_heirOf 35 = .ok (.iload_n 2, 1) := by decide +kernel
theorem dX3_heirOf_36 : decode cX3_heirOf 36 = .ok (.ireturn, 1) := by decide +kernel
theorem dX3_heirOf_37 : decode cX3_heirOf 37 = .ok (.iinc 2 1, 3) := by decide +kernel
theorem dX3_heirOf_40 : decode cX3_heirOf 40 = .ok (.goto (-38), 3) := by decide +kernel
theorem dX3_heirOf_43 : decode cX3_heirOf 43 = .ok (.iconst (-1), 1) := by decide +kernel
theorem dX3_heirOf_44 : decode cX3_heirOf 44 = .ok (.ireturn, 1) := by decide +kernel
theorem dX4_init_0 : decode cX4_init 0 = .ok (.aload_n 0, 1) := by decide +kernel
theorem dX4_init_1 : decode cX4_init 1 = .ok (.invokespecial 3, 3) := by decide +kernel
theorem dX4_init_4 : decode cX4_init 4 = .ok (.aload_n 0, 1) := by decide +kernel
theorem dX4_init_5 : decode cX4_init 5 = .ok (.new 9, 3) := by decide +kernel
theorem dX4_init_8 : decode cX4_init 8 = .ok (.dup, 1) := by decide +kernel
theorem dX4_init_9 : decode cX4_init 9 = .ok (.invokespecial 11, 3) := by decide +kernel
theorem dX4_init_12 : decode cX4_init 12 = .ok (.putfield 12, 3) := by decide +kernel
theorem dX4_init_15 : decode cX4_init 15 = .ok (.aload_n 0, 1) := by decide +kernel
theorem dX4_init_16 : decode cX4_init 16 = .ok (.new 9, 3) := by decide +kernel
theorem dX4_init_19 : decode cX4_init 19 = .ok (.dup, 1) := by decide +kernel
theorem dX4_init_20 : decode cX4_init 20 = .ok (.invokespecial 11, 3) := by decide +kernel
theorem dX4_init_23 : decode cX4_init 23 = .ok (.putfield 18, 3) := by decide +kernel
theorem dX4_init_26 : decode cX4_init 26 = .ok (.aload_n 0, 1) := by decide +kernel
theorem dX4_init_27 : decode cX4_init 27 = .ok (.new 9, 3) := by decide +kernel
theorem dX4_init_30 : decode cX4_init 30 = .ok (.dup, 1) := by decide +kernel
theorem dX4_init_31 : decode cX4_init 31 = .ok (.invokespecial 11, 3) := by decide +kernel
theorem dX4_init_34 : decode cX4_init 34 = .ok (.putfield 21, 3) := by decide +kernel
theorem dX4_init_37 : decode cX4_init 37 = .ok (.return_, 1) := by decide +kernel
theorem dX4_fewest_0 : decode cX4_fewest 0 = .ok (.iload_n 2, 1) := by decide +kernel
theorem dX4_fewest_1 : decode cX4_fewest 1 = .ok (.iload_n 3, 1) := by decide +kernel
theorem dX4_fewest_2 : decode cX4_fewest 2 = .ok (.invokestatic 24, 3) := by decide +kernel
theorem dX4_fewest_5 : decode cX4_fewest 5 = .ok (.istore 4, 2) := by decide +kernel
theorem dX4_fewest_7 : decode cX4_fewest 7 = .ok (.iload 4, 2) := by decide +kernel
theorem dX4_fewest_9 : decode cX4_fewest 9 = .ok (.istore 5, 2) := by decide +kernel
theorem dX4_fewest_11 : decode cX4_fewest 11 = .ok (.iload 5, 2) := by decide +kernel
theorem dX4_fewest_13 : decode cX4_fewest 13 = .ok (.iload 4, 2) := by decide +kernel
theorem dX4_fewest_15 : decode cX4_fewest 15 = .ok (.iconst 2, 1) := by decide +kernel
theorem dX4_fewest_16 : decode cX4_fewest 16 = .ok (.iadd, 1) := by decide +kernel
theorem dX4_fewest_17 : decode cX4_fewest 17 = .ok (.if_icmp .gt 24, 3) := by decide +kernel
theorem dX4_fewest_20 : decode cX4_fewest 20 = .ok (.aload_n 0, 1) := by decide +kernel
theorem dX4_fewest_21 : decode cX4_fewest 21 = .ok (.aload_n 1, 1) := by decide +kernel
theorem dX4_fewest_22 : decode cX4_fewest 22 = .ok (.iload_n 2, 1) := by decide +kernel
theorem dX4_fewest_23 : decode cX4_fewest 23 = .ok (.iload_n 3, 1) := by decide +kernel
theorem dX4_fewest_24 : decode cX4_fewest 24 = .ok (.iload 5, 2) := by decide +kernel
theorem dX4_fewest_26 : decode cX4_fewest 26 = .ok (.invokevirtual 30, 3) := by decide +kernel
theorem dX4_fewest_29 : decode cX4_fewest 29 = .ok (.ifCond .eq 6, 3) := by decide +kernel
theorem dX4_fewest_32 : decode cX4_fewest 32 = .ok (.iload 5, 2) := by decide +kernel
theorem dX4_fewest_34 : decode cX4_fewest 34 = .ok (.ireturn, 1) := by decide +kernel
theorem dX4_fewest_35 : decode cX4_fewest 35 = .ok (.iinc 5 1, 3) := by decide +kernel
theorem dX4_fewest_38 : decode cX4_fewest 38 = .ok (.goto (-27), 3) := by decide +kernel
theorem dX4_fewest_41 : decode cX4_fewest 41 = .ok (.bipush (-4), 2) := by decide +kernel
theorem dX4_fewest_43 : decode cX4_fewest 43 = .ok (.ireturn, 1) := by decide +kernel
theorem dX4_reaches_0 : decode cX4_reaches 0 = .ok (.aload_n 0, 1) := by decide +kernel
theorem dX4_reaches_1 : decode cX4_reaches 1 = .ok (.getfield 12, 3) := by decide +kernel
theorem dX4_reaches_4 : decode cX4_reaches 4 = .ok (.invokevirtual 34, 3) := by decide +kernel
theorem dX4_reaches_7 : decode cX4_reaches 7 = .ok (.aload_n 0, 1) := by decide +kernel
theorem dX4_reaches_8 : decode cX4_reaches 8 = .ok (.getfield 18, 3) := by decide +kernel
theorem dX4_reaches_11 : decode cX4_reaches 11 = .ok (.invokevirtual 34, 3) := by decide +kernel
theorem dX4_reaches_14 : decode cX4_reaches 14 = .ok (.aload_n 0, 1) := by decide +kernel
theorem dX4_reaches_15 : decode cX4_reaches 15 = .ok (.getfield 12, 3) := by decide +kernel
theorem dX4_reaches_18 : decode cX4_reaches 18 = .ok (.iload_n 2, 1) := by decide +kernel
theorem dX4_reaches_19 : decode cX4_reaches 19 = .ok (.invokevirtual 37, 3) := by decide +kernel
theorem dX4_reaches_22 : decode cX4_reaches 22 = .ok (.aload_n 0, 1) := by decide +kernel
theorem dX4_reaches_23 : decode cX4_reaches 23 = .ok (.getfield 18, 3) := by decide +kernel
theorem dX4_reaches_26 : decode cX4_reaches 26 = .ok (.iload_n 2, 1) := by decide +kernel
theorem dX4_reaches_27 : decode cX4_reaches 27 = .ok (.invokevirtual 37, 3) := by decide +kernel
theorem dX4_reaches_30 : decode cX4_reaches 30 = .ok (.iconst 1, 1) := by decide +kernel
theorem dX4_reaches_31 : decode cX4_reaches 31 = .ok (.istore 5, 2) := by decide +kernel
theorem dX4_reaches_33 : decode cX4_reaches 33 = .ok (.iload 5, 2) := by decide +kernel
theorem dX4_reaches_35 : decode cX4_reaches 35 = .ok (.iload 4, 2) := by decide +kernel
theorem dX4_reaches_37 : decode cX4_reaches 37 = .ok (.if_icmp .gt 60, 3) := by decide +kernel
theorem dX4_reaches_40 : decode cX4_reaches 40 = .ok (.aload_n 0, 1) := by decide +kernel
theorem dX4_reaches_41 : decode cX4_reaches 41 = .ok (.getfield 21, 3) := by decide +kernel
theorem dX4_reaches_44 : decode cX4_reaches 44 = .ok (.invokevirtual 34, 3) := by decide +kernel
theorem dX4_reaches_47 : decode cX4_reaches 47 = .ok (.aload_n 0, 1) := by decide +kernel
theorem dX4_reaches_48 : decode cX4_reaches 48 = .ok (.aload_n 1, 1) := by decide +kernel
theorem dX4_reaches_49 : decode cX4_reaches 49 = .ok (.iload_n 3, 1) := by decide +kernel
theorem dX4_reaches_50 : decode cX4_reaches 50 = .ok (.iload 4, 2) := by decide +kernel
theorem dX4_reaches_52 : decode cX4_reaches 52 = .ok (.iload 5, 2) := by decide +kernel
theorem dX4_reaches_54 : decode cX4_reaches 54 = .ok (.isub, 1) := by decide +kernel
theorem dX4_reaches_55 : decode cX4_reaches 55 = .ok (.invokevirtual 41, 3) := by decide +kernel
theorem dX4_reaches_58 : decode cX4_reaches 58 = .ok (.aload_n 0, 1) := by decide +kernel
theorem dX4_reaches_59 : decode cX4_reaches 59 = .ok (.getfield 21, 3) := by decide +kernel
theorem dX4_reaches_62 : decode cX4_reaches 62 = .ok (.iload_n 3, 1) := by decide +kernel
theorem dX4_reaches_63 : decode cX4_reaches 63 = .ok (.invokevirtual 45, 3) := by decide +kernel
theorem dX4_reaches_66 : decode cX4_reaches 66 = .ok (.ifCond .eq 5, 3) := by decide +kernel
theorem dX4_reaches_69 : decode cX4_reaches 69 = .ok (.iconst 1, 1) := by decide +kernel
theorem dX4_reaches_70 : decode cX4_reaches 70 = .ok (.ireturn, 1) := by decide +kernel
theorem dX4_reaches_71 : decode cX4_reaches 71 = .ok (.aload_n 0, 1) := by decide +kernel
theorem dX4_reaches_72 : decode cX4_reaches 72 = .ok (.getfield 18, 3) := by decide +kernel
theorem dX4_reaches_75 : decode cX4_reaches 75 = .ok (.astore 6, 2) := by decide +kernel
theorem dX4_reaches_77 : decode cX4_reaches 77 = .ok (.aload_n 0, 1) := by decide +kernel
theorem dX4_reaches_78 : decode cX4_reaches 78 = .ok (.aload_n 0, 1) := by decide +kernel
theorem dX4_reaches_79 : decode cX4_reaches 79 = .ok (.getfield 21, 3) := by decide +kernel
theorem dX4_reaches_82 : decode cX4_reaches 82 = .ok (.putfield 18, 3) := by decide +kernel
theorem dX4_reaches_85 : decode cX4_reaches 85 = .ok (.aload_n 0, 1) := by decide +kernel
theorem dX4_reaches_86 : decode cX4_reaches 86 = .ok (.aload 6, 2) := by decide +kernel
theorem dX4_reaches_88 : decode cX4_reaches 88 = .ok (.putfield 21, 3) := by decide +kernel
theorem dX4_reaches_91 : decode cX4_reaches 91 = .ok (.iinc 5 1, 3) := by decide +kernel
theorem dX4_reaches_94 : decode cX4_reaches 94 = .ok (.goto (-61), 3) := by decide +kernel
theorem dX4_reaches_97 : decode cX4_reaches 97 = .ok (.iconst 0, 1) := by decide +kernel
theorem dX4_reaches_98 : decode cX4_reaches 98 = .ok (.ireturn, 1) := by decide +kernel
theorem dX4_goOn_0 : decode cX4_goOn 0 = .ok (.iconst 0, 1) := by decide +kernel
theorem dX4_goOn_1 : decode cX4_goOn 1 = .ok (.istore 4, 2) := by decide +kernel
theorem dX4_goOn_3 : decode cX4_goOn 3 = .ok (.iload 4, 2) := by decide +kernel
theorem dX4_goOn_5 : decode cX4_goOn 5 = .ok (.sipush 245, 3) := by decide +kernel
theorem dX4_goOn_8 : decode cX4_goOn 8 = .ok (.if_icmp .ge 71, 3) := by decide +kernel
theorem dX4_goOn_11 : decode cX4_goOn 11 = .ok (.aload_n 0, 1) := by decide +kernel
theorem dX4_goOn_12 : decode cX4_goOn 12 = .ok (.getfield 18, 3) := by decide +kernel
theorem dX4_goOn_15 : decode cX4_goOn 15 = .ok (.iload 4, 2) := by decide +kernel
theorem dX4_goOn_17 : decode cX4_goOn 17 = .ok (.invokevirtual 49, 3) := by decide +kernel
theorem dX4_goOn_20 : decode cX4_goOn 20 = .ok (.ifCond .eq 6, 3) := by decide +kernel
theorem dX4_goOn_23 : decode cX4_goOn 23 = .ok (.goto 50, 3) := by decide +kernel
theorem dX4_goOn_26 : decode cX4_goOn 26 = .ok (.iload 4, 2) := by decide +kernel
theorem dX4_goOn_28 : decode cX4_goOn 28 = .ok (.bipush 64, 2) := by decide +kernel
theorem dX4_goOn_30 : decode cX4_goOn 30 = .ok (.imul, 1) := by decide +kernel
theorem dX4_goOn_31 : decode cX4_goOn 31 = .ok (.istore 5, 2) := by decide +kernel
theorem dX4_goOn_33 : decode cX4_goOn 33 = .ok (.iload 5, 2) := by decide +kernel
theorem dX4_goOn_35 : decode cX4_goOn 35 = .ok (.iload 4, 2) := by decide +kernel
theorem dX4_goOn_37 : decode cX4_goOn 37 = .ok (.bipush 64, 2) := by decide +kernel
theorem dX4_goOn_39 : decode cX4_goOn 39 = .ok (.imul, 1) := by decide +kernel
theorem dX4_goOn_40 : decode cX4_goOn 40 = .ok (.bipush 64, 2) := by decide +kernel
theorem dX4_goOn_42 : decode cX4_goOn 42 = .ok (.iadd, 1) := by decide +kernel
theorem dX4_goOn_43 : decode cX4_goOn 43 = .ok (.if_icmp .ge 30, 3) := by decide +kernel
theorem dX4_goOn_46 : decode cX4_goOn 46 = .ok (.aload_n 0, 1) := by decide +kernel
theorem dX4_goOn_47 : decode cX4_goOn 47 = .ok (.getfield 18, 3) := by decide +kernel
theorem dX4_goOn_50 : decode cX4_goOn 50 = .ok (.iload 5, 2) := by decide +kernel
theorem dX4_goOn_52 : decode cX4_goOn 52 = .ok (.invokevirtual 45, 3) := by decide +kernel
theorem dX4_goOn_55 : decode cX4_goOn 55 = .ok (.ifCond .eq 12, 3) := by decide +kernel
theorem dX4_goOn_58 : decode cX4_goOn 58 = .ok (.aload_n 0, 1) := by decide +kernel
theorem dX4_goOn_59 : decode cX4_goOn 59 = .ok (.aload_n 1, 1) := by decide +kernel
theorem dX4_goOn_60 : decode cX4_goOn 60 = .ok (.iload 5, 2) := by decide +kernel
theorem dX4_goOn_62 : decode cX4_goOn 62 = .ok (.iload_n 2, 1) := by decide +kernel
theorem dX4_goOn_63 : decode cX4_goOn 63 = .ok (.iload_n 3, 1) := by decide +kernel
theorem dX4_goOn_64 : decode cX4_goOn 64 = .ok (.invokevirtual 52, 3) := by decide +kernel
theorem dX4_goOn_67 : decode cX4_goOn 67 = .ok (.iinc 5 1, 3) := by decide +kernel
theorem dX4_goOn_70 : decode cX4_goOn 70 = .ok (.goto (-37), 3) := by decide +kernel
theorem dX4_goOn_73 : decode cX4_goOn 73 = .ok (.iinc 4 1, 3) := by decide +kernel
theorem dX4_goOn_76 : decode cX4_goOn 76 = .ok (.goto (-73), 3) := by decide +kernel
theorem dX4_goOn_79 : decode cX4_goOn 79 = .ok (.return_, 1) := by decide +kernel
theorem dX4_goOnFrom_0 : decode cX4_goOnFrom 0 = .ok (.iconst 0, 1) := by decide +kernel
theorem dX4_goOnFrom_1 : decode cX4_goOnFrom 1 = .ok (.istore 5, 2) := by decide +kernel
theorem dX4_goOnFrom_3 : decode cX4_goOnFrom 3 = .ok (.iload 5, 2) := by decide +kernel
theorem dX4_goOnFrom_5 : decode cX4_goOnFrom 5 = .ok (.bipush 30, 2) := by decide +kernel
theorem dX4_goOnFrom_7 : decode cX4_goOnFrom 7 = .ok (.if_icmp .ge 83, 3) := by decide +kernel
theorem dX4_goOnFrom_10 : decode cX4_goOnFrom 10 = .ok (.iload_n 2, 1) := by decide +kernel
theorem dX4_goOnFrom_11 : decode cX4_goOnFrom 11 = .ok (.iload 5, 2) := by decide +kernel
theorem dX4_goOnFrom_13 : decode cX4_goOnFrom 13 = .ok (.iconst 5, 1) := by decide +kernel
theorem dX4_goOnFrom_14 : decode cX4_goOnFrom 14 = .ok (.idiv, 1) := by decide +kernel
theorem dX4_goOnFrom_15 : decode cX4_goOnFrom 15 = .ok (.iload 5, 2) := by decide +kernel
theorem dX4_goOnFrom_17 : decode cX4_goOnFrom 17 = .ok (.iconst 5, 1) := by decide +kernel
theorem dX4_goOnFrom_18 : decode cX4_goOnFrom 18 = .ok (.irem, 1) := by decide +kernel
theorem dX4_goOnFrom_19 : decode cX4_goOnFrom 19 = .ok (.invokestatic 56, 3) := by decide +kernel
theorem dX4_goOnFrom_22 : decode cX4_goOnFrom 22 = .ok (.istore 6, 2) := by decide +kernel
theorem dX4_goOnFrom_24 : decode cX4_goOnFrom 24 = .ok (.iload 6, 2) := by decide +kernel
theorem dX4_goOnFrom_26 : decode cX4_goOnFrom 26 = .ok (.iload_n 3, 1) := by decide +kernel
theorem dX4_goOnFrom_27 : decode cX4_goOnFrom 27 = .ok (.invokestatic 24, 3) := by decide +kernel
theorem dX4_goOnFrom_30 : decode cX4_goOnFrom 30 = .ok (.iload 4, 2) := by decide +kernel
theorem dX4_goOnFrom_32 : decode cX4_goOnFrom 32 = .ok (.if_icmp .gt 52, 3) := by decide +kernel
theorem dX4_goOnFrom_35 : decode cX4_goOnFrom 35 = .ok (.aload_n 0, 1) := by decide +kernel
theorem dX4_goOnFrom_36 : decode cX4_goOnFrom 36 = .ok (.getfield 12, 3) := by decide +kernel
theorem dX4_goOnFrom_39 : decode cX4_goOnFrom 39 = .ok (.iload 6, 2) := by decide +kernel
theorem dX4_goOnFrom_41 : decode cX4_goOnFrom 41 = .ok (.invokevirtual 45, 3) := by decide +kernel
theorem dX4_goOnFrom_44 : decode cX4_goOnFrom 44 = .ok (.ifCond .eq 6, 3) := by decide +kernel
theorem dX4_goOnFrom_47 : decode cX4_goOnFrom 47 = .ok (.goto 37, 3) := by decide +kernel
theorem dX4_goOnFrom_50 : decode cX4_goOnFrom 50 = .ok (.iload 6, 2) := by decide +kernel
theorem dX4_goOnFrom_52 : decode cX4_goOnFrom 52 = .ok (.iload_n 3, 1) := by decide +kernel
theorem dX4_goOnFrom_53 : decode cX4_goOnFrom 53 = .ok (.if_icmp .eq 13, 3) := by decide +kernel
theorem dX4_goOnFrom_56 : decode cX4_goOnFrom 56 = .ok (.aload_n 1, 1) := by decide +kernel
theorem dX4_goOnFrom_57 : decode cX4_goOnFrom 57 = .ok (.iload 6, 2) := by decide +kernel
theorem dX4_goOnFrom_59 : decode cX4_goOnFrom 59 = .ok (.invokevirtual 60, 3) := by decide +kernel
theorem dX4_goOnFrom_62 : decode cX4_goOnFrom 62 = .ok (.iconst (-1), 1) := by decide +kernel
theorem dX4_goOnFrom_63 : decode cX4_goOnFrom 63 = .ok (.if_icmp .ne 21, 3) := by decide +kernel
theorem dX4_goOnFrom_66 : decode cX4_goOnFrom 66 = .ok (.aload_n 0, 1) := by decide +kernel
theorem dX4_goOnFrom_67 : decode cX4_goOnFrom 67 = .ok (.getfield 12, 3) := by decide +kernel
theorem dX4_goOnFrom_70 : decode cX4_goOnFrom 70 = .ok (.iload 6, 2) := by decide +kernel
theorem dX4_goOnFrom_72 : decode cX4_goOnFrom 72 = .ok (.invokevirtual 37, 3) := by decide +kernel
theorem dX4_goOnFrom_75 : decode cX4_goOnFrom 75 = .ok (.aload_n 0, 1) := by decide +kernel
theorem dX4_goOnFrom_76 : decode cX4_goOnFrom 76 = .ok (.getfield 21, 3) := by decide +kernel
theorem dX4_goOnFrom_79 : decode cX4_goOnFrom 79 = .ok (.iload 6, 2) := by decide +kernel
theorem dX4_goOnFrom_81 : decode cX4_goOnFrom 81 = .ok (.invokevirtual 37, 3) := by decide +kernel
theorem dX4_goOnFrom_84 : decode cX4_goOnFrom 84 = .ok (.iinc 5 1, 3) := by decide +kernel
theorem dX4_goOnFrom_87 : decode cX4_goOnFrom 87 = .ok (.goto (-84), 3) := by decide +kernel
theorem dX4_goOnFrom_90 : decode cX4_goOnFrom 90 = .ok (.return_, 1) := by decide +kernel
theorem dX5_init_0 : decode cX5_init 0 = .ok (.aload_n 0, 1) := by decide +kernel
theorem dX5_init_1 : decode cX5_init 1 = .ok (.invokespecial 3, 3) := by decide +kernel
theorem dX5_init_4 : decode cX5_init 4 = .ok (.aload_n 0, 1) := by decide +kernel
theorem dX5_init_5 : decode cX5_init 5 = .ok (.bipush 60, 2) := by decide +kernel
theorem dX5_init_7 : decode cX5_init 7 = .ok (.newarray .int, 2) := by decide +kernel
theorem dX5_init_9 : decode cX5_init 9 = .ok (.putfield 11, 3) := by decide +kernel
theorem dX5_init_12 : decode cX5_init 12 = .ok (.aload_n 0, 1) := by decide +kernel
theorem dX5_init_13 : decode cX5_init 13 = .ok (.iconst 0, 1) := by decide +kernel
theorem dX5_init_14 : decode cX5_init 14 = .ok (.putfield 15, 3) := by decide +kernel
theorem dX5_init_17 : decode cX5_init 17 = .ok (.return_, 1) := by decide +kernel
theorem dX5_length_0 : decode cX5_length 0 = .ok (.aload_n 0, 1) := by decide +kernel
theorem dX5_length_1 : decode cX5_length 1 = .ok (.getfield 15, 3) := by decide +kernel
theorem dX5_length_4 : decode cX5_length 4 = .ok (.ireturn, 1) := by decide +kernel
theorem dX5_isFull_0 : decode cX5_isFull 0 = .ok (.aload_n 0, 1) := by decide +kernel
theorem dX5_isFull_1 : decode cX5_isFull 1 = .ok (.getfield 15, 3) := by decide +kernel
theorem dX5_isFull_4 : decode cX5_isFull 4 = .ok (.bipush 60, 2) := by decide +kernel
theorem dX5_isFull_6 : decode cX5_isFull 6 = .ok (.if_icmp .lt 7, 3) := by decide +kernel
theorem dX5_isFull_9 : decode cX5_isFull 9 = .ok (.iconst 1, 1) := by decide +kernel
theorem dX5_isFull_10 : decode cX5_isFull 10 = .ok (.goto 4, 3) := by decide +kernel
theorem dX5_isFull_13 : decode cX5_isFull 13 = .ok (.iconst 0, 1) := by decide +kernel
theorem dX5_isFull_14 : decode cX5_isFull 14 = .ok (.ireturn, 1) := by decide +kernel
theorem dX5_put_0 : decode cX5_put 0 = .ok (.aload_n 0, 1) := by decide +kernel
theorem dX5_put_1 : decode cX5_put 1 = .ok (.getfield 15, 3) := by decide +kernel
theorem dX5_put_4 : decode cX5_put 4 = .ok (.ifCond .lt 32, 3) := by decide +kernel
theorem dX5_put_7 : decode cX5_put 7 = .ok (.aload_n 0, 1) := by decide +kernel
theorem dX5_put_8 : decode cX5_put 8 = .ok (.getfield 15, 3) := by decide +kernel
theorem dX5_put_11 : decode cX5_put 11 = .ok (.bipush 60, 2) := by decide +kernel
theorem dX5_put_13 : decode cX5_put 13 = .ok (.if_icmp .ge 23, 3) := by decide +kernel
theorem dX5_put_16 : decode cX5_put 16 = .ok (.aload_n 0, 1) := by decide +kernel
theorem dX5_put_17 : decode cX5_put 17 = .ok (.getfield 11, 3) := by decide +kernel
theorem dX5_put_20 : decode cX5_put 20 = .ok (.aload_n 0, 1) := by decide +kernel
theorem dX5_put_21 : decode cX5_put 21 = .ok (.getfield 15, 3) := by decide +kernel
theorem dX5_put_24 : decode cX5_put 24 = .ok (.iload_n 1, 1) := by decide +kernel
theorem dX5_put_25 : decode cX5_put 25 = .ok (.iastore, 1) := by decide +kernel
theorem dX5_put_26 : decode cX5_put 26 = .ok (.aload_n 0, 1) := by decide +kernel
theorem dX5_put_27 : decode cX5_put 27 = .ok (.dup, 1) := by decide +kernel
theorem dX5_put_28 : decode cX5_put 28 = .ok (.getfield 15, 3) := by decide +kernel
theorem dX5_put_31 : decode cX5_put 31 = .ok (.iconst 1, 1) := by decide +kernel
theorem dX5_put_32 : decode cX5_put 32 = .ok (.iadd, 1) := by decide +kernel
theorem dX5_put_33 : decode cX5_put 33 = .ok (.putfield 15, 3) := by decide +kernel
theorem dX5_put_36 : decode cX5_put 36 = .ok (.return_, 1) := by decide +kernel
theorem dX5_empty_0 : decode cX5_empty 0 = .ok (.aload_n 0, 1) := by decide +kernel
theorem dX5_empty_1 : decode cX5_empty 1 = .ok (.iconst 0, 1) := by decide +kernel
theorem dX5_empty_2 : decode cX5_empty 2 = .ok (.putfield 15, 3) := by decide +kernel
theorem dX5_empty_5 : decode cX5_empty 5 = .ok (.return_, 1) := by decide +kernel
theorem dX5_signAt_0 : decode cX5_signAt 0 = .ok (.iload_n 1, 1) := by decide +kernel
theorem dX5_signAt_1 : decode cX5_signAt 1 = .ok (.ifCond .lt 26, 3) := by decide +kernel
theorem dX5_signAt_4 : decode cX5_signAt 4 = .ok (.iload_n 1, 1) := by decide +kernel
theorem dX5_signAt_5 : decode cX5_signAt 5 = .ok (.aload_n 0, 1) := by decide +kernel
theorem dX5_signAt_6 : decode cX5_signAt 6 = .ok (.getfield 15, 3) := by decide +kernel
theorem dX5_signAt_9 : decode cX5_signAt 9 = .ok (.if_icmp .ge 18, 3) := by decide +kernel
theorem dX5_signAt_12 : decode cX5_signAt 12 = .ok (.iload_n 1, 1) := by decide +kernel
theorem dX5_signAt_13 : decode cX5_signAt 13 = .ok (.bipush 60, 2) := by decide +kernel
theorem dX5_signAt_15 : decode cX5_signAt 15 = .ok (.if_icmp .ge 12, 3) := by decide +kernel
theorem dX5_signAt_18 : decode cX5_signAt 18 = .ok (.aload_n 0, 1) := by decide +kernel
theorem dX5_signAt_19 : decode cX5_signAt 19 = .ok (.getfield 11, 3) := by decide +kernel
theorem dX5_signAt_22 : decode cX5_signAt 22 = .ok (.iload_n 1, 1) := by decide +kernel
theorem dX5_signAt_23 : decode cX5_signAt 23 = .ok (.iaload, 1) := by decide +kernel
theorem dX5_signAt_24 : decode cX5_signAt 24 = .ok (.goto 4, 3) := by decide +kernel
theorem dX5_signAt_27 : decode cX5_signAt 27 = .ok (.iconst 0, 1) := by decide +kernel
theorem dX5_signAt_28 : decode cX5_signAt 28 = .ok (.ireturn, 1) := by decide +kernel
theorem dX5_startsDeed_0 : decode cX5_startsDeed 0 = .ok (.iload_n 1, 1) := by decide +kernel
theorem dX5_startsDeed_1 : decode cX5_startsDeed 1 = .ok (.ifCond .eq 15, 3) := by decide +kernel
theorem dX5_startsDeed_4 : decode cX5_startsDeed 4 = .ok (.aload_n 0, 1) := by decide +kernel
theorem dX5_startsDeed_5 : decode cX5_startsDeed 5 = .ok (.iload_n 1, 1) := by decide +kernel
theorem dX5_startsDeed_6 : decode cX5_startsDeed 6 = .ok (.iconst 1, 1) := by decide +kernel
theorem dX5_startsDeed_7 : decode cX5_startsDeed 7 = .ok (.isub, 1) := by decide +kernel
theorem dX5_startsDeed_8 : decode cX5_startsDeed 8 = .ok (.invokevirtual 19, 3) := by decide +kernel
theorem dX5_startsDeed_11 : decode cX5_startsDeed 11 = .ok (.bipush 59, 2) := by decide +kernel
theorem dX5_startsDeed_13 : decode cX5_startsDeed 13 = .ok (.if_icmp .ne 7, 3) := by decide +kernel
theorem dX5_startsDeed_16 : decode cX5_startsDeed 16 = .ok (.iconst 1, 1) := by decide +kernel
theorem dX5_startsDeed_17 : decode cX5_startsDeed 17 = .ok (.goto 4, 3) := by decide +kernel
theorem dX5_startsDeed_20 : decode cX5_startsDeed 20 = .ok (.iconst 0, 1) := by decide +kernel
theorem dX5_startsDeed_21 : decode cX5_startsDeed 21 = .ok (.ireturn, 1) := by decide +kernel
end
section
theorem dX5_digitAt_0 : decode cX5_digitAt 0 = .ok (.aload_n 0, 1) := by decide +kernel
theorem dX5_digitAt_1 : decode cX5_digitAt 1 = .ok (.iload_n 1, 1) := by decide +kernel
theorem dX5_digitAt_2 : decode cX5_digitAt 2 = .ok (.invokevirtual 19, 3) := by decide +kernel
theorem dX5_digitAt_5 : decode cX5_digitAt 5 = .ok (.bipush 48, 2) := by decide +kernel
theorem dX5_digitAt_7 : decode cX5_digitAt 7 = .ok (.isub, 1) := by decide +kernel
theorem dX5_digitAt_8 : decode cX5_digitAt 8 = .ok (.ireturn, 1) := by decide +kernel
theorem dX5_afterNumber_0 : decode cX5_afterNumber 0 = .ok (.aload_n 0, 1) := by decide +kernel
theorem dX5_afterNumber_1 : decode cX5_afterNumber 1 = .ok (.iload_n 1, 1) := by decide +kernel
theorem dX5_afterNumber_2 : decode cX5_afterNumber 2 = .ok (.iconst 1, 1) := by decide +kernel
theorem dX5_afterNumber_3 : decode cX5_afterNumber 3 = .ok (.iadd, 1) := by decide +kernel
theorem dX5_afterNumber_4 : decode cX5_afterNumber 4 = .ok (.invokevirtual 19, 3) := by decide +kernel
theorem dX5_afterNumber_7 : decode cX5_afterNumber 7 = .ok (.bipush 48, 2) := by decide +kernel
theorem dX5_afterNumber_9 : decode cX5_afterNumber 9 = .ok (.bipush 57, 2) := by decide +kernel
theorem dX5_afterNumber_11 : decode cX5_afterNumber 11 = .ok (.invokestatic 23, 3) := by decide +kernel
theorem dX5_afterNumber_14 : decode cX5_afterNumber 14 = .ok (.ifCond .eq 9, 3) := by decide +kernel
theorem dX5_afterNumber_17 : decode cX5_afterNumber 17 = .ok (.iload_n 1, 1) := by decide +kernel
theorem dX5_afterNumber_18 : decode cX5_afterNumber 18 = .ok (.iconst 2, 1) := by decide +kernel
theorem dX5_afterNumber_19 : decode cX5_afterNumber 19 = .ok (.iadd, 1) := by decide +kernel
theorem dX5_afterNumber_20 : decode cX5_afterNumber 20 = .ok (.goto 6, 3) := by decide +kernel
theorem dX5_afterNumber_23 : decode cX5_afterNumber 23 = .ok (.iload_n 1, 1) := by decide +kernel
theorem dX5_afterNumber_24 : decode cX5_afterNumber 24 = .ok (.iconst 1, 1) := by decide +kernel
theorem dX5_afterNumber_25 : decode cX5_afterNumber 25 = .ok (.iadd, 1) := by decide +kernel
theorem dX5_afterNumber_26 : decode cX5_afterNumber 26 = .ok (.ireturn, 1) := by decide +kernel
theorem dX5_numberAt_0 : decode cX5_numberAt 0 = .ok (.aload_n 0, 1) := by decide +kernel
theorem dX5_numberAt_1 : decode cX5_numberAt 1 = .ok (.iload_n 1, 1) := by decide +kernel
theorem dX5_numberAt_2 : decode cX5_numberAt 2 = .ok (.iconst 1, 1) := by decide +kernel
theorem dX5_numberAt_3 : decode cX5_numberAt 3 = .ok (.iadd, 1) := by decide +kernel
theorem dX5_numberAt_4 : decode cX5_numberAt 4 = .ok (.invokevirtual 19, 3) := by decide +kernel
theorem dX5_numberAt_7 : decode cX5_numberAt 7 = .ok (.bipush 48, 2) := by decide +kernel
theorem dX5_numberAt_9 : decode cX5_numberAt 9 = .ok (.bipush 57, 2) := by decide +kernel
theorem dX5_numberAt_11 : decode cX5_numberAt 11 = .ok (.invokestatic 23, 3) := by decide +kernel
theorem dX5_numberAt_14 : decode cX5_numberAt 14 = .ok (.ifCond .eq 22, 3) := by decide +kernel
theorem dX5_numberAt_17 : decode cX5_numberAt 17 = .ok (.bipush 10, 2) := by decide +kernel
theorem dX5_numberAt_19 : decode cX5_numberAt 19 = .ok (.aload_n 0, 1) := by decide +kernel
theorem dX5_numberAt_20 : decode cX5_numberAt 20 = .ok (.iload_n 1, 1) := by decide +kernel
theorem dX5_numberAt_21 : decode cX5_numberAt 21 = .ok (.invokevirtual 27, 3) := by decide +kernel
theorem dX5_numberAt_24 : decode cX5_numberAt 24 = .ok (.imul, 1) := by decide +kernel
theorem dX5_numberAt_25 : decode cX5_numberAt 25 = .ok (.aload_n 0, 1) := by decide +kernel
theorem dX5_numberAt_26 : decode cX5_numberAt 26 = .ok (.iload_n 1, 1) := by decide +kernel
theorem dX5_numberAt_27 : decode cX5_numberAt 27 = .ok (.iconst 1, 1) := by decide +kernel
theorem dX5_numberAt_28 : decode cX5_numberAt 28 = .ok (.iadd, 1) := by decide +kernel
theorem dX5_numberAt_29 : decode cX5_numberAt 29 = .ok (.invokevirtual 27, 3) := by decide +kernel
theorem dX5_numberAt_32 : decode cX5_numberAt 32 = .ok (.iadd, 1) := by decide +kernel
theorem dX5_numberAt_33 : decode cX5_numberAt 33 = .ok (.goto 8, 3) := by decide +kernel
theorem dX5_numberAt_36 : decode cX5_numberAt 36 = .ok (.aload_n 0, 1) := by decide +kernel
theorem dX5_numberAt_37 : decode cX5_numberAt 37 = .ok (.iload_n 1, 1) := by decide +kernel
theorem dX5_numberAt_38 : decode cX5_numberAt 38 = .ok (.invokevirtual 27, 3) := by decide +kernel
theorem dX5_numberAt_41 : decode cX5_numberAt 41 = .ok (.ireturn, 1) := by decide +kernel
theorem dX5_shieldAt_0 : decode cX5_shieldAt 0 = .ok (.iconst 0, 1) := by decide +kernel
theorem dX5_shieldAt_1 : decode cX5_shieldAt 1 = .ok (.istore_n 2, 1) := by decide +kernel
theorem dX5_shieldAt_2 : decode cX5_shieldAt 2 = .ok (.iconst 0, 1) := by decide +kernel
theorem dX5_shieldAt_3 : decode cX5_shieldAt 3 = .ok (.istore_n 3, 1) := by decide +kernel
theorem dX5_shieldAt_4 : decode cX5_shieldAt 4 = .ok (.iload_n 3, 1) := by decide +kernel
theorem dX5_shieldAt_5 : decode cX5_shieldAt 5 = .ok (.bipush 6, 2) := by decide +kernel
theorem dX5_shieldAt_7 : decode cX5_shieldAt 7 = .ok (.if_icmp .ge 24, 3) := by decide +kernel
theorem dX5_shieldAt_10 : decode cX5_shieldAt 10 = .ok (.iload_n 2, 1) := by decide +kernel
theorem dX5_shieldAt_11 : decode cX5_shieldAt 11 = .ok (.aload_n 0, 1) := by decide +kernel
theorem dX5_shieldAt_12 : decode cX5_shieldAt 12 = .ok (.iload_n 1, 1) := by decide +kernel
theorem dX5_shieldAt_13 : decode cX5_shieldAt 13 = .ok (.iload_n 3, 1) := by decide +kernel
theorem dX5_shieldAt_14 : decode cX5_shieldAt 14 = .ok (.iadd, 1) := by decide +kernel
theorem dX5_shieldAt_15 : decode cX5_shieldAt 15 = .ok (.invokevirtual 27, 3) := by decide +kernel
theorem dX5_shieldAt_18 : decode cX5_shieldAt 18 = .ok (.iload_n 3, 1) := by decide +kernel
theorem dX5_shieldAt_19 : decode cX5_shieldAt 19 = .ok (.invokestatic 30, 3) := by decide +kernel
theorem dX5_shieldAt_22 : decode cX5_shieldAt 22 = .ok (.imul, 1) := by decide +kernel
theorem dX5_shieldAt_23 : decode cX5_shieldAt 23 = .ok (.iadd, 1) := by decide +kernel
theorem dX5_shieldAt_24 : decode cX5_shieldAt 24 = .ok (.istore_n 2, 1) := by decide +kernel
theorem dX5_shieldAt_25 : decode cX5_shieldAt 25 = .ok (.iinc 3 1, 3) := by decide +kernel
theorem dX5_shieldAt_28 : decode cX5_shieldAt 28 = .ok (.goto (-24), 3) := by decide +kernel
theorem dX5_shieldAt_31 : decode cX5_shieldAt 31 = .ok (.iload_n 2, 1) := by decide +kernel
theorem dX5_shieldAt_32 : decode cX5_shieldAt 32 = .ok (.ireturn, 1) := by decide +kernel
theorem dX5_firstFault_0 : decode cX5_firstFault 0 = .ok (.bipush 7, 2) := by decide +kernel
theorem dX5_firstFault_2 : decode cX5_firstFault 2 = .ok (.istore_n 1, 1) := by decide +kernel
theorem dX5_firstFault_3 : decode cX5_firstFault 3 = .ok (.iconst 0, 1) := by decide +kernel
theorem dX5_firstFault_4 : decode cX5_firstFault 4 = .ok (.istore_n 2, 1) := by decide +kernel
theorem dX5_firstFault_5 : decode cX5_firstFault 5 = .ok (.iload_n 2, 1) := by decide +kernel
theorem dX5_firstFault_6 : decode cX5_firstFault 6 = .ok (.aload_n 0, 1) := by decide +kernel
theorem dX5_firstFault_7 : decode cX5_firstFault 7 = .ok (.getfield 15, 3) := by decide +kernel
theorem dX5_firstFault_10 : decode cX5_firstFault 10 = .ok (.if_icmp .ge 26, 3) := by decide +kernel
theorem dX5_firstFault_13 : decode cX5_firstFault 13 = .ok (.iload_n 1, 1) := by decide +kernel
theorem dX5_firstFault_14 : decode cX5_firstFault 14 = .ok (.aload_n 0, 1) := by decide +kernel
theorem dX5_firstFault_15 : decode cX5_firstFault 15 = .ok (.iload_n 2, 1) := by decide +kernel
theorem dX5_firstFault_16 : decode cX5_firstFault 16 = .ok (.invokevirtual 19, 3) := by decide +kernel
theorem dX5_firstFault_19 : decode cX5_firstFault 19 = .ok (.invokestatic 35, 3) := by decide +kernel
theorem dX5_firstFault_22 : decode cX5_firstFault 22 = .ok (.istore_n 1, 1) := by decide +kernel
theorem dX5_firstFault_23 : decode cX5_firstFault 23 = .ok (.iload_n 1, 1) := by decide +kernel
theorem dX5_firstFault_24 : decode cX5_firstFault 24 = .ok (.iconst (-1), 1) := by decide +kernel
theorem dX5_firstFault_25 : decode cX5_firstFault 25 = .ok (.if_icmp .ne 5, 3) := by decide +kernel
theorem dX5_firstFault_28 : decode cX5_firstFault 28 = .ok (.iload_n 2, 1) := by decide +kernel
theorem dX5_firstFault_29 : decode cX5_firstFault 29 = .ok (.ireturn, 1) := by decide +kernel
theorem dX5_firstFault_30 : decode cX5_firstFault 30 = .ok (.iinc 2 1, 3) := by decide +kernel
theorem dX5_firstFault_33 : decode cX5_firstFault 33 = .ok (.goto (-28), 3) := by decide +kernel
theorem dX5_firstFault_36 : decode cX5_firstFault 36 = .ok (.iload_n 1, 1) := by decide +kernel
theorem dX5_firstFault_37 : decode cX5_firstFault 37 = .ok (.ifCond .eq 9, 3) := by decide +kernel
theorem dX5_firstFault_40 : decode cX5_firstFault 40 = .ok (.iload_n 1, 1) := by decide +kernel
theorem dX5_firstFault_41 : decode cX5_firstFault 41 = .ok (.bipush 14, 2) := by decide +kernel
theorem dX5_firstFault_43 : decode cX5_firstFault 43 = .ok (.if_icmp .ne 8, 3) := by decide +kernel
theorem dX5_firstFault_46 : decode cX5_firstFault 46 = .ok (.bipush (-4), 2) := by decide +kernel
theorem dX5_firstFault_48 : decode cX5_firstFault 48 = .ok (.goto 7, 3) := by decide +kernel
theorem dX5_firstFault_51 : decode cX5_firstFault 51 = .ok (.aload_n 0, 1) := by decide +kernel
theorem dX5_firstFault_52 : decode cX5_firstFault 52 = .ok (.getfield 15, 3) := by decide +kernel
theorem dX5_firstFault_55 : decode cX5_firstFault 55 = .ok (.ireturn, 1) := by decide +kernel
theorem dX5_stateAfter_0 : decode cX5_stateAfter 0 = .ok (.iload_n 0, 1) := by decide +kernel
theorem dX5_stateAfter_1 : decode cX5_stateAfter 1 = .ok (.tableswitch 178 0 14 #[75, 178, 178, 178, 178, 178, 178, 80, 85, 94, 115, 120, 138, 150, 158], 75) := by decide +kernel
theorem dX5_stateAfter_76 : decode cX5_stateAfter 76 = .ok (.iload_n 1, 1) := by decide +kernel
theorem dX5_stateAfter_77 : decode cX5_stateAfter 77 = .ok (.invokestatic 39, 3) := by decide +kernel
theorem dX5_stateAfter_80 : decode cX5_stateAfter 80 = .ok (.ireturn, 1) := by decide +kernel
theorem dX5_stateAfter_81 : decode cX5_stateAfter 81 = .ok (.iload_n 1, 1) := by decide +kernel
theorem dX5_stateAfter_82 : decode cX5_stateAfter 82 = .ok (.invokestatic 42, 3) := by decide +kernel
theorem dX5_stateAfter_85 : decode cX5_stateAfter 85 = .ok (.ireturn, 1) := by decide +kernel
theorem dX5_stateAfter_86 : decode cX5_stateAfter 86 = .ok (.iload_n 1, 1) := by decide +kernel
theorem dX5_stateAfter_87 : decode cX5_stateAfter 87 = .ok (.bipush 9, 2) := by decide +kernel
theorem dX5_stateAfter_89 : decode cX5_stateAfter 89 = .ok (.bipush 10, 2) := by decide +kernel
theorem dX5_stateAfter_91 : decode cX5_stateAfter 91 = .ok (.invokestatic 45, 3) := by decide +kernel
theorem dX5_stateAfter_94 : decode cX5_stateAfter 94 = .ok (.ireturn, 1) := by decide +kernel
theorem dX5_stateAfter_95 : decode cX5_stateAfter 95 = .ok (.iload_n 1, 1) := by decide +kernel
theorem dX5_stateAfter_96 : decode cX5_stateAfter 96 = .ok (.bipush 48, 2) := by decide +kernel
theorem dX5_stateAfter_98 : decode cX5_stateAfter 98 = .ok (.bipush 57, 2) := by decide +kernel
theorem dX5_stateAfter_100 : decode cX5_stateAfter 100 = .ok (.invokestatic 23, 3) := by decide +kernel
theorem dX5_stateAfter_103 : decode cX5_stateAfter 103 = .ok (.ifCond .eq 8, 3) := by decide +kernel
theorem dX5_stateAfter_106 : decode cX5_stateAfter 106 = .ok (.bipush 10, 2) := by decide +kernel
theorem dX5_stateAfter_108 : decode cX5_stateAfter 108 = .ok (.goto 7, 3) := by decide +kernel
theorem dX5_stateAfter_111 : decode cX5_stateAfter 111 = .ok (.iload_n 1, 1) := by decide +kernel
theorem dX5_stateAfter_112 : decode cX5_stateAfter 112 = .ok (.invokestatic 49, 3) := by decide +kernel
theorem dX5_stateAfter_115 : decode cX5_stateAfter 115 = .ok (.ireturn, 1) := by decide +kernel
theorem dX5_stateAfter_116 : decode cX5_stateAfter 116 = .ok (.iload_n 1, 1) := by decide +kernel
theorem dX5_stateAfter_117 : decode cX5_stateAfter 117 = .ok (.invokestatic 49, 3) := by decide +kernel
theorem dX5_stateAfter_120 : decode cX5_stateAfter 120 = .ok (.ireturn, 1) := by decide +kernel
theorem dX5_stateAfter_121 : decode cX5_stateAfter 121 = .ok (.iload_n 1, 1) := by decide +kernel
theorem dX5_stateAfter_122 : decode cX5_stateAfter 122 = .ok (.bipush 48, 2) := by decide +kernel
theorem dX5_stateAfter_124 : decode cX5_stateAfter 124 = .ok (.bipush 53, 2) := by decide +kernel
theorem dX5_stateAfter_126 : decode cX5_stateAfter 126 = .ok (.invokestatic 23, 3) := by decide +kernel
theorem dX5_stateAfter_129 : decode cX5_stateAfter 129 = .ok (.ifCond .eq 8, 3) := by decide +kernel
theorem dX5_stateAfter_132 : decode cX5_stateAfter 132 = .ok (.bipush 12, 2) := by decide +kernel
theorem dX5_stateAfter_134 : decode cX5_stateAfter 134 = .ok (.goto 4, 3) := by decide +kernel
theorem dX5_stateAfter_137 : decode cX5_stateAfter 137 = .ok (.iconst (-1), 1) := by decide +kernel
theorem dX5_stateAfter_138 : decode cX5_stateAfter 138 = .ok (.ireturn, 1) := by decide +kernel
theorem dX5_stateAfter_139 : decode cX5_stateAfter 139 = .ok (.iload_n 1, 1) := by decide +kernel
theorem dX5_stateAfter_140 : decode cX5_stateAfter 140 = .ok (.bipush 61, 2) := by decide +kernel
theorem dX5_stateAfter_142 : decode cX5_stateAfter 142 = .ok (.if_icmp .ne 7, 3) := by decide +kernel
theorem dX5_stateAfter_145 : decode cX5_stateAfter 145 = .ok (.iconst 1, 1) := by decide +kernel
theorem dX5_stateAfter_146 : decode cX5_stateAfter 146 = .ok (.goto 4, 3) := by decide +kernel
theorem dX5_stateAfter_149 : decode cX5_stateAfter 149 = .ok (.iconst (-1), 1) := by decide +kernel
theorem dX5_stateAfter_150 : decode cX5_stateAfter 150 = .ok (.ireturn, 1) := by decide +kernel
theorem dX5_stateAfter_151 : decode cX5_stateAfter 151 = .ok (.iload_n 1, 1) := by decide +kernel
theorem dX5_stateAfter_152 : decode cX5_stateAfter 152 = .ok (.bipush 14, 2) := by decide +kernel
theorem dX5_stateAfter_154 : decode cX5_stateAfter 154 = .ok (.iconst 0, 1) := by decide +kernel
theorem dX5_stateAfter_155 : decode cX5_stateAfter 155 = .ok (.invokestatic 45, 3) := by decide +kernel
theorem dX5_stateAfter_158 : decode cX5_stateAfter 158 = .ok (.ireturn, 1) := by decide +kernel
theorem dX5_stateAfter_159 : decode cX5_stateAfter 159 = .ok (.iload_n 1, 1) := by decide +kernel
theorem dX5_stateAfter_160 : decode cX5_stateAfter 160 = .ok (.bipush 48, 2) := by decide +kernel
theorem dX5_stateAfter_162 : decode cX5_stateAfter 162 = .ok (.bipush 57, 2) := by decide +kernel
theorem dX5_stateAfter_164 : decode cX5_stateAfter 164 = .ok (.invokestatic 23, 3) := by decide +kernel
theorem dX5_stateAfter_167 : decode cX5_stateAfter 167 = .ok (.ifCond .eq 7, 3) := by decide +kernel
theorem dX5_stateAfter_170 : decode cX5_stateAfter 170 = .ok (.iconst 0, 1) := by decide +kernel
theorem dX5_stateAfter_171 : decode cX5_stateAfter 171 = .ok (.goto 7, 3) := by decide +kernel
theorem dX5_stateAfter_174 : decode cX5_stateAfter 174 = .ok (.iload_n 1, 1) := by decide +kernel
theorem dX5_stateAfter_175 : decode cX5_stateAfter 175 = .ok (.invokestatic 39, 3) := by decide +kernel
theorem dX5_stateAfter_178 : decode cX5_stateAfter 178 = .ok (.ireturn, 1) := by decide +kernel
theorem dX5_stateAfter_179 : decode cX5_stateAfter 179 = .ok (.iload_n 1, 1) := by decide +kernel
theorem dX5_stateAfter_180 : decode cX5_stateAfter 180 = .ok (.bipush 48, 2) := by decide +kernel
theorem dX5_stateAfter_182 : decode cX5_stateAfter 182 = .ok (.bipush 52, 2) := by decide +kernel
theorem dX5_stateAfter_184 : decode cX5_stateAfter 184 = .ok (.invokestatic 23, 3) := by decide +kernel
theorem dX5_stateAfter_187 : decode cX5_stateAfter 187 = .ok (.ifCond .eq 9, 3) := by decide +kernel
theorem dX5_stateAfter_190 : decode cX5_stateAfter 190 = .ok (.iload_n 0, 1) := by decide +kernel
theorem dX5_stateAfter_191 : decode cX5_stateAfter 191 = .ok (.iconst 1, 1) := by decide +kernel
theorem dX5_stateAfter_192 : decode cX5_stateAfter 192 = .ok (.isub, 1) := by decide +kernel
theorem dX5_stateAfter_193 : decode cX5_stateAfter 193 = .ok (.goto 4, 3) := by decide +kernel
theorem dX5_stateAfter_196 : decode cX5_stateAfter 196 = .ok (.iconst (-1), 1) := by decide +kernel
theorem dX5_stateAfter_197 : decode cX5_stateAfter 197 = .ok (.ireturn, 1) := by decide +kernel
theorem dX5_stateAfterLetter_0 : decode cX5_stateAfterLetter 0 = .ok (.iload_n 0, 1) := by decide +kernel
theorem dX5_stateAfterLetter_1 : decode cX5_stateAfterLetter 1 = .ok (.lookupswitch 52 #[(100, 49), (102, 43), (104, 49), (115, 46)], 43) := by decide +kernel
theorem dX5_stateAfterLetter_44 : decode cX5_stateAfterLetter 44 = .ok (.bipush 6, 2) := by decide +kernel
theorem dX5_stateAfterLetter_46 : decode cX5_stateAfterLetter 46 = .ok (.ireturn, 1) := by decide +kernel
theorem dX5_stateAfterLetter_47 : decode cX5_stateAfterLetter 47 = .ok (.bipush 8, 2) := by decide +kernel
theorem dX5_stateAfterLetter_49 : decode cX5_stateAfterLetter 49 = .ok (.ireturn, 1) := by decide +kernel
theorem dX5_stateAfterLetter_50 : decode cX5_stateAfterLetter 50 = .ok (.bipush 13, 2) := by decide +kernel
theorem dX5_stateAfterLetter_52 : decode cX5_stateAfterLetter 52 = .ok (.ireturn, 1) := by decide +kernel
theorem dX5_stateAfterLetter_53 : decode cX5_stateAfterLetter 53 = .ok (.iconst (-1), 1) := by decide +kernel
theorem dX5_stateAfterLetter_54 : decode cX5_stateAfterLetter 54 = .ok (.ireturn, 1) := by decide +kernel
theorem dX5_stateAfterFather_0 : decode cX5_stateAfterFather 0 = .ok (.iload_n 0, 1) := by decide +kernel
theorem dX5_stateAfterFather_1 : decode cX5_stateAfterFather 1 = .ok (.bipush 46, 2) := by decide +kernel
theorem dX5_stateAfterFather_3 : decode cX5_stateAfterFather 3 = .ok (.if_icmp .ne 8, 3) := by decide +kernel
theorem dX5_stateAfterFather_6 : decode cX5_stateAfterFather 6 = .ok (.bipush 11, 2) := by decide +kernel
theorem dX5_stateAfterFather_8 : decode cX5_stateAfterFather 8 = .ok (.goto 4, 3) := by decide +kernel
theorem dX5_stateAfterFather_11 : decode cX5_stateAfterFather 11 = .ok (.iconst (-1), 1) := by decide +kernel
theorem dX5_stateAfterFather_12 : decode cX5_stateAfterFather 12 = .ok (.ireturn, 1) := by decide +kernel
theorem dX5_stateAfterDeed_0 : decode cX5_stateAfterDeed 0 = .ok (.iload_n 0, 1) := by decide +kernel
theorem dX5_stateAfterDeed_1 : decode cX5_stateAfterDeed 1 = .ok (.bipush 59, 2) := by decide +kernel
theorem dX5_stateAfterDeed_3 : decode cX5_stateAfterDeed 3 = .ok (.if_icmp .ne 8, 3) := by decide +kernel
theorem dX5_stateAfterDeed_6 : decode cX5_stateAfterDeed 6 = .ok (.bipush 7, 2) := by decide +kernel
theorem dX5_stateAfterDeed_8 : decode cX5_stateAfterDeed 8 = .ok (.goto 4, 3) := by decide +kernel
theorem dX5_stateAfterDeed_11 : decode cX5_stateAfterDeed 11 = .ok (.iconst (-1), 1) := by decide +kernel
theorem dX5_stateAfterDeed_12 : decode cX5_stateAfterDeed 12 = .ok (.ireturn, 1) := by decide +kernel
theorem dX5_stateAfterDigit_0 : decode cX5_stateAfterDigit 0 = .ok (.iload_n 0, 1) := by decide +kernel
theorem dX5_stateAfterDigit_1 : decode cX5_stateAfterDigit 1 = .ok (.bipush 48, 2) := by decide +kernel
theorem dX5_stateAfterDigit_3 : decode cX5_stateAfterDigit 3 = .ok (.bipush 57, 2) := by decide +kernel
theorem dX5_stateAfterDigit_5 : decode cX5_stateAfterDigit 5 = .ok (.invokestatic 23, 3) := by decide +kernel
theorem dX5_stateAfterDigit_8 : decode cX5_stateAfterDigit 8 = .ok (.ifCond .ne 5, 3) := by decide +kernel
theorem dX5_stateAfterDigit_11 : decode cX5_stateAfterDigit 11 = .ok (.iconst (-1), 1) := by decide +kernel
theorem dX5_stateAfterDigit_12 : decode cX5_stateAfterDigit 12 = .ok (.ireturn, 1) := by decide +kernel
theorem dX5_stateAfterDigit_13 : decode cX5_stateAfterDigit 13 = .ok (.iload_n 0, 1) := by decide +kernel
theorem dX5_stateAfterDigit_14 : decode cX5_stateAfterDigit 14 = .ok (.bipush 49, 2) := by decide +kernel
theorem dX5_stateAfterDigit_16 : decode cX5_stateAfterDigit 16 = .ok (.if_icmp .ne 7, 3) := by decide +kernel
theorem dX5_stateAfterDigit_19 : decode cX5_stateAfterDigit 19 = .ok (.iload_n 1, 1) := by decide +kernel
theorem dX5_stateAfterDigit_20 : decode cX5_stateAfterDigit 20 = .ok (.goto 4, 3) := by decide +kernel
theorem dX5_stateAfterDigit_23 : decode cX5_stateAfterDigit 23 = .ok (.iload_n 2, 1) := by decide +kernel
theorem dX5_stateAfterDigit_24 : decode cX5_stateAfterDigit 24 = .ok (.ireturn, 1) := by decide +kernel
theorem dX5_isBetween_0 : decode cX5_isBetween 0 = .ok (.iload_n 0, 1) := by decide +kernel
theorem dX5_isBetween_1 : decode cX5_isBetween 1 = .ok (.iload_n 1, 1) := by decide +kernel
theorem dX5_isBetween_2 : decode cX5_isBetween 2 = .ok (.if_icmp .lt 12, 3) := by decide +kernel
theorem dX5_isBetween_5 : decode cX5_isBetween 5 = .ok (.iload_n 0, 1) := by decide +kernel
theorem dX5_isBetween_6 : decode cX5_isBetween 6 = .ok (.iload_n 2, 1) := by decide +kernel
theorem dX5_isBetween_7 : decode cX5_isBetween 7 = .ok (.if_icmp .gt 7, 3) := by decide +kernel
theorem dX5_isBetween_10 : decode cX5_isBetween 10 = .ok (.iconst 1, 1) := by decide +kernel
theorem dX5_isBetween_11 : decode cX5_isBetween 11 = .ok (.goto 4, 3) := by decide +kernel
theorem dX5_isBetween_14 : decode cX5_isBetween 14 = .ok (.iconst 0, 1) := by decide +kernel
theorem dX5_isBetween_15 : decode cX5_isBetween 15 = .ok (.ireturn, 1) := by decide +kernel
theorem dX6_init_0 : decode cX6_init 0 = .ok (.aload_n 0, 1) := by decide +kernel
theorem dX6_init_1 : decode cX6_init 1 = .ok (.invokespecial 3, 3) := by decide +kernel
theorem dX6_init_4 : decode cX6_init 4 = .ok (.aload_n 0, 1) := by decide +kernel
theorem dX6_init_5 : decode cX6_init 5 = .ok (.bipush 20, 2) := by decide +kernel
theorem dX6_init_7 : decode cX6_init 7 = .ok (.newarray .int, 2) := by decide +kernel
theorem dX6_init_9 : decode cX6_init 9 = .ok (.putfield 9, 3) := by decide +kernel
theorem dX6_init_12 : decode cX6_init 12 = .ok (.aload_n 0, 1) := by decide +kernel
theorem dX6_init_13 : decode cX6_init 13 = .ok (.bipush 20, 2) := by decide +kernel
theorem dX6_init_15 : decode cX6_init 15 = .ok (.newarray .boolean, 2) := by decide +kernel
theorem dX6_init_17 : decode cX6_init 17 = .ok (.putfield 15, 3) := by decide +kernel
theorem dX6_init_20 : decode cX6_init 20 = .ok (.aload_n 0, 1) := by decide +kernel
theorem dX6_init_21 : decode cX6_init 21 = .ok (.bipush 20, 2) := by decide +kernel
theorem dX6_init_23 : decode cX6_init 23 = .ok (.newarray .int, 2) := by decide +kernel
theorem dX6_init_25 : decode cX6_init 25 = .ok (.putfield 19, 3) := by decide +kernel
theorem dX6_init_28 : decode cX6_init 28 = .ok (.aload_n 0, 1) := by decide +kernel
theorem dX6_init_29 : decode cX6_init 29 = .ok (.bipush 20, 2) := by decide +kernel
theorem dX6_init_31 : decode cX6_init 31 = .ok (.newarray .int, 2) := by decide +kernel
theorem dX6_init_33 : decode cX6_init 33 = .ok (.putfield 22, 3) := by decide +kernel
theorem dX6_init_36 : decode cX6_init 36 = .ok (.aload_n 0, 1) := by decide +kernel
theorem dX6_init_37 : decode cX6_init 37 = .ok (.bipush 20, 2) := by decide +kernel
theorem dX6_init_39 : decode cX6_init 39 = .ok (.newarray .int, 2) := by decide +kernel
theorem dX6_init_41 : decode cX6_init 41 = .ok (.putfield 25, 3) := by decide +kernel
theorem dX6_init_44 : decode cX6_init 44 = .ok (.aload_n 0, 1) := by decide +kernel
theorem dX6_init_45 : decode cX6_init 45 = .ok (.iconst 0, 1) := by decide +kernel
theorem dX6_init_46 : decode cX6_init 46 = .ok (.putfield 28, 3) := by decide +kernel
theorem dX6_init_49 : decode cX6_init 49 = .ok (.aload_n 0, 1) := by decide +kernel
theorem dX6_init_50 : decode cX6_init 50 = .ok (.iconst 0, 1) := by decide +kernel
theorem dX6_init_51 : decode cX6_init 51 = .ok (.putfield 32, 3) := by decide +kernel
theorem dX6_init_54 : decode cX6_init 54 = .ok (.aload_n 0, 1) := by decide +kernel
theorem dX6_init_55 : decode cX6_init 55 = .ok (.iconst 0, 1) := by decide +kernel
theorem dX6_init_56 : decode cX6_init 56 = .ok (.putfield 35, 3) := by decide +kernel
theorem dX6_init_59 : decode cX6_init 59 = .ok (.return_, 1) := by decide +kernel
theorem dX6_copyFrom_0 : decode cX6_copyFrom 0 = .ok (.iconst 0, 1) := by decide +kernel
theorem dX6_copyFrom_1 : decode cX6_copyFrom 1 = .ok (.istore_n 2, 1) := by decide +kernel
theorem dX6_copyFrom_2 : decode cX6_copyFrom 2 = .ok (.iload_n 2, 1) := by decide +kernel
theorem dX6_copyFrom_3 : decode cX6_copyFrom 3 = .ok (.bipush 20, 2) := by decide +kernel
theorem dX6_copyFrom_5 : decode cX6_copyFrom 5 = .ok (.if_icmp .ge 69, 3) := by decide +kernel
theorem dX6_copyFrom_8 : decode cX6_copyFrom 8 = .ok (.aload_n 0, 1) := by decide +kernel
theorem dX6_copyFrom_9 : decode cX6_copyFrom 9 = .ok (.getfield 9, 3) := by decide +kernel
theorem dX6_copyFrom_12 : decode cX6_copyFrom 12 = .ok (.iload_n 2, 1) := by decide +kernel
theorem dX6_copyFrom_13 : decode cX6_copyFrom 13 = .ok (.aload_n 1, 1) := by decide +kernel
theorem dX6_copyFrom_14 : decode cX6_copyFrom 14 = .ok (.getfield 9, 3) := by decide +kernel
theorem dX6_copyFrom_17 : decode cX6_copyFrom 17 = .ok (.iload_n 2, 1) := by decide +kernel
theorem dX6_copyFrom_18 : decode cX6_copyFrom 18 = .ok (.iaload, 1) := by decide +kernel
theorem dX6_copyFrom_19 : decode cX6_copyFrom 19 = .ok (.iastore, 1) := by decide +kernel
theorem dX6_copyFrom_20 : decode cX6_copyFrom 20 = .ok (.aload_n 0, 1) := by decide +kernel
theorem dX6_copyFrom_21 : decode cX6_copyFrom 21 = .ok (.getfield 15, 3) := by decide +kernel
theorem dX6_copyFrom_24 : decode cX6_copyFrom 24 = .ok (.iload_n 2, 1) := by decide +kernel
theorem dX6_copyFrom_25 : decode cX6_copyFrom 25 = .ok (.aload_n 1, 1) := by decide +kernel
theorem dX6_copyFrom_26 : decode cX6_copyFrom 26 = .ok (.getfield 15, 3) := by decide +kernel
theorem dX6_copyFrom_29 : decode cX6_copyFrom 29 = .ok (.iload_n 2, 1) := by decide +kernel
theorem dX6_copyFrom_30 : decode cX6_copyFrom 30 = .ok (.baload, 1) := by decide +kernel
theorem dX6_copyFrom_31 : decode cX6_copyFrom 31 = .ok (.bastore, 1) := by decide +kernel
theorem dX6_copyFrom_32 : decode cX6_copyFrom 32 = .ok (.aload_n 0, 1) := by decide +kernel
theorem dX6_copyFrom_33 : decode cX6_copyFrom 33 = .ok (.getfield 19, 3) := by decide +kernel
theorem dX6_copyFrom_36 : decode cX6_copyFrom 36 = .ok (.iload_n 2, 1) := by decide +kernel
theorem dX6_copyFrom_37 : decode cX6_copyFrom 37 = .ok (.aload_n 1, 1) := by decide +kernel
theorem dX6_copyFrom_38 : decode cX6_copyFrom 38 = .ok (.getfield 19, 3) := by decide +kernel
theorem dX6_copyFrom_41 : decode cX6_copyFrom 41 = .ok (.iload_n 2, 1) := by decide +kernel
theorem dX6_copyFrom_42 : decode cX6_copyFrom 42 = .ok (.iaload, 1) := by decide +kernel
theorem dX6_copyFrom_43 : decode cX6_copyFrom 43 = .ok (.iastore, 1) := by decide +kernel
theorem dX6_copyFrom_44 : decode cX6_copyFrom 44 = .ok (.aload_n 0, 1) := by decide +kernel
theorem dX6_copyFrom_45 : decode cX6_copyFrom 45 = .ok (.getfield 22, 3) := by decide +kernel
theorem dX6_copyFrom_48 : decode cX6_copyFrom 48 = .ok (.iload_n 2, 1) := by decide +kernel
theorem dX6_copyFrom_49 : decode cX6_copyFrom 49 = .ok (.aload_n 1, 1) := by decide +kernel
theorem dX6_copyFrom_50 : decode cX6_copyFrom 50 = .ok (.getfield 22, 3) := by decide +kernel
theorem dX6_copyFrom_53 : decode cX6_copyFrom 53 = .ok (.iload_n 2, 1) := by decide +kernel
theorem dX6_copyFrom_54 : decode cX6_copyFrom 54 = .ok (.iaload, 1) := by decide +kernel
theorem dX6_copyFrom_55 : decode cX6_copyFrom 55 = .ok (.iastore, 1) := by decide +kernel
theorem dX6_copyFrom_56 : decode cX6_copyFrom 56 = .ok (.aload_n 0, 1) := by decide +kernel
theorem dX6_copyFrom_57 : decode cX6_copyFrom 57 = .ok (.getfield 25, 3) := by decide +kernel
theorem dX6_copyFrom_60 : decode cX6_copyFrom 60 = .ok (.iload_n 2, 1) := by decide +kernel
theorem dX6_copyFrom_61 : decode cX6_copyFrom 61 = .ok (.aload_n 1, 1) := by decide +kernel
theorem dX6_copyFrom_62 : decode cX6_copyFrom 62 = .ok (.getfield 25, 3) := by decide +kernel
theorem dX6_copyFrom_65 : decode cX6_copyFrom 65 = .ok (.iload_n 2, 1) := by decide +kernel
theorem dX6_copyFrom_66 : decode cX6_copyFrom 66 = .ok (.iaload, 1) := by decide +kernel
theorem dX6_copyFrom_67 : decode cX6_copyFrom 67 = .ok (.iastore, 1) := by decide +kernel
theorem dX6_copyFrom_68 : decode cX6_copyFrom 68 = .ok (.iinc 2 1, 3) := by decide +kernel
theorem dX6_copyFrom_71 : decode cX6_copyFrom 71 = .ok (.goto (-69), 3) := by decide +kernel
theorem dX6_copyFrom_74 : decode cX6_copyFrom 74 = .ok (.aload_n 0, 1) := by decide +kernel
theorem dX6_copyFrom_75 : decode cX6_copyFrom 75 = .ok (.aload_n 1, 1) := by decide +kernel
theorem dX6_copyFrom_76 : decode cX6_copyFrom 76 = .ok (.getfield 28, 3) := by decide +kernel
theorem dX6_copyFrom_79 : decode cX6_copyFrom 79 = .ok (.putfield 28, 3) := by decide +kernel
theorem dX6_copyFrom_82 : decode cX6_copyFrom 82 = .ok (.aload_n 0, 1) := by decide +kernel
theorem dX6_copyFrom_83 : decode cX6_copyFrom 83 = .ok (.aload_n 1, 1) := by decide +kernel
theorem dX6_copyFrom_84 : decode cX6_copyFrom 84 = .ok (.getfield 32, 3) := by decide +kernel
theorem dX6_copyFrom_87 : decode cX6_copyFrom 87 = .ok (.putfield 32, 3) := by decide +kernel
theorem dX6_copyFrom_90 : decode cX6_copyFrom 90 = .ok (.aload_n 0, 1) := by decide +kernel
theorem dX6_copyFrom_91 : decode cX6_copyFrom 91 = .ok (.aload_n 1, 1) := by decide +kernel
theorem dX6_copyFrom_92 : decode cX6_copyFrom 92 = .ok (.getfield 35, 3) := by decide +kernel
theorem dX6_copyFrom_95 : decode cX6_copyFrom 95 = .ok (.putfield 35, 3) := by decide +kernel
theorem dX6_copyFrom_98 : decode cX6_copyFrom 98 = .ok (.return_, 1) := by decide +kernel
theorem dX6_size_0 : decode cX6_size 0 = .ok (.aload_n 0, 1) := by decide +kernel
theorem dX6_size_1 : decode cX6_size 1 = .ok (.getfield 28, 3) := by decide +kernel
theorem dX6_size_4 : decode cX6_size 4 = .ok (.ireturn, 1) := by decide +kernel
theorem dX6_heirs_0 : decode cX6_heirs 0 = .ok (.aload_n 0, 1) := by decide +kernel
theorem dX6_heirs_1 : decode cX6_heirs 1 = .ok (.getfield 32, 3) := by decide +kernel
theorem dX6_heirs_4 : decode cX6_heirs 4 = .ok (.ireturn, 1) := by decide +kernel
theorem dX6_refusals_0 : decode cX6_refusals 0 = .ok (.aload_n 0, 1) := by decide +kernel
theorem dX6_refusals_1 : decode cX6_refusals 1 = .ok (.getfield 35, 3) := by decide +kernel
theorem dX6_refusals_4 : decode cX6_refusals 4 = .ok (.ireturn, 1) := by decide +kernel
theorem dX6_has_0 : decode cX6_has 0 = .ok (.iload_n 1, 1) := by decide +kernel
theorem dX6_has_1 : decode cX6_has 1 = .ok (.ifCond .lt 21, 3) := by decide +kernel
theorem dX6_has_4 : decode cX6_has 4 = .ok (.iload_n 1, 1) := by decide +kernel
theorem dX6_has_5 : decode cX6_has 5 = .ok (.aload_n 0, 1) := by decide +kernel
theorem dX6_has_6 : decode cX6_has 6 = .ok (.getfield 28, 3) := by decide +kernel
theorem dX6_has_9 : decode cX6_has 9 = .ok (.if_icmp .ge 13, 3) := by decide +kernel
theorem dX6_has_12 : decode cX6_has 12 = .ok (.iload_n 1, 1) := by decide +kernel
theorem dX6_has_13 : decode cX6_has 13 = .ok (.bipush 20, 2) := by decide +kernel
theorem dX6_has_15 : decode cX6_has 15 = .ok (.if_icmp .ge 7, 3) := by decide +kernel
theorem dX6_has_18 : decode cX6_has 18 = .ok (.iconst 1, 1) := by decide +kernel
theorem dX6_has_19 : decode cX6_has 19 = .ok (.goto 4, 3) := by decide +kernel
theorem dX6_has_22 : decode cX6_has 22 = .ok (.iconst 0, 1) := by decide +kernel
theorem dX6_has_23 : decode cX6_has 23 = .ok (.ireturn, 1) := by decide +kernel
theorem dX6_shieldOf_0 : decode cX6_shieldOf 0 = .ok (.aload_n 0, 1) := by decide +kernel
theorem dX6_shieldOf_1 : decode cX6_shieldOf 1 = .ok (.iload_n 1, 1) := by decide +kernel
theorem dX6_shieldOf_2 : decode cX6_shieldOf 2 = .ok (.invokevirtual 38, 3) := by decide +kernel
theorem dX6_shieldOf_5 : decode cX6_shieldOf 5 = .ok (.ifCond .eq 12, 3) := by decide +kernel
theorem dX6_shieldOf_8 : decode cX6_shieldOf 8 = .ok (.aload_n 0, 1) := by decide +kernel
theorem dX6_shieldOf_9 : decode cX6_shieldOf 9 = .ok (.getfield 9, 3) := by decide +kernel
theorem dX6_shieldOf_12 : decode cX6_shieldOf 12 = .ok (.iload_n 1, 1) := by decide +kernel
theorem dX6_shieldOf_13 : decode cX6_shieldOf 13 = .ok (.iaload, 1) := by decide +kernel
theorem dX6_shieldOf_14 : decode cX6_shieldOf 14 = .ok (.goto 4, 3) := by decide +kernel
theorem dX6_shieldOf_17 : decode cX6_shieldOf 17 = .ok (.iconst 0, 1) := by decide +kernel
theorem dX6_shieldOf_18 : decode cX6_shieldOf 18 = .ok (.ireturn, 1) := by decide +kernel
theorem dX6_isAlive_0 : decode cX6_isAlive 0 = .ok (.aload_n 0, 1) := by decide +kernel
theorem dX6_isAlive_1 : decode cX6_isAlive 1 = .ok (.iload_n 1, 1) := by decide +kernel
theorem dX6_isAlive_2 : decode cX6_isAlive 2 = .ok (.invokevirtual 38, 3) := by decide +kernel
theorem dX6_isAlive_5 : decode cX6_isAlive 5 = .ok (.ifCond .eq 16, 3) := by decide +kernel
theorem dX6_isAlive_8 : decode cX6_isAlive 8 = .ok (.aload_n 0, 1) := by decide +kernel
theorem dX6_isAlive_9 : decode cX6_isAlive 9 = .ok (.getfield 15, 3) := by decide +kernel
theorem dX6_isAlive_12 : decode cX6_isAlive 12 = .ok (.iload_n 1, 1) := by decide +kernel
theorem dX6_isAlive_13 : decode cX6_isAlive 13 = .ok (.baload, 1) := by decide +kernel
theorem dX6_isAlive_14 : decode cX6_isAlive 14 = .ok (.ifCond .eq 7, 3) := by decide +kernel
theorem dX6_isAlive_17 : decode cX6_isAlive 17 = .ok (.iconst 1, 1) := by decide +kernel
theorem dX6_isAlive_18 : decode cX6_isAlive 18 = .ok (.goto 4, 3) := by decide +kernel
theorem dX6_isAlive_21 : decode cX6_isAlive 21 = .ok (.iconst 0, 1) := by decide +kernel
theorem dX6_isAlive_22 : decode cX6_isAlive 22 = .ok (.ireturn, 1) := by decide +kernel
theorem dX6_fatherOf_0 : decode cX6_fatherOf 0 = .ok (.aload_n 0, 1) := by decide +kernel
theorem dX6_fatherOf_1 : decode cX6_fatherOf 1 = .ok (.iload_n 1, 1) := by decide +kernel
theorem dX6_fatherOf_2 : decode cX6_fatherOf 2 = .ok (.invokevirtual 38, 3) := by decide +kernel
theorem dX6_fatherOf_5 : decode cX6_fatherOf 5 = .ok (.ifCond .eq 12, 3) := by decide +kernel
theorem dX6_fatherOf_8 : decode cX6_fatherOf 8 = .ok (.aload_n 0, 1) := by decide +kernel
theorem dX6_fatherOf_9 : decode cX6_fatherOf 9 = .ok (.getfield 19, 3) := by decide +kernel
theorem dX6_fatherOf_12 : decode cX6_fatherOf 12 = .ok (.iload_n 1, 1) := by decide +kernel
theorem dX6_fatherOf_13 : decode cX6_fatherOf 13 = .ok (.iaload, 1) := by decide +kernel
theorem dX6_fatherOf_14 : decode cX6_fatherOf 14 = .ok (.goto 4, 3) := by decide +kernel
theorem dX6_fatherOf_17 : decode cX6_fatherOf 17 = .ok (.iconst (-1), 1) := by decide +kernel
theorem dX6_fatherOf_18 : decode cX6_fatherOf 18 = .ok (.ireturn, 1) := by decide +kernel
theorem dX6_birthPlaceOf_0 : decode cX6_birthPlaceOf 0 = .ok (.aload_n 0, 1) := by decide +kernel
theorem dX6_birthPlaceOf_1 : decode cX6_birthPlaceOf 1 = .ok (.iload_n 1, 1) := by decide +kernel
theorem dX6_birthPlaceOf_2 : decode cX6_birthPlaceOf 2 = .ok (.invokevirtual 38, 3) := by decide +kernel
theorem dX6_birthPlaceOf_5 : decode cX6_birthPlaceOf 5 = .ok (.ifCond .eq 12, 3) := by decide +kernel
theorem dX6_birthPlaceOf_8 : decode cX6_birthPlaceOf 8 = .ok (.aload_n 0, 1) := by decide +kernel
theorem dX6_birthPlaceOf_9 : decode cX6_birthPlaceOf 9 = .ok (.getfield 22, 3) := by decide +kernel
theorem dX6_birthPlaceOf_12 : decode cX6_birthPlaceOf 12 = .ok (.iload_n 1, 1) := by decide +kernel
theorem dX6_birthPlaceOf_13 : decode cX6_birthPlaceOf 13 = .ok (.iaload, 1) := by decide +kernel
theorem dX6_birthPlaceOf_14 : decode cX6_birthPlaceOf 14 = .ok (.goto 4, 3) := by decide +kernel
theorem dX6_birthPlaceOf_17 : decode cX6_birthPlaceOf 17 = .ok (.iconst (-1), 1) := by decide +kernel
theorem dX6_birthPlaceOf_18 : decode cX6_birthPlaceOf 18 = .ok (.ireturn, 1) := by decide +kernel
theorem dX6_birthMarkOf_0 : decode cX6_birthMarkOf 0 = .ok (.aload_n 0, 1) := by decide +kernel
theorem dX6_birthMarkOf_1 : decode cX6_birthMarkOf 1 = .ok (.iload_n 1, 1) := by decide +kernel
theorem dX6_birthMarkOf_2 : decode cX6_birthMarkOf 2 = .ok (.invokevirtual 38, 3) := by decide +kernel
theorem dX6_birthMarkOf_5 : decode cX6_birthMarkOf 5 = .ok (.ifCond .eq 12, 3) := by decide +kernel
theorem dX6_birthMarkOf_8 : decode cX6_birthMarkOf 8 = .ok (.aload_n 0, 1) := by decide +kernel
theorem dX6_birthMarkOf_9 : decode cX6_birthMarkOf 9 = .ok (.getfield 25, 3) := by decide +kernel
theorem dX6_birthMarkOf_12 : decode cX6_birthMarkOf 12 = .ok (.iload_n 1, 1) := by decide +kernel
theorem dX6_birthMarkOf_13 : decode cX6_birthMarkOf 13 = .ok (.iaload, 1) := by decide +kernel
theorem dX6_birthMarkOf_14 : decode cX6_birthMarkOf 14 = .ok (.goto 4, 3) := by decide +kernel
theorem dX6_birthMarkOf_17 : decode cX6_birthMarkOf 17 = .ok (.iconst (-1), 1) := by decide +kernel
theorem dX6_birthMarkOf_18 : decode cX6_birthMarkOf 18 = .ok (.ireturn, 1) := by decide +kernel
theorem dX6_living_0 : decode cX6_living 0 = .ok (.iconst 0, 1) := by decide +kernel
theorem dX6_living_1 : decode cX6_living 1 = .ok (.istore_n 1, 1) := by decide +kernel
theorem dX6_living_2 : decode cX6_living 2 = .ok (.iconst 0, 1) := by decide +kernel
theorem dX6_living_3 : decode cX6_living 3 = .ok (.istore_n 2, 1) := by decide +kernel
theorem dX6_living_4 : decode cX6_living 4 = .ok (.iload_n 2, 1) := by decide +kernel
theorem dX6_living_5 : decode cX6_living 5 = .ok (.aload_n 0, 1) := by decide +kernel
theorem dX6_living_6 : decode cX6_living 6 = .ok (.getfield 28, 3) := by decide +kernel
theorem dX6_living_9 : decode cX6_living 9 = .ok (.if_icmp .ge 20, 3) := by decide +kernel
theorem dX6_living_12 : decode cX6_living 12 = .ok (.aload_n 0, 1) := by decide +kernel
theorem dX6_living_13 : decode cX6_living 13 = .ok (.iload_n 2, 1) := by decide +kernel
theorem dX6_living_14 : decode cX6_living 14 = .ok (.invokevirtual 42, 3) := by decide +kernel
theorem dX6_living_17 : decode cX6_living 17 = .ok (.ifCond .eq 6, 3) := by decide +kernel
theorem dX6_living_20 : decode cX6_living 20 = .ok (.iinc 1 1, 3) := by decide +kernel
theorem dX6_living_23 : decode cX6_living 23 = .ok (.iinc 2 1, 3) := by decide +kernel
theorem dX6_living_26 : decode cX6_living 26 = .ok (.goto (-22), 3) := by decide +kernel
theorem dX6_living_29 : decode cX6_living 29 = .ok (.iload_n 1, 1) := by decide +kernel
theorem dX6_living_30 : decode cX6_living 30 = .ok (.ireturn, 1) := by decide +kernel
theorem dX6_livingWith_0 : decode cX6_livingWith 0 = .ok (.iconst 0, 1) := by decide +kernel
theorem dX6_livingWith_1 : decode cX6_livingWith 1 = .ok (.istore_n 2, 1) := by decide +kernel
theorem dX6_livingWith_2 : decode cX6_livingWith 2 = .ok (.iload_n 2, 1) := by decide +kernel
theorem dX6_livingWith_3 : decode cX6_livingWith 3 = .ok (.aload_n 0, 1) := by decide +kernel
theorem dX6_livingWith_4 : decode cX6_livingWith 4 = .ok (.getfield 28, 3) := by decide +kernel
theorem dX6_livingWith_7 : decode cX6_livingWith 7 = .ok (.if_icmp .ge 36, 3) := by decide +kernel
theorem dX6_livingWith_10 : decode cX6_livingWith 10 = .ok (.iload_n 2, 1) := by decide +kernel
theorem dX6_livingWith_11 : decode cX6_livingWith 11 = .ok (.bipush 20, 2) := by decide +kernel
theorem dX6_livingWith_13 : decode cX6_livingWith 13 = .ok (.if_icmp .ge 30, 3) := by decide +kernel
theorem dX6_livingWith_16 : decode cX6_livingWith 16 = .ok (.aload_n 0, 1) := by decide +kernel
theorem dX6_livingWith_17 : decode cX6_livingWith 17 = .ok (.getfield 15, 3) := by decide +kernel
theorem dX6_livingWith_20 : decode cX6_livingWith 20 = .ok (.iload_n 2, 1) := by decide +kernel
theorem dX6_livingWith_21 : decode cX6_livingWith 21 = .ok (.baload, 1) := by decide +kernel
theorem dX6_livingWith_22 : decode cX6_livingWith 22 = .ok (.ifCond .eq 15, 3) := by decide +kernel
theorem dX6_livingWith_25 : decode cX6_livingWith 25 = .ok (.aload_n 0, 1) := by decide +kernel
theorem dX6_livingWith_26 : decode cX6_livingWith 26 = .ok (.getfield 9, 3) := by decide +kernel
theorem dX6_livingWith_29 : decode cX6_livingWith 29 = .ok (.iload_n 2, 1) := by decide +kernel
theorem dX6_livingWith_30 : decode cX6_livingWith 30 = .ok (.iaload, 1) := by decide +kernel
theorem dX6_livingWith_31 : decode cX6_livingWith 31 = .ok (.iload_n 1, 1) := by decide +kernel
theorem dX6_livingWith_32 : decode cX6_livingWith 32 = .ok (.if_icmp .ne 5, 3) := by decide +kernel
theorem dX6_livingWith_35 : decode cX6_livingWith 35 = .ok (.iload_n 2, 1) := by decide +kernel
theorem dX6_livingWith_36 : decode cX6_livingWith 36 = .ok (.ireturn, 1) := by decide +kernel
theorem dX6_livingWith_37 : decode cX6_livingWith 37 = .ok (.iinc 2 1, 3) := by decide +kernel
theorem dX6_livingWith_40 : decode cX6_livingWith 40 = .ok (.goto (-38), 3) := by decide +kernel
theorem dX6_livingWith_43 : decode cX6_livingWith 43 = .ok (.iconst (-1), 1) := by decide +kernel
theorem dX6_livingWith_44 : decode cX6_livingWith 44 = .ok (.ireturn, 1) := by decide +kernel
theorem dX6_sonsOf_0 : decode cX6_sonsOf 0 = .ok (.iconst 0, 1) := by decide +kernel
theorem dX6_sonsOf_1 : decode cX6_sonsOf 1 = .ok (.istore_n 2, 1) := by decide +kernel
theorem dX6_sonsOf_2 : decode cX6_sonsOf 2 = .ok (.iconst 0, 1) := by decide +kernel
theorem dX6_sonsOf_3 : decode cX6_sonsOf 3 = .ok (.istore_n 3, 1) := by decide +kernel
theorem dX6_sonsOf_4 : decode cX6_sonsOf 4 = .ok (.iload_n 3, 1) := by decide +kernel
theorem dX6_sonsOf_5 : decode cX6_sonsOf 5 = .ok (.aload_n 0, 1) := by decide +kernel
theorem dX6_sonsOf_6 : decode cX6_sonsOf 6 = .ok (.getfield 28, 3) := by decide +kernel
theorem dX6_sonsOf_9 : decode cX6_sonsOf 9 = .ok (.if_icmp .ge 21, 3) := by decide +kernel
theorem dX6_sonsOf_12 : decode cX6_sonsOf 12 = .ok (.aload_n 0, 1) := by decide +kernel
theorem dX6_sonsOf_13 : decode cX6_sonsOf 13 = .ok (.iload_n 3, 1) := by decide +kernel
theorem dX6_sonsOf_14 : decode cX6_sonsOf 14 = .ok (.invokevirtual 45, 3) := by decide +kernel
theorem dX6_sonsOf_17 : decode cX6_sonsOf 17 = .ok (.iload_n 1, 1) := by decide +kernel
theorem dX6_sonsOf_18 : decode cX6_sonsOf 18 = .ok (.if_icmp .ne 6, 3) := by decide +kernel
theorem dX6_sonsOf_21 : decode cX6_sonsOf 21 = .ok (.iinc 2 1, 3) := by decide +kernel
theorem dX6_sonsOf_24 : decode cX6_sonsOf 24 = .ok (.iinc 3 1, 3) := by decide +kernel
theorem dX6_sonsOf_27 : decode cX6_sonsOf 27 = .ok (.goto (-23), 3) := by decide +kernel
theorem dX6_sonsOf_30 : decode cX6_sonsOf 30 = .ok (.iload_n 2, 1) := by decide +kernel
theorem dX6_sonsOf_31 : decode cX6_sonsOf 31 = .ok (.ireturn, 1) := by decide +kernel
theorem dX6_areBrothers_0 : decode cX6_areBrothers 0 = .ok (.aload_n 0, 1) := by decide +kernel
theorem dX6_areBrothers_1 : decode cX6_areBrothers 1 = .ok (.iload_n 1, 1) := by decide +kernel
theorem dX6_areBrothers_2 : decode cX6_areBrothers 2 = .ok (.invokevirtual 38, 3) := by decide +kernel
theorem dX6_areBrothers_5 : decode cX6_areBrothers 5 = .ok (.ifCond .eq 45, 3) := by decide +kernel
theorem dX6_areBrothers_8 : decode cX6_areBrothers 8 = .ok (.aload_n 0, 1) := by decide +kernel
theorem dX6_areBrothers_9 : decode cX6_areBrothers 9 = .ok (.iload_n 2, 1) := by decide +kernel
theorem dX6_areBrothers_10 : decode cX6_areBrothers 10 = .ok (.invokevirtual 38, 3) := by decide +kernel
theorem dX6_areBrothers_13 : decode cX6_areBrothers 13 = .ok (.ifCond .eq 37, 3) := by decide +kernel
theorem dX6_areBrothers_16 : decode cX6_areBrothers 16 = .ok (.iload_n 1, 1) := by decide +kernel
theorem dX6_areBrothers_17 : decode cX6_areBrothers 17 = .ok (.iload_n 2, 1) := by decide +kernel
theorem dX6_areBrothers_18 : decode cX6_areBrothers 18 = .ok (.if_icmp .eq 32, 3) := by decide +kernel
theorem dX6_areBrothers_21 : decode cX6_areBrothers 21 = .ok (.aload_n 0, 1) := by decide +kernel
theorem dX6_areBrothers_22 : decode cX6_areBrothers 22 = .ok (.getfield 19, 3) := by decide +kernel
theorem dX6_areBrothers_25 : decode cX6_areBrothers 25 = .ok (.iload_n 1, 1) := by decide +kernel
theorem dX6_areBrothers_26 : decode cX6_areBrothers 26 = .ok (.iaload, 1) := by decide +kernel
theorem dX6_areBrothers_27 : decode cX6_areBrothers 27 = .ok (.iconst (-1), 1) := by decide +kernel
theorem dX6_areBrothers_28 : decode cX6_areBrothers 28 = .ok (.if_icmp .eq 22, 3) := by decide +kernel
theorem dX6_areBrothers_31 : decode cX6_areBrothers 31 = .ok (.aload_n 0, 1) := by decide +kernel
theorem dX6_areBrothers_32 : decode cX6_areBrothers 32 = .ok (.getfield 19, 3) := by decide +kernel
theorem dX6_areBrothers_35 : decode cX6_areBrothers 35 = .ok (.iload_n 1, 1) := by decide +kernel
theorem dX6_areBrothers_36 : decode cX6_areBrothers 36 = .ok (.iaload, 1) := by decide +kernel
theorem dX6_areBrothers_37 : decode cX6_areBrothers 37 = .ok (.aload_n 0, 1) := by decide +kernel
theorem dX6_areBrothers_38 : decode cX6_areBrothers 38 = .ok (.getfield 19, 3) := by decide +kernel
theorem dX6_areBrothers_41 : decode cX6_areBrothers 41 = .ok (.iload_n 2, 1) := by decide +kernel
theorem dX6_areBrothers_42 : decode cX6_areBrothers 42 = .ok (.iaload, 1) := by decide +kernel
theorem dX6_areBrothers_43 : decode cX6_areBrothers 43 = .ok (.if_icmp .ne 7, 3) := by decide +kernel
theorem dX6_areBrothers_46 : decode cX6_areBrothers 46 = .ok (.iconst 1, 1) := by decide +kernel
theorem dX6_areBrothers_47 : decode cX6_areBrothers 47 = .ok (.goto 4, 3) := by decide +kernel
theorem dX6_areBrothers_50 : decode cX6_areBrothers 50 = .ok (.iconst 0, 1) := by decide +kernel
theorem dX6_areBrothers_51 : decode cX6_areBrothers 51 = .ok (.ireturn, 1) := by decide +kernel
theorem dX6_founderComes_0 : decode cX6_founderComes 0 = .ok (.iload_n 1, 1) := by decide +kernel
theorem dX6_founderComes_1 : decode cX6_founderComes 1 = .ok (.invokestatic 49, 3) := by decide +kernel
theorem dX6_founderComes_4 : decode cX6_founderComes 4 = .ok (.ifCond .ne 5, 3) := by decide +kernel
theorem dX6_founderComes_7 : decode cX6_founderComes 7 = .ok (.iconst (-1), 1) := by decide +kernel
theorem dX6_founderComes_8 : decode cX6_founderComes 8 = .ok (.ireturn, 1) := by decide +kernel
theorem dX6_founderComes_9 : decode cX6_founderComes 9 = .ok (.aload_n 0, 1) := by decide +kernel
theorem dX6_founderComes_10 : decode cX6_founderComes 10 = .ok (.getfield 28, 3) := by decide +kernel
theorem dX6_founderComes_13 : decode cX6_founderComes 13 = .ok (.bipush 20, 2) := by decide +kernel
theorem dX6_founderComes_15 : decode cX6_founderComes 15 = .ok (.if_icmp .lt 6, 3) := by decide +kernel
theorem dX6_founderComes_18 : decode cX6_founderComes 18 = .ok (.bipush (-3), 2) := by decide +kernel
theorem dX6_founderComes_20 : decode cX6_founderComes 20 = .ok (.ireturn, 1) := by decide +kernel
theorem dX6_founderComes_21 : decode cX6_founderComes 21 = .ok (.aload_n 0, 1) := by decide +kernel
theorem dX6_founderComes_22 : decode cX6_founderComes 22 = .ok (.iload_n 1, 1) := by decide +kernel
theorem dX6_founderComes_23 : decode cX6_founderComes 23 = .ok (.invokevirtual 54, 3) := by decide +kernel
theorem dX6_founderComes_26 : decode cX6_founderComes 26 = .ok (.iconst (-1), 1) := by decide +kernel
theorem dX6_founderComes_27 : decode cX6_founderComes 27 = .ok (.if_icmp .eq 9, 3) := by decide +kernel
theorem dX6_founderComes_30 : decode cX6_founderComes 30 = .ok (.aload_n 0, 1) := by decide +kernel
theorem dX6_founderComes_31 : decode cX6_founderComes 31 = .ok (.iconst 3, 1) := by decide +kernel
theorem dX6_founderComes_32 : decode cX6_founderComes 32 = .ok (.invokevirtual 57, 3) := by decide +kernel
theorem dX6_founderComes_35 : decode cX6_founderComes 35 = .ok (.ireturn, 1) := by decide +kernel
theorem dX6_founderComes_36 : decode cX6_founderComes 36 = .ok (.aload_n 0, 1) := by decide +kernel
theorem dX6_founderComes_37 : decode cX6_founderComes 37 = .ok (.iload_n 1, 1) := by decide +kernel
theorem dX6_founderComes_38 : decode cX6_founderComes 38 = .ok (.iconst (-1), 1) := by decide +kernel
theorem dX6_founderComes_39 : decode cX6_founderComes 39 = .ok (.iconst (-1), 1) := by decide +kernel
theorem dX6_founderComes_40 : decode cX6_founderComes 40 = .ok (.iconst (-1), 1) := by decide +kernel
theorem dX6_founderComes_41 : decode cX6_founderComes 41 = .ok (.invokevirtual 60, 3) := by decide +kernel
theorem dX6_founderComes_44 : decode cX6_founderComes 44 = .ok (.ireturn, 1) := by decide +kernel
theorem dX6_sonComes_0 : decode cX6_sonComes 0 = .ok (.aload_n 0, 1) := by decide +kernel
theorem dX6_sonComes_1 : decode cX6_sonComes 1 = .ok (.iload_n 1, 1) := by decide +kernel
theorem dX6_sonComes_2 : decode cX6_sonComes 2 = .ok (.invokevirtual 38, 3) := by decide +kernel
theorem dX6_sonComes_5 : decode cX6_sonComes 5 = .ok (.ifCond .eq 17, 3) := by decide +kernel
theorem dX6_sonComes_8 : decode cX6_sonComes 8 = .ok (.iload_n 2, 1) := by decide +kernel
theorem dX6_sonComes_9 : decode cX6_sonComes 9 = .ok (.invokestatic 64, 3) := by decide +kernel
theorem dX6_sonComes_12 : decode cX6_sonComes 12 = .ok (.ifCond .eq 10, 3) := by decide +kernel
theorem dX6_sonComes_15 : decode cX6_sonComes 15 = .ok (.iload_n 3, 1) := by decide +kernel
theorem dX6_sonComes_16 : decode cX6_sonComes 16 = .ok (.invokestatic 67, 3) := by decide +kernel
theorem dX6_sonComes_19 : decode cX6_sonComes 19 = .ok (.ifCond .ne 5, 3) := by decide +kernel
theorem dX6_sonComes_22 : decode cX6_sonComes 22 = .ok (.iconst (-1), 1) := by decide +kernel
theorem dX6_sonComes_23 : decode cX6_sonComes 23 = .ok (.ireturn, 1) := by decide +kernel
theorem dX6_sonComes_24 : decode cX6_sonComes 24 = .ok (.aload_n 0, 1) := by decide +kernel
theorem dX6_sonComes_25 : decode cX6_sonComes 25 = .ok (.getfield 28, 3) := by decide +kernel
theorem dX6_sonComes_28 : decode cX6_sonComes 28 = .ok (.bipush 20, 2) := by decide +kernel
theorem dX6_sonComes_30 : decode cX6_sonComes 30 = .ok (.if_icmp .lt 6, 3) := by decide +kernel
theorem dX6_sonComes_33 : decode cX6_sonComes 33 = .ok (.bipush (-3), 2) := by decide +kernel
theorem dX6_sonComes_35 : decode cX6_sonComes 35 = .ok (.ireturn, 1) := by decide +kernel
theorem dX6_sonComes_36 : decode cX6_sonComes 36 = .ok (.aload_n 0, 1) := by decide +kernel
theorem dX6_sonComes_37 : decode cX6_sonComes 37 = .ok (.iload_n 1, 1) := by decide +kernel
theorem dX6_sonComes_38 : decode cX6_sonComes 38 = .ok (.iload_n 2, 1) := by decide +kernel
theorem dX6_sonComes_39 : decode cX6_sonComes 39 = .ok (.iload_n 3, 1) := by decide +kernel
theorem dX6_sonComes_40 : decode cX6_sonComes 40 = .ok (.invokevirtual 70, 3) := by decide +kernel
theorem dX6_sonComes_43 : decode cX6_sonComes 43 = .ok (.istore 4, 2) := by decide +kernel
theorem dX6_sonComes_45 : decode cX6_sonComes 45 = .ok (.iload 4, 2) := by decide +kernel
theorem dX6_sonComes_47 : decode cX6_sonComes 47 = .ok (.ifCond .eq 10, 3) := by decide +kernel
theorem dX6_sonComes_50 : decode cX6_sonComes 50 = .ok (.aload_n 0, 1) := by decide +kernel
theorem dX6_sonComes_51 : decode cX6_sonComes 51 = .ok (.iload 4, 2) := by decide +kernel
theorem dX6_sonComes_53 : decode cX6_sonComes 53 = .ok (.invokevirtual 57, 3) := by decide +kernel
theorem dX6_sonComes_56 : decode cX6_sonComes 56 = .ok (.ireturn, 1) := by decide +kernel
theorem dX6_sonComes_57 : decode cX6_sonComes 57 = .ok (.aload_n 0, 1) := by decide +kernel
theorem dX6_sonComes_58 : decode cX6_sonComes 58 = .ok (.aload_n 0, 1) := by decide +kernel
theorem dX6_sonComes_59 : decode cX6_sonComes 59 = .ok (.iload_n 1, 1) := by decide +kernel
theorem dX6_sonComes_60 : decode cX6_sonComes 60 = .ok (.invokevirtual 74, 3) := by decide +kernel
theorem dX6_sonComes_63 : decode cX6_sonComes 63 = .ok (.iload_n 2, 1) := by decide +kernel
theorem dX6_sonComes_64 : decode cX6_sonComes 64 = .ok (.iload_n 3, 1) := by decide +kernel
theorem dX6_sonComes_65 : decode cX6_sonComes 65 = .ok (.invokestatic 77, 3) := by decide +kernel
theorem dX6_sonComes_68 : decode cX6_sonComes 68 = .ok (.iload_n 1, 1) := by decide +kernel
theorem dX6_sonComes_69 : decode cX6_sonComes 69 = .ok (.iload_n 2, 1) := by decide +kernel
theorem dX6_sonComes_70 : decode cX6_sonComes 70 = .ok (.iload_n 3, 1) := by decide +kernel
theorem dX6_sonComes_71 : decode cX6_sonComes 71 = .ok (.invokevirtual 60, 3) := by decide +kernel
theorem dX6_sonComes_74 : decode cX6_sonComes 74 = .ok (.ireturn, 1) := by decide +kernel
theorem dX6_goes_0 : decode cX6_goes 0 = .ok (.aload_n 0, 1) := by decide +kernel
theorem dX6_goes_1 : decode cX6_goes 1 = .ok (.iload_n 1, 1) := by decide +kernel
theorem dX6_goes_2 : decode cX6_goes 2 = .ok (.invokevirtual 38, 3) := by decide +kernel
theorem dX6_goes_5 : decode cX6_goes 5 = .ok (.ifCond .ne 5, 3) := by decide +kernel
theorem dX6_goes_8 : decode cX6_goes 8 = .ok (.iconst (-1), 1) := by decide +kernel
theorem dX6_goes_9 : decode cX6_goes 9 = .ok (.ireturn, 1) := by decide +kernel
theorem dX6_goes_10 : decode cX6_goes 10 = .ok (.aload_n 0, 1) := by decide +kernel
theorem dX6_goes_11 : decode cX6_goes 11 = .ok (.iload_n 1, 1) := by decide +kernel
theorem dX6_goes_12 : decode cX6_goes 12 = .ok (.invokevirtual 42, 3) := by decide +kernel
theorem dX6_goes_15 : decode cX6_goes 15 = .ok (.ifCond .ne 10, 3) := by decide +kernel
theorem dX6_goes_18 : decode cX6_goes 18 = .ok (.aload_n 0, 1) := by decide +kernel
theorem dX6_goes_19 : decode cX6_goes 19 = .ok (.bipush 6, 2) := by decide +kernel
theorem dX6_goes_21 : decode cX6_goes 21 = .ok (.invokevirtual 57, 3) := by decide +kernel
theorem dX6_goes_24 : decode cX6_goes 24 = .ok (.ireturn, 1) := by decide +kernel
theorem dX6_goes_25 : decode cX6_goes 25 = .ok (.aload_n 0, 1) := by decide +kernel
theorem dX6_goes_26 : decode cX6_goes 26 = .ok (.getfield 15, 3) := by decide +kernel
theorem dX6_goes_29 : decode cX6_goes 29 = .ok (.iload_n 1, 1) := by decide +kernel
theorem dX6_goes_30 : decode cX6_goes 30 = .ok (.iconst 0, 1) := by decide +kernel
theorem dX6_goes_31 : decode cX6_goes 31 = .ok (.bastore, 1) := by decide +kernel
theorem dX6_goes_32 : decode cX6_goes 32 = .ok (.bipush 10, 2) := by decide +kernel
theorem dX6_goes_34 : decode cX6_goes 34 = .ok (.aload_n 0, 1) := by decide +kernel
theorem dX6_goes_35 : decode cX6_goes 35 = .ok (.invokevirtual 80, 3) := by decide +kernel
theorem dX6_goes_38 : decode cX6_goes 38 = .ok (.iadd, 1) := by decide +kernel
theorem dX6_goes_39 : decode cX6_goes 39 = .ok (.ireturn, 1) := by decide +kernel
theorem dX6_becomesHeir_0 : decode cX6_becomesHeir 0 = .ok (.aload_n 0, 1) := by decide +kernel
theorem dX6_becomesHeir_1 : decode cX6_becomesHeir 1 = .ok (.iload_n 1, 1) := by decide +kernel
theorem dX6_becomesHeir_2 : decode cX6_becomesHeir 2 = .ok (.invokevirtual 38, 3) := by decide +kernel
theorem dX6_becomesHeir_5 : decode cX6_becomesHeir 5 = .ok (.ifCond .ne 5, 3) := by decide +kernel
theorem dX6_becomesHeir_8 : decode cX6_becomesHeir 8 = .ok (.iconst (-1), 1) := by decide +kernel
theorem dX6_becomesHeir_9 : decode cX6_becomesHeir 9 = .ok (.ireturn, 1) := by decide +kernel
theorem dX6_becomesHeir_10 : decode cX6_becomesHeir 10 = .ok (.aload_n 0, 1) := by decide +kernel
theorem dX6_becomesHeir_11 : decode cX6_becomesHeir 11 = .ok (.iload_n 1, 1) := by decide +kernel
theorem dX6_becomesHeir_12 : decode cX6_becomesHeir 12 = .ok (.invokevirtual 42, 3) := by decide +kernel
theorem dX6_becomesHeir_15 : decode cX6_becomesHeir 15 = .ok (.ifCond .ne 6, 3) := by decide +kernel
theorem dX6_becomesHeir_18 : decode cX6_becomesHeir 18 = .ok (.bipush (-2), 2) := by decide +kernel
theorem dX6_becomesHeir_20 : decode cX6_becomesHeir 20 = .ok (.ireturn, 1) := by decide +kernel
theorem dX6_becomesHeir_21 : decode cX6_becomesHeir 21 = .ok (.aload_n 0, 1) := by decide +kernel
theorem dX6_becomesHeir_22 : decode cX6_becomesHeir 22 = .ok (.iload_n 1, 1) := by decide +kernel
theorem dX6_becomesHeir_23 : decode cX6_becomesHeir 23 = .ok (.invokevirtual 84, 3) := by decide +kernel
theorem dX6_becomesHeir_26 : decode cX6_becomesHeir 26 = .ok (.istore_n 2, 1) := by decide +kernel
theorem dX6_becomesHeir_27 : decode cX6_becomesHeir 27 = .ok (.iload_n 2, 1) := by decide +kernel
theorem dX6_becomesHeir_28 : decode cX6_becomesHeir 28 = .ok (.ifCond .eq 9, 3) := by decide +kernel
theorem dX6_becomesHeir_31 : decode cX6_becomesHeir 31 = .ok (.aload_n 0, 1) := by decide +kernel
theorem dX6_becomesHeir_32 : decode cX6_becomesHeir 32 = .ok (.iload_n 2, 1) := by decide +kernel
theorem dX6_becomesHeir_33 : decode cX6_becomesHeir 33 = .ok (.invokevirtual 57, 3) := by decide +kernel
theorem dX6_becomesHeir_36 : decode cX6_becomesHeir 36 = .ok (.ireturn, 1) := by decide +kernel
theorem dX6_becomesHeir_37 : decode cX6_becomesHeir 37 = .ok (.aload_n 0, 1) := by decide +kernel
theorem dX6_becomesHeir_38 : decode cX6_becomesHeir 38 = .ok (.iload_n 1, 1) := by decide +kernel
theorem dX6_becomesHeir_39 : decode cX6_becomesHeir 39 = .ok (.invokevirtual 74, 3) := by decide +kernel
theorem dX6_becomesHeir_42 : decode cX6_becomesHeir 42 = .ok (.istore_n 3, 1) := by decide +kernel
theorem dX6_becomesHeir_43 : decode cX6_becomesHeir 43 = .ok (.aload_n 0, 1) := by decide +kernel
theorem dX6_becomesHeir_44 : decode cX6_becomesHeir 44 = .ok (.getfield 9, 3) := by decide +kernel
theorem dX6_becomesHeir_47 : decode cX6_becomesHeir 47 = .ok (.iload_n 1, 1) := by decide +kernel
theorem dX6_becomesHeir_48 : decode cX6_becomesHeir 48 = .ok (.aload_n 0, 1) := by decide +kernel
theorem dX6_becomesHeir_49 : decode cX6_becomesHeir 49 = .ok (.aload_n 0, 1) := by decide +kernel
theorem dX6_becomesHeir_50 : decode cX6_becomesHeir 50 = .ok (.iload_n 1, 1) := by decide +kernel
theorem dX6_becomesHeir_51 : decode cX6_becomesHeir 51 = .ok (.invokevirtual 45, 3) := by decide +kernel
theorem dX6_becomesHeir_54 : decode cX6_becomesHeir 54 = .ok (.invokevirtual 74, 3) := by decide +kernel
theorem dX6_becomesHeir_57 : decode cX6_becomesHeir 57 = .ok (.iastore, 1) := by decide +kernel
theorem dX6_becomesHeir_58 : decode cX6_becomesHeir 58 = .ok (.aload_n 0, 1) := by decide +kernel
theorem dX6_becomesHeir_59 : decode cX6_becomesHeir 59 = .ok (.dup, 1) := by decide +kernel
theorem dX6_becomesHeir_60 : decode cX6_becomesHeir 60 = .ok (.getfield 32, 3) := by decide +kernel
theorem dX6_becomesHeir_63 : decode cX6_becomesHeir 63 = .ok (.iconst 1, 1) := by decide +kernel
theorem dX6_becomesHeir_64 : decode cX6_becomesHeir 64 = .ok (.iadd, 1) := by decide +kernel
theorem dX6_becomesHeir_65 : decode cX6_becomesHeir 65 = .ok (.putfield 32, 3) := by decide +kernel
theorem dX6_becomesHeir_68 : decode cX6_becomesHeir 68 = .ok (.bipush 10, 2) := by decide +kernel
theorem dX6_becomesHeir_70 : decode cX6_becomesHeir 70 = .ok (.iload_n 3, 1) := by decide +kernel
theorem dX6_becomesHeir_71 : decode cX6_becomesHeir 71 = .ok (.aload_n 0, 1) := by decide +kernel
theorem dX6_becomesHeir_72 : decode cX6_becomesHeir 72 = .ok (.iload_n 1, 1) := by decide +kernel
theorem dX6_becomesHeir_73 : decode cX6_becomesHeir 73 = .ok (.invokevirtual 74, 3) := by decide +kernel
theorem dX6_becomesHeir_76 : decode cX6_becomesHeir 76 = .ok (.invokestatic 87, 3) := by decide +kernel
theorem dX6_becomesHeir_79 : decode cX6_becomesHeir 79 = .ok (.iadd, 1) := by decide +kernel
theorem dX6_becomesHeir_80 : decode cX6_becomesHeir 80 = .ok (.ireturn, 1) := by decide +kernel
theorem dX6_refuse_0 : decode cX6_refuse 0 = .ok (.aload_n 0, 1) := by decide +kernel
theorem dX6_refuse_1 : decode cX6_refuse 1 = .ok (.dup, 1) := by decide +kernel
theorem dX6_refuse_2 : decode cX6_refuse 2 = .ok (.getfield 35, 3) := by decide +kernel
theorem dX6_refuse_5 : decode cX6_refuse 5 = .ok (.iconst 1, 1) := by decide +kernel
theorem dX6_refuse_6 : decode cX6_refuse 6 = .ok (.iadd, 1) := by decide +kernel
theorem dX6_refuse_7 : decode cX6_refuse 7 = .ok (.putfield 35, 3) := by decide +kernel
theorem dX6_refuse_10 : decode cX6_refuse 10 = .ok (.iload_n 1, 1) := by decide +kernel
theorem dX6_refuse_11 : decode cX6_refuse 11 = .ok (.ireturn, 1) := by decide +kernel
theorem dX6_add_0 : decode cX6_add 0 = .ok (.aload_n 0, 1) := by decide +kernel
theorem dX6_add_1 : decode cX6_add 1 = .ok (.getfield 28, 3) := by decide +kernel
theorem dX6_add_4 : decode cX6_add 4 = .ok (.istore 5, 2) := by decide +kernel
theorem dX6_add_6 : decode cX6_add 6 = .ok (.iload 5, 2) := by decide +kernel
theorem dX6_add_8 : decode cX6_add 8 = .ok (.bipush 20, 2) := by decide +kernel
theorem dX6_add_10 : decode cX6_add 10 = .ok (.if_icmp .lt 6, 3) := by decide +kernel
theorem dX6_add_13 : decode cX6_add 13 = .ok (.bipush (-3), 2) := by decide +kernel
theorem dX6_add_15 : decode cX6_add 15 = .ok (.ireturn, 1) := by decide +kernel
theorem dX6_add_16 : decode cX6_add 16 = .ok (.aload_n 0, 1) := by decide +kernel
theorem dX6_add_17 : decode cX6_add 17 = .ok (.getfield 9, 3) := by decide +kernel
theorem dX6_add_20 : decode cX6_add 20 = .ok (.iload 5, 2) := by decide +kernel
theorem dX6_add_22 : decode cX6_add 22 = .ok (.iload_n 1, 1) := by decide +kernel
theorem dX6_add_23 : decode cX6_add 23 = .ok (.iastore, 1) := by decide +kernel
theorem dX6_add_24 : decode cX6_add 24 = .ok (.aload_n 0, 1) := by decide +kernel
theorem dX6_add_25 : decode cX6_add 25 = .ok (.getfield 15, 3) := by decide +kernel
theorem dX6_add_28 : decode cX6_add 28 = .ok (.iload 5, 2) := by decide +kernel
theorem dX6_add_30 : decode cX6_add 30 = .ok (.iconst 1, 1) := by decide +kernel
theorem dX6_add_31 : decode cX6_add 31 = .ok (.bastore, 1) := by decide +kernel
theorem dX6_add_32 : decode cX6_add 32 = .ok (.aload_n 0, 1) := by decide +kernel
theorem dX6_add_33 : decode cX6_add 33 = .ok (.getfield 19, 3) := by decide +kernel
theorem dX6_add_36 : decode cX6_add 36 = .ok (.iload 5, 2) := by decide +kernel
theorem dX6_add_38 : decode cX6_add 38 = .ok (.iload_n 2, 1) := by decide +kernel
theorem dX6_add_39 : decode cX6_add 39 = .ok (.iastore, 1) := by decide +kernel
theorem dX6_add_40 : decode cX6_add 40 = .ok (.aload_n 0, 1) := by decide +kernel
theorem dX6_add_41 : decode cX6_add 41 = .ok (.getfield 22, 3) := by decide +kernel
theorem dX6_add_44 : decode cX6_add 44 = .ok (.iload 5, 2) := by decide +kernel
theorem dX6_add_46 : decode cX6_add 46 = .ok (.iload_n 3, 1) := by decide +kernel
theorem dX6_add_47 : decode cX6_add 47 = .ok (.iastore, 1) := by decide +kernel
theorem dX6_add_48 : decode cX6_add 48 = .ok (.aload_n 0, 1) := by decide +kernel
theorem dX6_add_49 : decode cX6_add 49 = .ok (.getfield 25, 3) := by decide +kernel
theorem dX6_add_52 : decode cX6_add 52 = .ok (.iload 5, 2) := by decide +kernel
theorem dX6_add_54 : decode cX6_add 54 = .ok (.iload 4, 2) := by decide +kernel
theorem dX6_add_56 : decode cX6_add 56 = .ok (.iastore, 1) := by decide +kernel
theorem dX6_add_57 : decode cX6_add 57 = .ok (.aload_n 0, 1) := by decide +kernel
theorem dX6_add_58 : decode cX6_add 58 = .ok (.dup, 1) := by decide +kernel
theorem dX6_add_59 : decode cX6_add 59 = .ok (.getfield 28, 3) := by decide +kernel
theorem dX6_add_62 : decode cX6_add 62 = .ok (.iconst 1, 1) := by decide +kernel
theorem dX6_add_63 : decode cX6_add 63 = .ok (.iadd, 1) := by decide +kernel
theorem dX6_add_64 : decode cX6_add 64 = .ok (.putfield 28, 3) := by decide +kernel
theorem dX6_add_67 : decode cX6_add 67 = .ok (.bipush 10, 2) := by decide +kernel
theorem dX6_add_69 : decode cX6_add 69 = .ok (.iload 5, 2) := by decide +kernel
theorem dX6_add_71 : decode cX6_add 71 = .ok (.iadd, 1) := by decide +kernel
theorem dX6_add_72 : decode cX6_add 72 = .ok (.ireturn, 1) := by decide +kernel
theorem dX6_reasonAgainstSon_0 : decode cX6_reasonAgainstSon 0 = .ok (.aload_n 0, 1) := by decide +kernel
theorem dX6_reasonAgainstSon_1 : decode cX6_reasonAgainstSon 1 = .ok (.iload_n 1, 1) := by decide +kernel
theorem dX6_reasonAgainstSon_2 : decode cX6_reasonAgainstSon 2 = .ok (.invokevirtual 42, 3) := by decide +kernel
theorem dX6_reasonAgainstSon_5 : decode cX6_reasonAgainstSon 5 = .ok (.ifCond .ne 5, 3) := by decide +kernel
theorem dX6_reasonAgainstSon_8 : decode cX6_reasonAgainstSon 8 = .ok (.iconst 1, 1) := by decide +kernel
theorem dX6_reasonAgainstSon_9 : decode cX6_reasonAgainstSon 9 = .ok (.ireturn, 1) := by decide +kernel
theorem dX6_reasonAgainstSon_10 : decode cX6_reasonAgainstSon 10 = .ok (.aload_n 0, 1) := by decide +kernel
theorem dX6_reasonAgainstSon_11 : decode cX6_reasonAgainstSon 11 = .ok (.iload_n 1, 1) := by decide +kernel
theorem dX6_reasonAgainstSon_12 : decode cX6_reasonAgainstSon 12 = .ok (.invokevirtual 74, 3) := by decide +kernel
theorem dX6_reasonAgainstSon_15 : decode cX6_reasonAgainstSon 15 = .ok (.iload_n 2, 1) := by decide +kernel
theorem dX6_reasonAgainstSon_16 : decode cX6_reasonAgainstSon 16 = .ok (.invokestatic 91, 3) := by decide +kernel
theorem dX6_reasonAgainstSon_19 : decode cX6_reasonAgainstSon 19 = .ok (.iload_n 3, 1) := by decide +kernel
theorem dX6_reasonAgainstSon_20 : decode cX6_reasonAgainstSon 20 = .ok (.if_icmp .ne 5, 3) := by decide +kernel
theorem dX6_reasonAgainstSon_23 : decode cX6_reasonAgainstSon 23 = .ok (.iconst 2, 1) := by decide +kernel
theorem dX6_reasonAgainstSon_24 : decode cX6_reasonAgainstSon 24 = .ok (.ireturn, 1) := by decide +kernel
theorem dX6_reasonAgainstSon_25 : decode cX6_reasonAgainstSon 25 = .ok (.aload_n 0, 1) := by decide +kernel
theorem dX6_reasonAgainstSon_26 : decode cX6_reasonAgainstSon 26 = .ok (.aload_n 0, 1) := by decide +kernel
theorem dX6_reasonAgainstSon_27 : decode cX6_reasonAgainstSon 27 = .ok (.iload_n 1, 1) := by decide +kernel
theorem dX6_reasonAgainstSon_28 : decode cX6_reasonAgainstSon 28 = .ok (.invokevirtual 74, 3) := by decide +kernel
theorem dX6_reasonAgainstSon_31 : decode cX6_reasonAgainstSon 31 = .ok (.iload_n 2, 1) := by decide +kernel
theorem dX6_reasonAgainstSon_32 : decode cX6_reasonAgainstSon 32 = .ok (.iload_n 3, 1) := by decide +kernel
theorem dX6_reasonAgainstSon_33 : decode cX6_reasonAgainstSon 33 = .ok (.invokestatic 77, 3) := by decide +kernel
theorem dX6_reasonAgainstSon_36 : decode cX6_reasonAgainstSon 36 = .ok (.invokevirtual 54, 3) := by decide +kernel
theorem dX6_reasonAgainstSon_39 : decode cX6_reasonAgainstSon 39 = .ok (.iconst (-1), 1) := by decide +kernel
theorem dX6_reasonAgainstSon_40 : decode cX6_reasonAgainstSon 40 = .ok (.if_icmp .eq 5, 3) := by decide +kernel
theorem dX6_reasonAgainstSon_43 : decode cX6_reasonAgainstSon 43 = .ok (.iconst 3, 1) := by decide +kernel
theorem dX6_reasonAgainstSon_44 : decode cX6_reasonAgainstSon 44 = .ok (.ireturn, 1) := by decide +kernel
theorem dX6_reasonAgainstSon_45 : decode cX6_reasonAgainstSon 45 = .ok (.aload_n 0, 1) := by decide +kernel
theorem dX6_reasonAgainstSon_46 : decode cX6_reasonAgainstSon 46 = .ok (.iload_n 1, 1) := by decide +kernel
theorem dX6_reasonAgainstSon_47 : decode cX6_reasonAgainstSon 47 = .ok (.iload_n 2, 1) := by decide +kernel
theorem dX6_reasonAgainstSon_48 : decode cX6_reasonAgainstSon 48 = .ok (.invokevirtual 94, 3) := by decide +kernel
theorem dX6_reasonAgainstSon_51 : decode cX6_reasonAgainstSon 51 = .ok (.ifCond .eq 5, 3) := by decide +kernel
theorem dX6_reasonAgainstSon_54 : decode cX6_reasonAgainstSon 54 = .ok (.iconst 4, 1) := by decide +kernel
theorem dX6_reasonAgainstSon_55 : decode cX6_reasonAgainstSon 55 = .ok (.ireturn, 1) := by decide +kernel
theorem dX6_reasonAgainstSon_56 : decode cX6_reasonAgainstSon 56 = .ok (.aload_n 0, 1) := by decide +kernel
theorem dX6_reasonAgainstSon_57 : decode cX6_reasonAgainstSon 57 = .ok (.iload_n 1, 1) := by decide +kernel
theorem dX6_reasonAgainstSon_58 : decode cX6_reasonAgainstSon 58 = .ok (.invokevirtual 98, 3) := by decide +kernel
theorem dX6_reasonAgainstSon_61 : decode cX6_reasonAgainstSon 61 = .ok (.iconst 4, 1) := by decide +kernel
theorem dX6_reasonAgainstSon_62 : decode cX6_reasonAgainstSon 62 = .ok (.if_icmp .lt 7, 3) := by decide +kernel
theorem dX6_reasonAgainstSon_65 : decode cX6_reasonAgainstSon 65 = .ok (.iconst 5, 1) := by decide +kernel
theorem dX6_reasonAgainstSon_66 : decode cX6_reasonAgainstSon 66 = .ok (.goto 4, 3) := by decide +kernel
theorem dX6_reasonAgainstSon_69 : decode cX6_reasonAgainstSon 69 = .ok (.iconst 0, 1) := by decide +kernel
theorem dX6_reasonAgainstSon_70 : decode cX6_reasonAgainstSon 70 = .ok (.ireturn, 1) := by decide +kernel
theorem dX6_cousinChanged_0 : decode cX6_cousinChanged 0 = .ok (.iconst 0, 1) := by decide +kernel
theorem dX6_cousinChanged_1 : decode cX6_cousinChanged 1 = .ok (.istore_n 3, 1) := by decide +kernel
theorem dX6_cousinChanged_2 : decode cX6_cousinChanged 2 = .ok (.iload_n 3, 1) := by decide +kernel
theorem dX6_cousinChanged_3 : decode cX6_cousinChanged 3 = .ok (.aload_n 0, 1) := by decide +kernel
theorem dX6_cousinChanged_4 : decode cX6_cousinChanged 4 = .ok (.getfield 28, 3) := by decide +kernel
theorem dX6_cousinChanged_7 : decode cX6_cousinChanged 7 = .ok (.if_icmp .ge 41, 3) := by decide +kernel
theorem dX6_cousinChanged_10 : decode cX6_cousinChanged 10 = .ok (.aload_n 0, 1) := by decide +kernel
theorem dX6_cousinChanged_11 : decode cX6_cousinChanged 11 = .ok (.iload_n 3, 1) := by decide +kernel
theorem dX6_cousinChanged_12 : decode cX6_cousinChanged 12 = .ok (.invokevirtual 42, 3) := by decide +kernel
theorem dX6_cousinChanged_15 : decode cX6_cousinChanged 15 = .ok (.ifCond .eq 27, 3) := by decide +kernel
theorem dX6_cousinChanged_18 : decode cX6_cousinChanged 18 = .ok (.aload_n 0, 1) := by decide +kernel
theorem dX6_cousinChanged_19 : decode cX6_cousinChanged 19 = .ok (.iload_n 3, 1) := by decide +kernel
theorem dX6_cousinChanged_20 : decode cX6_cousinChanged 20 = .ok (.invokevirtual 101, 3) := by decide +kernel
theorem dX6_cousinChanged_23 : decode cX6_cousinChanged 23 = .ok (.iload_n 2, 1) := by decide +kernel
theorem dX6_cousinChanged_24 : decode cX6_cousinChanged 24 = .ok (.if_icmp .ne 18, 3) := by decide +kernel
theorem dX6_cousinChanged_27 : decode cX6_cousinChanged 27 = .ok (.aload_n 0, 1) := by decide +kernel
theorem dX6_cousinChanged_28 : decode cX6_cousinChanged 28 = .ok (.aload_n 0, 1) := by decide +kernel
theorem dX6_cousinChanged_29 : decode cX6_cousinChanged 29 = .ok (.iload_n 3, 1) := by decide +kernel
theorem dX6_cousinChanged_30 : decode cX6_cousinChanged 30 = .ok (.invokevirtual 45, 3) := by decide +kernel
theorem dX6_cousinChanged_33 : decode cX6_cousinChanged 33 = .ok (.iload_n 1, 1) := by decide +kernel
theorem dX6_cousinChanged_34 : decode cX6_cousinChanged 34 = .ok (.invokevirtual 104, 3) := by decide +kernel
theorem dX6_cousinChanged_37 : decode cX6_cousinChanged 37 = .ok (.ifCond .eq 5, 3) := by decide +kernel
theorem dX6_cousinChanged_40 : decode cX6_cousinChanged 40 = .ok (.iconst 1, 1) := by decide +kernel
theorem dX6_cousinChanged_41 : decode cX6_cousinChanged 41 = .ok (.ireturn, 1) := by decide +kernel
theorem dX6_cousinChanged_42 : decode cX6_cousinChanged 42 = .ok (.iinc 3 1, 3) := by decide +kernel
theorem dX6_cousinChanged_45 : decode cX6_cousinChanged 45 = .ok (.goto (-43), 3) := by decide +kernel
theorem dX6_cousinChanged_48 : decode cX6_cousinChanged 48 = .ok (.iconst 0, 1) := by decide +kernel
theorem dX6_cousinChanged_49 : decode cX6_cousinChanged 49 = .ok (.ireturn, 1) := by decide +kernel
theorem dX6_reasonAgainstHeir_0 : decode cX6_reasonAgainstHeir 0 = .ok (.aload_n 0, 1) := by decide +kernel
theorem dX6_reasonAgainstHeir_1 : decode cX6_reasonAgainstHeir 1 = .ok (.iload_n 1, 1) := by decide +kernel
theorem dX6_reasonAgainstHeir_2 : decode cX6_reasonAgainstHeir 2 = .ok (.invokevirtual 45, 3) := by decide +kernel
theorem dX6_reasonAgainstHeir_5 : decode cX6_reasonAgainstHeir 5 = .ok (.istore_n 2, 1) := by decide +kernel
theorem dX6_reasonAgainstHeir_6 : decode cX6_reasonAgainstHeir 6 = .ok (.iload_n 2, 1) := by decide +kernel
theorem dX6_reasonAgainstHeir_7 : decode cX6_reasonAgainstHeir 7 = .ok (.iconst (-1), 1) := by decide +kernel
theorem dX6_reasonAgainstHeir_8 : decode cX6_reasonAgainstHeir 8 = .ok (.if_icmp .eq 11, 3) := by decide +kernel
theorem dX6_reasonAgainstHeir_11 : decode cX6_reasonAgainstHeir 11 = .ok (.aload_n 0, 1) := by decide +kernel
theorem dX6_reasonAgainstHeir_12 : decode cX6_reasonAgainstHeir 12 = .ok (.iload_n 2, 1) := by decide +kernel
theorem dX6_reasonAgainstHeir_13 : decode cX6_reasonAgainstHeir 13 = .ok (.invokevirtual 42, 3) := by decide +kernel
theorem dX6_reasonAgainstHeir_16 : decode cX6_reasonAgainstHeir 16 = .ok (.ifCond .eq 6, 3) := by decide +kernel
theorem dX6_reasonAgainstHeir_19 : decode cX6_reasonAgainstHeir 19 = .ok (.bipush 7, 2) := by decide +kernel
theorem dX6_reasonAgainstHeir_21 : decode cX6_reasonAgainstHeir 21 = .ok (.ireturn, 1) := by decide +kernel
theorem dX6_reasonAgainstHeir_22 : decode cX6_reasonAgainstHeir 22 = .ok (.iconst 0, 1) := by decide +kernel
theorem dX6_reasonAgainstHeir_23 : decode cX6_reasonAgainstHeir 23 = .ok (.istore_n 3, 1) := by decide +kernel
theorem dX6_reasonAgainstHeir_24 : decode cX6_reasonAgainstHeir 24 = .ok (.iload_n 3, 1) := by decide +kernel
theorem dX6_reasonAgainstHeir_25 : decode cX6_reasonAgainstHeir 25 = .ok (.iload_n 1, 1) := by decide +kernel
theorem dX6_reasonAgainstHeir_26 : decode cX6_reasonAgainstHeir 26 = .ok (.if_icmp .ge 29, 3) := by decide +kernel
theorem dX6_reasonAgainstHeir_29 : decode cX6_reasonAgainstHeir 29 = .ok (.aload_n 0, 1) := by decide +kernel
theorem dX6_reasonAgainstHeir_30 : decode cX6_reasonAgainstHeir 30 = .ok (.iload_n 3, 1) := by decide +kernel
theorem dX6_reasonAgainstHeir_31 : decode cX6_reasonAgainstHeir 31 = .ok (.invokevirtual 42, 3) := by decide +kernel
theorem dX6_reasonAgainstHeir_34 : decode cX6_reasonAgainstHeir 34 = .ok (.ifCond .eq 15, 3) := by decide +kernel
theorem dX6_reasonAgainstHeir_37 : decode cX6_reasonAgainstHeir 37 = .ok (.aload_n 0, 1) := by decide +kernel
theorem dX6_reasonAgainstHeir_38 : decode cX6_reasonAgainstHeir 38 = .ok (.iload_n 3, 1) := by decide +kernel
theorem dX6_reasonAgainstHeir_39 : decode cX6_reasonAgainstHeir 39 = .ok (.iload_n 1, 1) := by decide +kernel
theorem dX6_reasonAgainstHeir_40 : decode cX6_reasonAgainstHeir 40 = .ok (.invokevirtual 104, 3) := by decide +kernel
theorem dX6_reasonAgainstHeir_43 : decode cX6_reasonAgainstHeir 43 = .ok (.ifCond .eq 6, 3) := by decide +kernel
theorem dX6_reasonAgainstHeir_46 : decode cX6_reasonAgainstHeir 46 = .ok (.bipush 8, 2) := by decide +kernel
theorem dX6_reasonAgainstHeir_48 : decode cX6_reasonAgainstHeir 48 = .ok (.ireturn, 1) := by decide +kernel
theorem dX6_reasonAgainstHeir_49 : decode cX6_reasonAgainstHeir 49 = .ok (.iinc 3 1, 3) := by decide +kernel
theorem dX6_reasonAgainstHeir_52 : decode cX6_reasonAgainstHeir 52 = .ok (.goto (-28), 3) := by decide +kernel
theorem dX6_reasonAgainstHeir_55 : decode cX6_reasonAgainstHeir 55 = .ok (.aload_n 0, 1) := by decide +kernel
theorem dX6_reasonAgainstHeir_56 : decode cX6_reasonAgainstHeir 56 = .ok (.aload_n 0, 1) := by decide +kernel
theorem dX6_reasonAgainstHeir_57 : decode cX6_reasonAgainstHeir 57 = .ok (.iload_n 2, 1) := by decide +kernel
theorem dX6_reasonAgainstHeir_58 : decode cX6_reasonAgainstHeir 58 = .ok (.invokevirtual 74, 3) := by decide +kernel
theorem dX6_reasonAgainstHeir_61 : decode cX6_reasonAgainstHeir 61 = .ok (.invokevirtual 54, 3) := by decide +kernel
theorem dX6_reasonAgainstHeir_64 : decode cX6_reasonAgainstHeir 64 = .ok (.iconst (-1), 1) := by decide +kernel
theorem dX6_reasonAgainstHeir_65 : decode cX6_reasonAgainstHeir 65 = .ok (.if_icmp .eq 7, 3) := by decide +kernel
theorem dX6_reasonAgainstHeir_68 : decode cX6_reasonAgainstHeir 68 = .ok (.iconst 3, 1) := by decide +kernel
theorem dX6_reasonAgainstHeir_69 : decode cX6_reasonAgainstHeir 69 = .ok (.goto 4, 3) := by decide +kernel
theorem dX6_reasonAgainstHeir_72 : decode cX6_reasonAgainstHeir 72 = .ok (.iconst 0, 1) := by decide +kernel
theorem dX6_reasonAgainstHeir_73 : decode cX6_reasonAgainstHeir 73 = .ok (.ireturn, 1) := by decide +kernel
theorem dX7_init_0 : decode cX7_init 0 = .ok (.aload_n 0, 1) := by decide +kernel
theorem dX7_init_1 : decode cX7_init 1 = .ok (.invokespecial 3, 3) := by decide +kernel
theorem dX7_init_4 : decode cX7_init 4 = .ok (.aload_n 0, 1) := by decide +kernel
theorem dX7_init_5 : decode cX7_init 5 = .ok (.sipush 245, 3) := by decide +kernel
theorem dX7_init_8 : decode cX7_init 8 = .ok (.newarray .long, 2) := by decide +kernel
theorem dX7_init_10 : decode cX7_init 10 = .ok (.putfield 11, 3) := by decide +kernel
theorem dX7_init_13 : decode cX7_init 13 = .ok (.return_, 1) := by decide +kernel
theorem dX7_has_0 : decode cX7_has 0 = .ok (.iload_n 1, 1) := by decide +kernel
theorem dX7_has_1 : decode cX7_has 1 = .ok (.invokestatic 15, 3) := by decide +kernel
theorem dX7_has_4 : decode cX7_has 4 = .ok (.ifCond .eq 28, 3) := by decide +kernel
theorem dX7_has_7 : decode cX7_has 7 = .ok (.aload_n 0, 1) := by decide +kernel
theorem dX7_has_8 : decode cX7_has 8 = .ok (.getfield 11, 3) := by decide +kernel
theorem dX7_has_11 : decode cX7_has 11 = .ok (.iload_n 1, 1) := by decide +kernel
theorem dX7_has_12 : decode cX7_has 12 = .ok (.bipush 6, 2) := by decide +kernel
theorem dX7_has_14 : decode cX7_has 14 = .ok (.ishr, 1) := by decide +kernel
theorem dX7_has_15 : decode cX7_has 15 = .ok (.laload, 1) := by decide +kernel
theorem dX7_has_16 : decode cX7_has 16 = .ok (.iload_n 1, 1) := by decide +kernel
theorem dX7_has_17 : decode cX7_has 17 = .ok (.bipush 63, 2) := by decide +kernel
theorem dX7_has_19 : decode cX7_has 19 = .ok (.iand, 1) := by decide +kernel
theorem dX7_has_20 : decode cX7_has 20 = .ok (.lushr, 1) := by decide +kernel
theorem dX7_has_21 : decode cX7_has 21 = .ok (.lconst 1, 1) := by decide +kernel
theorem dX7_has_22 : decode cX7_has 22 = .ok (.land, 1) := by decide +kernel
theorem dX7_has_23 : decode cX7_has 23 = .ok (.lconst 0, 1) := by decide +kernel
theorem dX7_has_24 : decode cX7_has 24 = .ok (.lcmp, 1) := by decide +kernel
theorem dX7_has_25 : decode cX7_has 25 = .ok (.ifCond .eq 7, 3) := by decide +kernel
theorem dX7_has_28 : decode cX7_has 28 = .ok (.iconst 1, 1) := by decide +kernel
theorem dX7_has_29 : decode cX7_has 29 = .ok (.goto 4, 3) := by decide +kernel
theorem dX7_has_32 : decode cX7_has 32 = .ok (.iconst 0, 1) := by decide +kernel
theorem dX7_has_33 : decode cX7_has 33 = .ok (.ireturn, 1) := by decide +kernel
theorem dX7_add_0 : decode cX7_add 0 = .ok (.iload_n 1, 1) := by decide +kernel
theorem dX7_add_1 : decode cX7_add 1 = .ok (.invokestatic 15, 3) := by decide +kernel
theorem dX7_add_4 : decode cX7_add 4 = .ok (.ifCond .eq 21, 3) := by decide +kernel
theorem dX7_add_7 : decode cX7_add 7 = .ok (.aload_n 0, 1) := by decide +kernel
theorem dX7_add_8 : decode cX7_add 8 = .ok (.getfield 11, 3) := by decide +kernel
theorem dX7_add_11 : decode cX7_add 11 = .ok (.iload_n 1, 1) := by decide +kernel
theorem dX7_add_12 : decode cX7_add 12 = .ok (.bipush 6, 2) := by decide +kernel
theorem dX7_add_14 : decode cX7_add 14 = .ok (.ishr, 1) := by decide +kernel
theorem dX7_add_15 : decode cX7_add 15 = .ok (.dup2, 1) := by decide +kernel
theorem dX7_add_16 : decode cX7_add 16 = .ok (.laload, 1) := by decide +kernel
theorem dX7_add_17 : decode cX7_add 17 = .ok (.lconst 1, 1) := by decide +kernel
theorem dX7_add_18 : decode cX7_add 18 = .ok (.iload_n 1, 1) := by decide +kernel
theorem dX7_add_19 : decode cX7_add 19 = .ok (.bipush 63, 2) := by decide +kernel
theorem dX7_add_21 : decode cX7_add 21 = .ok (.iand, 1) := by decide +kernel
theorem dX7_add_22 : decode cX7_add 22 = .ok (.lshl, 1) := by decide +kernel
theorem dX7_add_23 : decode cX7_add 23 = .ok (.lor, 1) := by decide +kernel
theorem dX7_add_24 : decode cX7_add 24 = .ok (.lastore, 1) := by decide +kernel
theorem dX7_add_25 : decode cX7_add 25 = .ok (.return_, 1) := by decide +kernel
theorem dX7_empty_0 : decode cX7_empty 0 = .ok (.iconst 0, 1) := by decide +kernel
theorem dX7_empty_1 : decode cX7_empty 1 = .ok (.istore_n 1, 1) := by decide +kernel
theorem dX7_empty_2 : decode cX7_empty 2 = .ok (.iload_n 1, 1) := by decide +kernel
theorem dX7_empty_3 : decode cX7_empty 3 = .ok (.sipush 245, 3) := by decide +kernel
theorem dX7_empty_6 : decode cX7_empty 6 = .ok (.if_icmp .ge 16, 3) := by decide +kernel
theorem dX7_empty_9 : decode cX7_empty 9 = .ok (.aload_n 0, 1) := by decide +kernel
theorem dX7_empty_10 : decode cX7_empty 10 = .ok (.getfield 11, 3) := by decide +kernel
theorem dX7_empty_13 : decode cX7_empty 13 = .ok (.iload_n 1, 1) := by decide +kernel
theorem dX7_empty_14 : decode cX7_empty 14 = .ok (.lconst 0, 1) := by decide +kernel
theorem dX7_empty_15 : decode cX7_empty 15 = .ok (.lastore, 1) := by decide +kernel
theorem dX7_empty_16 : decode cX7_empty 16 = .ok (.iinc 1 1, 3) := by decide +kernel
theorem dX7_empty_19 : decode cX7_empty 19 = .ok (.goto (-17), 3) := by decide +kernel
theorem dX7_empty_22 : decode cX7_empty 22 = .ok (.return_, 1) := by decide +kernel
theorem dX7_isWordEmpty_0 : decode cX7_isWordEmpty 0 = .ok (.iload_n 1, 1) := by decide +kernel
theorem dX7_isWordEmpty_1 : decode cX7_isWordEmpty 1 = .ok (.ifCond .lt 21, 3) := by decide +kernel
theorem dX7_isWordEmpty_4 : decode cX7_isWordEmpty 4 = .ok (.iload_n 1, 1) := by decide +kernel
theorem dX7_isWordEmpty_5 : decode cX7_isWordEmpty 5 = .ok (.sipush 245, 3) := by decide +kernel
theorem dX7_isWordEmpty_8 : decode cX7_isWordEmpty 8 = .ok (.if_icmp .ge 14, 3) := by decide +kernel
theorem dX7_isWordEmpty_11 : decode cX7_isWordEmpty 11 = .ok (.aload_n 0, 1) := by decide +kernel
theorem dX7_isWordEmpty_12 : decode cX7_isWordEmpty 12 = .ok (.getfield 11, 3) := by decide +kernel
theorem dX7_isWordEmpty_15 : decode cX7_isWordEmpty 15 = .ok (.iload_n 1, 1) := by decide +kernel
theorem dX7_isWordEmpty_16 : decode cX7_isWordEmpty 16 = .ok (.laload, 1) := by decide +kernel
theorem dX7_isWordEmpty_17 : decode cX7_isWordEmpty 17 = .ok (.lconst 0, 1) := by decide +kernel
theorem dX7_isWordEmpty_18 : decode cX7_isWordEmpty 18 = .ok (.lcmp, 1) := by decide +kernel
theorem dX7_isWordEmpty_19 : decode cX7_isWordEmpty 19 = .ok (.ifCond .ne 7, 3) := by decide +kernel
theorem dX7_isWordEmpty_22 : decode cX7_isWordEmpty 22 = .ok (.iconst 1, 1) := by decide +kernel
theorem dX7_isWordEmpty_23 : decode cX7_isWordEmpty 23 = .ok (.goto 4, 3) := by decide +kernel
theorem dX7_isWordEmpty_26 : decode cX7_isWordEmpty 26 = .ok (.iconst 0, 1) := by decide +kernel
theorem dX7_isWordEmpty_27 : decode cX7_isWordEmpty 27 = .ok (.ireturn, 1) := by decide +kernel
theorem dX8_isShield_0 : decode cX8_isShield 0 = .ok (.iload_n 0, 1) := by decide +kernel
theorem dX8_isShield_1 : decode cX8_isShield 1 = .ok (.ifCond .lt 14, 3) := by decide +kernel
theorem dX8_isShield_4 : decode cX8_isShield 4 = .ok (.iload_n 0, 1) := by decide +kernel
theorem dX8_isShield_5 : decode cX8_isShield 5 = .ok (.sipush 15625, 3) := by decide +kernel
theorem dX8_isShield_8 : decode cX8_isShield 8 = .ok (.if_icmp .ge 7, 3) := by decide +kernel
theorem dX8_isShield_11 : decode cX8_isShield 11 = .ok (.iconst 1, 1) := by decide +kernel
theorem dX8_isShield_12 : decode cX8_isShield 12 = .ok (.goto 4, 3) := by decide +kernel
theorem dX8_isShield_15 : decode cX8_isShield 15 = .ok (.iconst 0, 1) := by decide +kernel
theorem dX8_isShield_16 : decode cX8_isShield 16 = .ok (.ireturn, 1) := by decide +kernel
theorem dX8_isPlace_0 : decode cX8_isPlace 0 = .ok (.iload_n 0, 1) := by decide +kernel
theorem dX8_isPlace_1 : decode cX8_isPlace 1 = .ok (.ifCond .lt 13, 3) := by decide +kernel
theorem dX8_isPlace_4 : decode cX8_isPlace 4 = .ok (.iload_n 0, 1) := by decide +kernel
theorem dX8_isPlace_5 : decode cX8_isPlace 5 = .ok (.bipush 6, 2) := by decide +kernel
theorem dX8_isPlace_7 : decode cX8_isPlace 7 = .ok (.if_icmp .ge 7, 3) := by decide +kernel
theorem dX8_isPlace_10 : decode cX8_isPlace 10 = .ok (.iconst 1, 1) := by decide +kernel
theorem dX8_isPlace_11 : decode cX8_isPlace 11 = .ok (.goto 4, 3) := by decide +kernel
theorem dX8_isPlace_14 : decode cX8_isPlace 14 = .ok (.iconst 0, 1) := by decide +kernel
theorem dX8_isPlace_15 : decode cX8_isPlace 15 = .ok (.ireturn, 1) := by decide +kernel
theorem dX8_isMark_0 : decode cX8_isMark 0 = .ok (.iload_n 0, 1) := by decide +kernel
theorem dX8_isMark_1 : decode cX8_isMark 1 = .ok (.ifCond .lt 12, 3) := by decide +kernel
theorem dX8_isMark_4 : decode cX8_isMark 4 = .ok (.iload_n 0, 1) := by decide +kernel
theorem dX8_isMark_5 : decode cX8_isMark 5 = .ok (.iconst 5, 1) := by decide +kernel
theorem dX8_isMark_6 : decode cX8_isMark 6 = .ok (.if_icmp .ge 7, 3) := by decide +kernel
theorem dX8_isMark_9 : decode cX8_isMark 9 = .ok (.iconst 1, 1) := by decide +kernel
theorem dX8_isMark_10 : decode cX8_isMark 10 = .ok (.goto 4, 3) := by decide +kernel
theorem dX8_isMark_13 : decode cX8_isMark 13 = .ok (.iconst 0, 1) := by decide +kernel
theorem dX8_isMark_14 : decode cX8_isMark 14 = .ok (.ireturn, 1) := by decide +kernel
theorem dX8_markAt_0 : decode cX8_markAt 0 = .ok (.iload_n 0, 1) := by decide +kernel
theorem dX8_markAt_1 : decode cX8_markAt 1 = .ok (.istore_n 2, 1) := by decide +kernel
theorem dX8_markAt_2 : decode cX8_markAt 2 = .ok (.iconst 0, 1) := by decide +kernel
theorem dX8_markAt_3 : decode cX8_markAt 3 = .ok (.istore_n 3, 1) := by decide +kernel
theorem dX8_markAt_4 : decode cX8_markAt 4 = .ok (.iload_n 3, 1) := by decide +kernel
theorem dX8_markAt_5 : decode cX8_markAt 5 = .ok (.iload_n 1, 1) := by decide +kernel
theorem dX8_markAt_6 : decode cX8_markAt 6 = .ok (.if_icmp .ge 19, 3) := by decide +kernel
theorem dX8_markAt_9 : decode cX8_markAt 9 = .ok (.iload_n 3, 1) := by decide +kernel
theorem dX8_markAt_10 : decode cX8_markAt 10 = .ok (.bipush 6, 2) := by decide +kernel
theorem dX8_markAt_12 : decode cX8_markAt 12 = .ok (.if_icmp .ge 13, 3) := by decide +kernel
theorem dX8_markAt_15 : decode cX8_markAt 15 = .ok (.iload_n 2, 1) := by decide +kernel
theorem dX8_markAt_16 : decode cX8_markAt 16 = .ok (.iconst 5, 1) := by decide +kernel
theorem dX8_markAt_17 : decode cX8_markAt 17 = .ok (.idiv, 1) := by decide +kernel
theorem dX8_markAt_18 : decode cX8_markAt 18 = .ok (.istore_n 2, 1) := by decide +kernel
theorem dX8_markAt_19 : decode cX8_markAt 19 = .ok (.iinc 3 1, 3) := by decide +kernel
theorem dX8_markAt_22 : decode cX8_markAt 22 = .ok (.goto (-18), 3) := by decide +kernel
theorem dX8_markAt_25 : decode cX8_markAt 25 = .ok (.iload_n 2, 1) := by decide +kernel
theorem dX8_markAt_26 : decode cX8_markAt 26 = .ok (.iconst 5, 1) := by decide +kernel
theorem dX8_markAt_27 : decode cX8_markAt 27 = .ok (.irem, 1) := by decide +kernel
theorem dX8_markAt_28 : decode cX8_markAt 28 = .ok (.ireturn, 1) := by decide +kernel
theorem dX8_weightOf_0 : decode cX8_weightOf 0 = .ok (.iconst 1, 1) := by decide +kernel
theorem dX8_weightOf_1 : decode cX8_weightOf 1 = .ok (.istore_n 1, 1) := by decide +kernel
theorem dX8_weightOf_2 : decode cX8_weightOf 2 = .ok (.iconst 0, 1) := by decide +kernel
theorem dX8_weightOf_3 : decode cX8_weightOf 3 = .ok (.istore_n 2, 1) := by decide +kernel
theorem dX8_weightOf_4 : decode cX8_weightOf 4 = .ok (.iload_n 2, 1) := by decide +kernel
theorem dX8_weightOf_5 : decode cX8_weightOf 5 = .ok (.iload_n 0, 1) := by decide +kernel
theorem dX8_weightOf_6 : decode cX8_weightOf 6 = .ok (.if_icmp .ge 19, 3) := by decide +kernel
theorem dX8_weightOf_9 : decode cX8_weightOf 9 = .ok (.iload_n 2, 1) := by decide +kernel
theorem dX8_weightOf_10 : decode cX8_weightOf 10 = .ok (.bipush 6, 2) := by decide +kernel
theorem dX8_weightOf_12 : decode cX8_weightOf 12 = .ok (.if_icmp .ge 13, 3) := by decide +kernel
theorem dX8_weightOf_15 : decode cX8_weightOf 15 = .ok (.iload_n 1, 1) := by decide +kernel
theorem dX8_weightOf_16 : decode cX8_weightOf 16 = .ok (.iconst 5, 1) := by decide +kernel
theorem dX8_weightOf_17 : decode cX8_weightOf 17 = .ok (.imul, 1) := by decide +kernel
theorem dX8_weightOf_18 : decode cX8_weightOf 18 = .ok (.istore_n 1, 1) := by decide +kernel
theorem dX8_weightOf_19 : decode cX8_weightOf 19 = .ok (.iinc 2 1, 3) := by decide +kernel
theorem dX8_weightOf_22 : decode cX8_weightOf 22 = .ok (.goto (-18), 3) := by decide +kernel
theorem dX8_weightOf_25 : decode cX8_weightOf 25 = .ok (.iload_n 1, 1) := by decide +kernel
theorem dX8_weightOf_26 : decode cX8_weightOf 26 = .ok (.ireturn, 1) := by decide +kernel
theorem dX8_withMark_0 : decode cX8_withMark 0 = .ok (.iload_n 0, 1) := by decide +kernel
theorem dX8_withMark_1 : decode cX8_withMark 1 = .ok (.iload_n 2, 1) := by decide +kernel
theorem dX8_withMark_2 : decode cX8_withMark 2 = .ok (.iload_n 0, 1) := by decide +kernel
theorem dX8_withMark_3 : decode cX8_withMark 3 = .ok (.iload_n 1, 1) := by decide +kernel
theorem dX8_withMark_4 : decode cX8_withMark 4 = .ok (.invokestatic 9, 3) := by decide +kernel
theorem dX8_withMark_7 : decode cX8_withMark 7 = .ok (.isub, 1) := by decide +kernel
theorem dX8_withMark_8 : decode cX8_withMark 8 = .ok (.iload_n 1, 1) := by decide +kernel
theorem dX8_withMark_9 : decode cX8_withMark 9 = .ok (.invokestatic 15, 3) := by decide +kernel
theorem dX8_withMark_12 : decode cX8_withMark 12 = .ok (.imul, 1) := by decide +kernel
theorem dX8_withMark_13 : decode cX8_withMark 13 = .ok (.iadd, 1) := by decide +kernel
theorem dX8_withMark_14 : decode cX8_withMark 14 = .ok (.ireturn, 1) := by decide +kernel
theorem dX8_apart_0 : decode cX8_apart 0 = .ok (.iconst 0, 1) := by decide +kernel
theorem dX8_apart_1 : decode cX8_apart 1 = .ok (.istore_n 2, 1) := by decide +kernel
theorem dX8_apart_2 : decode cX8_apart 2 = .ok (.iconst 0, 1) := by decide +kernel
theorem dX8_apart_3 : decode cX8_apart 3 = .ok (.istore_n 3, 1) := by decide +kernel
theorem dX8_apart_4 : decode cX8_apart 4 = .ok (.iload_n 3, 1) := by decide +kernel
theorem dX8_apart_5 : decode cX8_apart 5 = .ok (.bipush 6, 2) := by decide +kernel
theorem dX8_apart_7 : decode cX8_apart 7 = .ok (.if_icmp .ge 29, 3) := by decide +kernel
theorem dX8_apart_10 : decode cX8_apart 10 = .ok (.iload_n 0, 1) := by decide +kernel
theorem dX8_apart_11 : decode cX8_apart 11 = .ok (.iconst 5, 1) := by decide +kernel
theorem dX8_apart_12 : decode cX8_apart 12 = .ok (.irem, 1) := by decide +kernel
theorem dX8_apart_13 : decode cX8_apart 13 = .ok (.iload_n 1, 1) := by decide +kernel
theorem dX8_apart_14 : decode cX8_apart 14 = .ok (.iconst 5, 1) := by decide +kernel
theorem dX8_apart_15 : decode cX8_apart 15 = .ok (.irem, 1) := by decide +kernel
theorem dX8_apart_16 : decode cX8_apart 16 = .ok (.if_icmp .eq 6, 3) := by decide +kernel
theorem dX8_apart_19 : decode cX8_apart 19 = .ok (.iinc 2 1, 3) := by decide +kernel
theorem dX8_apart_22 : decode cX8_apart 22 = .ok (.iload_n 0, 1) := by decide +kernel
theorem dX8_apart_23 : decode cX8_apart 23 = .ok (.iconst 5, 1) := by decide +kernel
theorem dX8_apart_24 : decode cX8_apart 24 = .ok (.idiv, 1) := by decide +kernel
theorem dX8_apart_25 : decode cX8_apart 25 = .ok (.istore_n 0, 1) := by decide +kernel
theorem dX8_apart_26 : decode cX8_apart 26 = .ok (.iload_n 1, 1) := by decide +kernel
theorem dX8_apart_27 : decode cX8_apart 27 = .ok (.iconst 5, 1) := by decide +kernel
theorem dX8_apart_28 : decode cX8_apart 28 = .ok (.idiv, 1) := by decide +kernel
theorem dX8_apart_29 : decode cX8_apart 29 = .ok (.istore_n 1, 1) := by decide +kernel
theorem dX8_apart_30 : decode cX8_apart 30 = .ok (.iinc 3 1, 3) := by decide +kernel
theorem dX8_apart_33 : decode cX8_apart 33 = .ok (.goto (-29), 3) := by decide +kernel
theorem dX8_apart_36 : decode cX8_apart 36 = .ok (.iload_n 2, 1) := by decide +kernel
theorem dX8_apart_37 : decode cX8_apart 37 = .ok (.ireturn, 1) := by decide +kernel
theorem dX9_init_0 : decode cX9_init 0 = .ok (.aload_n 0, 1) := by decide +kernel
theorem dX9_init_1 : decode cX9_init 1 = .ok (.invokespecial 1, 3) := by decide +kernel
theorem dX9_init_4 : decode cX9_init 4 = .ok (.aload_n 0, 1) := by decide +kernel
theorem dX9_init_5 : decode cX9_init 5 = .ok (.new 7, 3) := by decide +kernel
theorem dX9_init_8 : decode cX9_init 8 = .ok (.dup, 1) := by decide +kernel
theorem dX9_init_9 : decode cX9_init 9 = .ok (.invokespecial 9, 3) := by decide +kernel
theorem dX9_init_12 : decode cX9_init 12 = .ok (.putfield 10, 3) := by decide +kernel
theorem dX9_init_15 : decode cX9_init 15 = .ok (.aload_n 0, 1) := by decide +kernel
theorem dX9_init_16 : decode cX9_init 16 = .ok (.new 7, 3) := by decide +kernel
theorem dX9_init_19 : decode cX9_init 19 = .ok (.dup, 1) := by decide +kernel
theorem dX9_init_20 : decode cX9_init 20 = .ok (.invokespecial 9, 3) := by decide +kernel
theorem dX9_init_23 : decode cX9_init 23 = .ok (.putfield 16, 3) := by decide +kernel
theorem dX9_init_26 : decode cX9_init 26 = .ok (.aload_n 0, 1) := by decide +kernel
theorem dX9_init_27 : decode cX9_init 27 = .ok (.new 7, 3) := by decide +kernel
theorem dX9_init_30 : decode cX9_init 30 = .ok (.dup, 1) := by decide +kernel
theorem dX9_init_31 : decode cX9_init 31 = .ok (.invokespecial 9, 3) := by decide +kernel
theorem dX9_init_34 : decode cX9_init 34 = .ok (.putfield 19, 3) := by decide +kernel
theorem dX9_init_37 : decode cX9_init 37 = .ok (.aload_n 0, 1) := by decide +kernel
theorem dX9_init_38 : decode cX9_init 38 = .ok (.new 22, 3) := by decide +kernel
theorem dX9_init_41 : decode cX9_init 41 = .ok (.dup, 1) := by decide +kernel
theorem dX9_init_42 : decode cX9_init 42 = .ok (.invokespecial 24, 3) := by decide +kernel
theorem dX9_init_45 : decode cX9_init 45 = .ok (.putfield 25, 3) := by decide +kernel
theorem dX9_init_48 : decode cX9_init 48 = .ok (.aload_n 0, 1) := by decide +kernel
theorem dX9_init_49 : decode cX9_init 49 = .ok (.new 29, 3) := by decide +kernel
theorem dX9_init_52 : decode cX9_init 52 = .ok (.dup, 1) := by decide +kernel
theorem dX9_init_53 : decode cX9_init 53 = .ok (.invokespecial 31, 3) := by decide +kernel
theorem dX9_init_56 : decode cX9_init 56 = .ok (.putfield 32, 3) := by decide +kernel
theorem dX9_init_59 : decode cX9_init 59 = .ok (.aload_n 0, 1) := by decide +kernel
theorem dX9_init_60 : decode cX9_init 60 = .ok (.new 36, 3) := by decide +kernel
theorem dX9_init_63 : decode cX9_init 63 = .ok (.dup, 1) := by decide +kernel
theorem dX9_init_64 : decode cX9_init 64 = .ok (.invokespecial 38, 3) := by decide +kernel
theorem dX9_init_67 : decode cX9_init 67 = .ok (.putfield 39, 3) := by decide +kernel
theorem dX9_init_70 : decode cX9_init 70 = .ok (.aload_n 0, 1) := by decide +kernel
theorem dX9_init_71 : decode cX9_init 71 = .ok (.iconst 0, 1) := by decide +kernel
theorem dX9_init_72 : decode cX9_init 72 = .ok (.putfield 43, 3) := by decide +kernel
theorem dX9_init_75 : decode cX9_init 75 = .ok (.aload_n 0, 1) := by decide +kernel
theorem dX9_init_76 : decode cX9_init 76 = .ok (.iconst 0, 1) := by decide +kernel
theorem dX9_init_77 : decode cX9_init 77 = .ok (.putfield 47, 3) := by decide +kernel
theorem dX9_init_80 : decode cX9_init 80 = .ok (.aload_n 0, 1) := by decide +kernel
theorem dX9_init_81 : decode cX9_init 81 = .ok (.iconst 0, 1) := by decide +kernel
theorem dX9_init_82 : decode cX9_init 82 = .ok (.putfield 51, 3) := by decide +kernel
theorem dX9_init_85 : decode cX9_init 85 = .ok (.aload_n 0, 1) := by decide +kernel
theorem dX9_init_86 : decode cX9_init 86 = .ok (.iconst 0, 1) := by decide +kernel
theorem dX9_init_87 : decode cX9_init 87 = .ok (.putfield 54, 3) := by decide +kernel
theorem dX9_init_90 : decode cX9_init 90 = .ok (.return_, 1) := by decide +kernel
end
section
theorem dX9_found_0 : decode cX9_found 0 = .ok (.aload_n 0, 1) := by decide +kernel
theorem dX9_found_1 : decode cX9_found 1 = .ok (.getfield 25, 3) := by decide +kernel
theorem dX9_found_4 : decode cX9_found 4 = .ok (.aload_n 0, 1) := by decide +kernel
theorem dX9_found_5 : decode cX9_found 5 = .ok (.getfield 10, 3) := by decide +kernel
theorem dX9_found_8 : decode cX9_found 8 = .ok (.invokevirtual 57, 3) := by decide +kernel
theorem dX9_found_11 : decode cX9_found 11 = .ok (.aload_n 0, 1) := by decide +kernel
theorem dX9_found_12 : decode cX9_found 12 = .ok (.aload_n 0, 1) := by decide +kernel
theorem dX9_found_13 : decode cX9_found 13 = .ok (.getfield 10, 3) := by decide +kernel
theorem dX9_found_16 : decode cX9_found 16 = .ok (.iload_n 1, 1) := by decide +kernel
theorem dX9_found_17 : decode cX9_found 17 = .ok (.invokevirtual 61, 3) := by decide +kernel
theorem dX9_found_20 : decode cX9_found 20 = .ok (.invokevirtual 65, 3) := by decide +kernel
theorem dX9_found_23 : decode cX9_found 23 = .ok (.ireturn, 1) := by decide +kernel
theorem dX9_bear_0 : decode cX9_bear 0 = .ok (.aload_n 0, 1) := by decide +kernel
theorem dX9_bear_1 : decode cX9_bear 1 = .ok (.getfield 25, 3) := by decide +kernel
theorem dX9_bear_4 : decode cX9_bear 4 = .ok (.aload_n 0, 1) := by decide +kernel
theorem dX9_bear_5 : decode cX9_bear 5 = .ok (.getfield 10, 3) := by decide +kernel
theorem dX9_bear_8 : decode cX9_bear 8 = .ok (.invokevirtual 57, 3) := by decide +kernel
theorem dX9_bear_11 : decode cX9_bear 11 = .ok (.aload_n 0, 1) := by decide +kernel
theorem dX9_bear_12 : decode cX9_bear 12 = .ok (.aload_n 0, 1) := by decide +kernel
theorem dX9_bear_13 : decode cX9_bear 13 = .ok (.getfield 10, 3) := by decide +kernel
theorem dX9_bear_16 : decode cX9_bear 16 = .ok (.iload_n 1, 1) := by decide +kernel
theorem dX9_bear_17 : decode cX9_bear 17 = .ok (.iload_n 2, 1) := by decide +kernel
theorem dX9_bear_18 : decode cX9_bear 18 = .ok (.iload_n 3, 1) := by decide +kernel
theorem dX9_bear_19 : decode cX9_bear 19 = .ok (.invokevirtual 68, 3) := by decide +kernel
theorem dX9_bear_22 : decode cX9_bear 22 = .ok (.invokevirtual 65, 3) := by decide +kernel
theorem dX9_bear_25 : decode cX9_bear 25 = .ok (.ireturn, 1) := by decide +kernel
theorem dX9_die_0 : decode cX9_die 0 = .ok (.aload_n 0, 1) := by decide +kernel
theorem dX9_die_1 : decode cX9_die 1 = .ok (.getfield 25, 3) := by decide +kernel
theorem dX9_die_4 : decode cX9_die 4 = .ok (.aload_n 0, 1) := by decide +kernel
theorem dX9_die_5 : decode cX9_die 5 = .ok (.getfield 10, 3) := by decide +kernel
theorem dX9_die_8 : decode cX9_die 8 = .ok (.invokevirtual 57, 3) := by decide +kernel
theorem dX9_die_11 : decode cX9_die 11 = .ok (.aload_n 0, 1) := by decide +kernel
theorem dX9_die_12 : decode cX9_die 12 = .ok (.aload_n 0, 1) := by decide +kernel
theorem dX9_die_13 : decode cX9_die 13 = .ok (.getfield 10, 3) := by decide +kernel
theorem dX9_die_16 : decode cX9_die 16 = .ok (.iload_n 1, 1) := by decide +kernel
theorem dX9_die_17 : decode cX9_die 17 = .ok (.invokevirtual 72, 3) := by decide +kernel
theorem dX9_die_20 : decode cX9_die 20 = .ok (.invokevirtual 65, 3) := by decide +kernel
theorem dX9_die_23 : decode cX9_die 23 = .ok (.ireturn, 1) := by decide +kernel
theorem dX9_inherit_0 : decode cX9_inherit 0 = .ok (.aload_n 0, 1) := by decide +kernel
theorem dX9_inherit_1 : decode cX9_inherit 1 = .ok (.getfield 25, 3) := by decide +kernel
theorem dX9_inherit_4 : decode cX9_inherit 4 = .ok (.aload_n 0, 1) := by decide +kernel
theorem dX9_inherit_5 : decode cX9_inherit 5 = .ok (.getfield 10, 3) := by decide +kernel
theorem dX9_inherit_8 : decode cX9_inherit 8 = .ok (.invokevirtual 57, 3) := by decide +kernel
theorem dX9_inherit_11 : decode cX9_inherit 11 = .ok (.aload_n 0, 1) := by decide +kernel
theorem dX9_inherit_12 : decode cX9_inherit 12 = .ok (.aload_n 0, 1) := by decide +kernel
theorem dX9_inherit_13 : decode cX9_inherit 13 = .ok (.getfield 10, 3) := by decide +kernel
theorem dX9_inherit_16 : decode cX9_inherit 16 = .ok (.iload_n 1, 1) := by decide +kernel
theorem dX9_inherit_17 : decode cX9_inherit 17 = .ok (.invokevirtual 75, 3) := by decide +kernel
theorem dX9_inherit_20 : decode cX9_inherit 20 = .ok (.invokevirtual 65, 3) := by decide +kernel
theorem dX9_inherit_23 : decode cX9_inherit 23 = .ok (.ireturn, 1) := by decide +kernel
theorem dX9_keepIfChanged_0 : decode cX9_keepIfChanged 0 = .ok (.iload_n 1, 1) := by decide +kernel
theorem dX9_keepIfChanged_1 : decode cX9_keepIfChanged 1 = .ok (.ifCond .lt 10, 3) := by decide +kernel
theorem dX9_keepIfChanged_4 : decode cX9_keepIfChanged 4 = .ok (.aload_n 0, 1) := by decide +kernel
theorem dX9_keepIfChanged_5 : decode cX9_keepIfChanged 5 = .ok (.getfield 25, 3) := by decide +kernel
theorem dX9_keepIfChanged_8 : decode cX9_keepIfChanged 8 = .ok (.invokevirtual 78, 3) := by decide +kernel
theorem dX9_keepIfChanged_11 : decode cX9_keepIfChanged 11 = .ok (.iload_n 1, 1) := by decide +kernel
theorem dX9_keepIfChanged_12 : decode cX9_keepIfChanged 12 = .ok (.ireturn, 1) := by decide +kernel
theorem dX9_append_0 : decode cX9_append 0 = .ok (.iload_n 1, 1) := by decide +kernel
theorem dX9_append_1 : decode cX9_append 1 = .ok (.bipush 33, 2) := by decide +kernel
theorem dX9_append_3 : decode cX9_append 3 = .ok (.if_icmp .lt 9, 3) := by decide +kernel
theorem dX9_append_6 : decode cX9_append 6 = .ok (.iload_n 1, 1) := by decide +kernel
theorem dX9_append_7 : decode cX9_append 7 = .ok (.bipush 126, 2) := by decide +kernel
theorem dX9_append_9 : decode cX9_append 9 = .ok (.if_icmp .le 5, 3) := by decide +kernel
theorem dX9_append_12 : decode cX9_append 12 = .ok (.iconst (-1), 1) := by decide +kernel
theorem dX9_append_13 : decode cX9_append 13 = .ok (.ireturn, 1) := by decide +kernel
theorem dX9_append_14 : decode cX9_append 14 = .ok (.aload_n 0, 1) := by decide +kernel
theorem dX9_append_15 : decode cX9_append 15 = .ok (.getfield 32, 3) := by decide +kernel
theorem dX9_append_18 : decode cX9_append 18 = .ok (.invokevirtual 81, 3) := by decide +kernel
theorem dX9_append_21 : decode cX9_append 21 = .ok (.ifCond .eq 6, 3) := by decide +kernel
theorem dX9_append_24 : decode cX9_append 24 = .ok (.bipush (-3), 2) := by decide +kernel
theorem dX9_append_26 : decode cX9_append 26 = .ok (.ireturn, 1) := by decide +kernel
theorem dX9_append_27 : decode cX9_append 27 = .ok (.aload_n 0, 1) := by decide +kernel
theorem dX9_append_28 : decode cX9_append 28 = .ok (.getfield 32, 3) := by decide +kernel
theorem dX9_append_31 : decode cX9_append 31 = .ok (.iload_n 1, 1) := by decide +kernel
theorem dX9_append_32 : decode cX9_append 32 = .ok (.invokevirtual 85, 3) := by decide +kernel
theorem dX9_append_35 : decode cX9_append 35 = .ok (.aload_n 0, 1) := by decide +kernel
theorem dX9_append_36 : decode cX9_append 36 = .ok (.getfield 32, 3) := by decide +kernel
theorem dX9_append_39 : decode cX9_append 39 = .ok (.invokevirtual 89, 3) := by decide +kernel
theorem dX9_append_42 : decode cX9_append 42 = .ok (.ireturn, 1) := by decide +kernel
theorem dX9_clear_0 : decode cX9_clear 0 = .ok (.aload_n 0, 1) := by decide +kernel
theorem dX9_clear_1 : decode cX9_clear 1 = .ok (.getfield 32, 3) := by decide +kernel
theorem dX9_clear_4 : decode cX9_clear 4 = .ok (.invokevirtual 89, 3) := by decide +kernel
theorem dX9_clear_7 : decode cX9_clear 7 = .ok (.istore_n 1, 1) := by decide +kernel
theorem dX9_clear_8 : decode cX9_clear 8 = .ok (.aload_n 0, 1) := by decide +kernel
theorem dX9_clear_9 : decode cX9_clear 9 = .ok (.getfield 32, 3) := by decide +kernel
theorem dX9_clear_12 : decode cX9_clear 12 = .ok (.invokevirtual 93, 3) := by decide +kernel
theorem dX9_clear_15 : decode cX9_clear 15 = .ok (.iload_n 1, 1) := by decide +kernel
theorem dX9_clear_16 : decode cX9_clear 16 = .ok (.ireturn, 1) := by decide +kernel
theorem dX9_fault_0 : decode cX9_fault 0 = .ok (.aload_n 0, 1) := by decide +kernel
theorem dX9_fault_1 : decode cX9_fault 1 = .ok (.getfield 32, 3) := by decide +kernel
theorem dX9_fault_4 : decode cX9_fault 4 = .ok (.invokevirtual 96, 3) := by decide +kernel
theorem dX9_fault_7 : decode cX9_fault 7 = .ok (.ireturn, 1) := by decide +kernel
theorem dX9_enrol_0 : decode cX9_enrol 0 = .ok (.aload_n 0, 1) := by decide +kernel
theorem dX9_enrol_1 : decode cX9_enrol 1 = .ok (.getfield 32, 3) := by decide +kernel
theorem dX9_enrol_4 : decode cX9_enrol 4 = .ok (.invokevirtual 96, 3) := by decide +kernel
theorem dX9_enrol_7 : decode cX9_enrol 7 = .ok (.bipush (-4), 2) := by decide +kernel
theorem dX9_enrol_9 : decode cX9_enrol 9 = .ok (.if_icmp .eq 6, 3) := by decide +kernel
theorem dX9_enrol_12 : decode cX9_enrol 12 = .ok (.bipush (-2), 2) := by decide +kernel
theorem dX9_enrol_14 : decode cX9_enrol 14 = .ok (.ireturn, 1) := by decide +kernel
theorem dX9_enrol_15 : decode cX9_enrol 15 = .ok (.aload_n 0, 1) := by decide +kernel
theorem dX9_enrol_16 : decode cX9_enrol 16 = .ok (.getfield 25, 3) := by decide +kernel
theorem dX9_enrol_19 : decode cX9_enrol 19 = .ok (.aload_n 0, 1) := by decide +kernel
theorem dX9_enrol_20 : decode cX9_enrol 20 = .ok (.getfield 10, 3) := by decide +kernel
theorem dX9_enrol_23 : decode cX9_enrol 23 = .ok (.invokevirtual 57, 3) := by decide +kernel
theorem dX9_enrol_26 : decode cX9_enrol 26 = .ok (.iconst 0, 1) := by decide +kernel
theorem dX9_enrol_27 : decode cX9_enrol 27 = .ok (.istore_n 1, 1) := by decide +kernel
theorem dX9_enrol_28 : decode cX9_enrol 28 = .ok (.aload_n 0, 1) := by decide +kernel
theorem dX9_enrol_29 : decode cX9_enrol 29 = .ok (.iconst 0, 1) := by decide +kernel
theorem dX9_enrol_30 : decode cX9_enrol 30 = .ok (.putfield 47, 3) := by decide +kernel
theorem dX9_enrol_33 : decode cX9_enrol 33 = .ok (.iconst 0, 1) := by decide +kernel
theorem dX9_enrol_34 : decode cX9_enrol 34 = .ok (.istore_n 2, 1) := by decide +kernel
theorem dX9_enrol_35 : decode cX9_enrol 35 = .ok (.iload_n 2, 1) := by decide +kernel
theorem dX9_enrol_36 : decode cX9_enrol 36 = .ok (.aload_n 0, 1) := by decide +kernel
theorem dX9_enrol_37 : decode cX9_enrol 37 = .ok (.getfield 32, 3) := by decide +kernel
theorem dX9_enrol_40 : decode cX9_enrol 40 = .ok (.invokevirtual 89, 3) := by decide +kernel
theorem dX9_enrol_43 : decode cX9_enrol 43 = .ok (.if_icmp .ge 63, 3) := by decide +kernel
theorem dX9_enrol_46 : decode cX9_enrol 46 = .ok (.aload_n 0, 1) := by decide +kernel
theorem dX9_enrol_47 : decode cX9_enrol 47 = .ok (.getfield 47, 3) := by decide +kernel
theorem dX9_enrol_50 : decode cX9_enrol 50 = .ok (.ifCond .ne 56, 3) := by decide +kernel
theorem dX9_enrol_53 : decode cX9_enrol 53 = .ok (.aload_n 0, 1) := by decide +kernel
theorem dX9_enrol_54 : decode cX9_enrol 54 = .ok (.getfield 32, 3) := by decide +kernel
theorem dX9_enrol_57 : decode cX9_enrol 57 = .ok (.iload_n 2, 1) := by decide +kernel
theorem dX9_enrol_58 : decode cX9_enrol 58 = .ok (.invokevirtual 99, 3) := by decide +kernel
theorem dX9_enrol_61 : decode cX9_enrol 61 = .ok (.ifCond .ne 6, 3) := by decide +kernel
theorem dX9_enrol_64 : decode cX9_enrol 64 = .ok (.goto 36, 3) := by decide +kernel
theorem dX9_enrol_67 : decode cX9_enrol 67 = .ok (.aload_n 0, 1) := by decide +kernel
theorem dX9_enrol_68 : decode cX9_enrol 68 = .ok (.iload_n 2, 1) := by decide +kernel
theorem dX9_enrol_69 : decode cX9_enrol 69 = .ok (.invokevirtual 103, 3) := by decide +kernel
theorem dX9_enrol_72 : decode cX9_enrol 72 = .ok (.istore_n 3, 1) := by decide +kernel
theorem dX9_enrol_73 : decode cX9_enrol 73 = .ok (.iload_n 3, 1) := by decide +kernel
theorem dX9_enrol_74 : decode cX9_enrol 74 = .ok (.bipush 10, 2) := by decide +kernel
theorem dX9_enrol_76 : decode cX9_enrol 76 = .ok (.if_icmp .lt 9, 3) := by decide +kernel
theorem dX9_enrol_79 : decode cX9_enrol 79 = .ok (.iinc 1 1, 3) := by decide +kernel
theorem dX9_enrol_82 : decode cX9_enrol 82 = .ok (.goto 18, 3) := by decide +kernel
theorem dX9_enrol_85 : decode cX9_enrol 85 = .ok (.aload_n 0, 1) := by decide +kernel
theorem dX9_enrol_86 : decode cX9_enrol 86 = .ok (.iload_n 3, 1) := by decide +kernel
theorem dX9_enrol_87 : decode cX9_enrol 87 = .ok (.putfield 47, 3) := by decide +kernel
theorem dX9_enrol_90 : decode cX9_enrol 90 = .ok (.aload_n 0, 1) := by decide +kernel
theorem dX9_enrol_91 : decode cX9_enrol 91 = .ok (.iload_n 1, 1) := by decide +kernel
theorem dX9_enrol_92 : decode cX9_enrol 92 = .ok (.putfield 51, 3) := by decide +kernel
theorem dX9_enrol_95 : decode cX9_enrol 95 = .ok (.aload_n 0, 1) := by decide +kernel
theorem dX9_enrol_96 : decode cX9_enrol 96 = .ok (.iload_n 2, 1) := by decide +kernel
theorem dX9_enrol_97 : decode cX9_enrol 97 = .ok (.putfield 54, 3) := by decide +kernel
theorem dX9_enrol_100 : decode cX9_enrol 100 = .ok (.iinc 2 1, 3) := by decide +kernel
theorem dX9_enrol_103 : decode cX9_enrol 103 = .ok (.goto (-68), 3) := by decide +kernel
theorem dX9_enrol_106 : decode cX9_enrol 106 = .ok (.aload_n 0, 1) := by decide +kernel
theorem dX9_enrol_107 : decode cX9_enrol 107 = .ok (.getfield 25, 3) := by decide +kernel
theorem dX9_enrol_110 : decode cX9_enrol 110 = .ok (.invokevirtual 78, 3) := by decide +kernel
theorem dX9_enrol_113 : decode cX9_enrol 113 = .ok (.aload_n 0, 1) := by decide +kernel
theorem dX9_enrol_114 : decode cX9_enrol 114 = .ok (.getfield 32, 3) := by decide +kernel
theorem dX9_enrol_117 : decode cX9_enrol 117 = .ok (.invokevirtual 93, 3) := by decide +kernel
theorem dX9_enrol_120 : decode cX9_enrol 120 = .ok (.iload_n 1, 1) := by decide +kernel
theorem dX9_enrol_121 : decode cX9_enrol 121 = .ok (.ireturn, 1) := by decide +kernel
theorem dX9_enrolDeed_0 : decode cX9_enrolDeed 0 = .ok (.aload_n 0, 1) := by decide +kernel
theorem dX9_enrolDeed_1 : decode cX9_enrolDeed 1 = .ok (.getfield 32, 3) := by decide +kernel
theorem dX9_enrolDeed_4 : decode cX9_enrolDeed 4 = .ok (.iload_n 1, 1) := by decide +kernel
theorem dX9_enrolDeed_5 : decode cX9_enrolDeed 5 = .ok (.invokevirtual 106, 3) := by decide +kernel
theorem dX9_enrolDeed_8 : decode cX9_enrolDeed 8 = .ok (.lookupswitch 121 #[(100, 103), (102, 36), (115, 54)], 36) := by decide +kernel
theorem dX9_enrolDeed_44 : decode cX9_enrolDeed 44 = .ok (.aload_n 0, 1) := by decide +kernel
theorem dX9_enrolDeed_45 : decode cX9_enrolDeed 45 = .ok (.getfield 10, 3) := by decide +kernel
theorem dX9_enrolDeed_48 : decode cX9_enrolDeed 48 = .ok (.aload_n 0, 1) := by decide +kernel
theorem dX9_enrolDeed_49 : decode cX9_enrolDeed 49 = .ok (.getfield 32, 3) := by decide +kernel
theorem dX9_enrolDeed_52 : decode cX9_enrolDeed 52 = .ok (.iload_n 1, 1) := by decide +kernel
theorem dX9_enrolDeed_53 : decode cX9_enrolDeed 53 = .ok (.iconst 1, 1) := by decide +kernel
theorem dX9_enrolDeed_54 : decode cX9_enrolDeed 54 = .ok (.iadd, 1) := by decide +kernel
theorem dX9_enrolDeed_55 : decode cX9_enrolDeed 55 = .ok (.invokevirtual 109, 3) := by decide +kernel
theorem dX9_enrolDeed_58 : decode cX9_enrolDeed 58 = .ok (.invokevirtual 61, 3) := by decide +kernel
theorem dX9_enrolDeed_61 : decode cX9_enrolDeed 61 = .ok (.ireturn, 1) := by decide +kernel
theorem dX9_enrolDeed_62 : decode cX9_enrolDeed 62 = .ok (.aload_n 0, 1) := by decide +kernel
theorem dX9_enrolDeed_63 : decode cX9_enrolDeed 63 = .ok (.getfield 32, 3) := by decide +kernel
theorem dX9_enrolDeed_66 : decode cX9_enrolDeed 66 = .ok (.iload_n 1, 1) := by decide +kernel
theorem dX9_enrolDeed_67 : decode cX9_enrolDeed 67 = .ok (.iconst 1, 1) := by decide +kernel
theorem dX9_enrolDeed_68 : decode cX9_enrolDeed 68 = .ok (.iadd, 1) := by decide +kernel
theorem dX9_enrolDeed_69 : decode cX9_enrolDeed 69 = .ok (.invokevirtual 112, 3) := by decide +kernel
theorem dX9_enrolDeed_72 : decode cX9_enrolDeed 72 = .ok (.istore_n 2, 1) := by decide +kernel
theorem dX9_enrolDeed_73 : decode cX9_enrolDeed 73 = .ok (.aload_n 0, 1) := by decide +kernel
theorem dX9_enrolDeed_74 : decode cX9_enrolDeed 74 = .ok (.getfield 10, 3) := by decide +kernel
theorem dX9_enrolDeed_77 : decode cX9_enrolDeed 77 = .ok (.aload_n 0, 1) := by decide +kernel
theorem dX9_enrolDeed_78 : decode cX9_enrolDeed 78 = .ok (.getfield 32, 3) := by decide +kernel
theorem dX9_enrolDeed_81 : decode cX9_enrolDeed 81 = .ok (.iload_n 1, 1) := by decide +kernel
theorem dX9_enrolDeed_82 : decode cX9_enrolDeed 82 = .ok (.iconst 1, 1) := by decide +kernel
theorem dX9_enrolDeed_83 : decode cX9_enrolDeed 83 = .ok (.iadd, 1) := by decide +kernel
theorem dX9_enrolDeed_84 : decode cX9_enrolDeed 84 = .ok (.invokevirtual 115, 3) := by decide +kernel
theorem dX9_enrolDeed_87 : decode cX9_enrolDeed 87 = .ok (.aload_n 0, 1) := by decide +kernel
theorem dX9_enrolDeed_88 : decode cX9_enrolDeed 88 = .ok (.getfield 32, 3) := by decide +kernel
theorem dX9_enrolDeed_91 : decode cX9_enrolDeed 91 = .ok (.iload_n 2, 1) := by decide +kernel
theorem dX9_enrolDeed_92 : decode cX9_enrolDeed 92 = .ok (.iconst 1, 1) := by decide +kernel
theorem dX9_enrolDeed_93 : decode cX9_enrolDeed 93 = .ok (.iadd, 1) := by decide +kernel
theorem dX9_enrolDeed_94 : decode cX9_enrolDeed 94 = .ok (.invokevirtual 118, 3) := by decide +kernel
theorem dX9_enrolDeed_97 : decode cX9_enrolDeed 97 = .ok (.aload_n 0, 1) := by decide +kernel
theorem dX9_enrolDeed_98 : decode cX9_enrolDeed 98 = .ok (.getfield 32, 3) := by decide +kernel
theorem dX9_enrolDeed_101 : decode cX9_enrolDeed 101 = .ok (.iload_n 2, 1) := by decide +kernel
theorem dX9_enrolDeed_102 : decode cX9_enrolDeed 102 = .ok (.iconst 3, 1) := by decide +kernel
theorem dX9_enrolDeed_103 : decode cX9_enrolDeed 103 = .ok (.iadd, 1) := by decide +kernel
theorem dX9_enrolDeed_104 : decode cX9_enrolDeed 104 = .ok (.invokevirtual 118, 3) := by decide +kernel
theorem dX9_enrolDeed_107 : decode cX9_enrolDeed 107 = .ok (.invokevirtual 68, 3) := by decide +kernel
theorem dX9_enrolDeed_110 : decode cX9_enrolDeed 110 = .ok (.ireturn, 1) := by decide +kernel
theorem dX9_enrolDeed_111 : decode cX9_enrolDeed 111 = .ok (.aload_n 0, 1) := by decide +kernel
theorem dX9_enrolDeed_112 : decode cX9_enrolDeed 112 = .ok (.getfield 10, 3) := by decide +kernel
theorem dX9_enrolDeed_115 : decode cX9_enrolDeed 115 = .ok (.aload_n 0, 1) := by decide +kernel
theorem dX9_enrolDeed_116 : decode cX9_enrolDeed 116 = .ok (.getfield 32, 3) := by decide +kernel
theorem dX9_enrolDeed_119 : decode cX9_enrolDeed 119 = .ok (.iload_n 1, 1) := by decide +kernel
theorem dX9_enrolDeed_120 : decode cX9_enrolDeed 120 = .ok (.iconst 1, 1) := by decide +kernel
theorem dX9_enrolDeed_121 : decode cX9_enrolDeed 121 = .ok (.iadd, 1) := by decide +kernel
theorem dX9_enrolDeed_122 : decode cX9_enrolDeed 122 = .ok (.invokevirtual 115, 3) := by decide +kernel
theorem dX9_enrolDeed_125 : decode cX9_enrolDeed 125 = .ok (.invokevirtual 72, 3) := by decide +kernel
theorem dX9_enrolDeed_128 : decode cX9_enrolDeed 128 = .ok (.ireturn, 1) := by decide +kernel
theorem dX9_enrolDeed_129 : decode cX9_enrolDeed 129 = .ok (.aload_n 0, 1) := by decide +kernel
theorem dX9_enrolDeed_130 : decode cX9_enrolDeed 130 = .ok (.getfield 10, 3) := by decide +kernel
theorem dX9_enrolDeed_133 : decode cX9_enrolDeed 133 = .ok (.aload_n 0, 1) := by decide +kernel
theorem dX9_enrolDeed_134 : decode cX9_enrolDeed 134 = .ok (.getfield 32, 3) := by decide +kernel
theorem dX9_enrolDeed_137 : decode cX9_enrolDeed 137 = .ok (.iload_n 1, 1) := by decide +kernel
theorem dX9_enrolDeed_138 : decode cX9_enrolDeed 138 = .ok (.iconst 1, 1) := by decide +kernel
theorem dX9_enrolDeed_139 : decode cX9_enrolDeed 139 = .ok (.iadd, 1) := by decide +kernel
theorem dX9_enrolDeed_140 : decode cX9_enrolDeed 140 = .ok (.invokevirtual 115, 3) := by decide +kernel
theorem dX9_enrolDeed_143 : decode cX9_enrolDeed 143 = .ok (.invokevirtual 75, 3) := by decide +kernel
theorem dX9_enrolDeed_146 : decode cX9_enrolDeed 146 = .ok (.ireturn, 1) := by decide +kernel
theorem dX9_why_0 : decode cX9_why 0 = .ok (.iload_n 1, 1) := by decide +kernel
theorem dX9_why_1 : decode cX9_why 1 = .ok (.ifCond .lt 8, 3) := by decide +kernel
theorem dX9_why_4 : decode cX9_why 4 = .ok (.iload_n 1, 1) := by decide +kernel
theorem dX9_why_5 : decode cX9_why 5 = .ok (.iconst 2, 1) := by decide +kernel
theorem dX9_why_6 : decode cX9_why 6 = .ok (.if_icmp .le 5, 3) := by decide +kernel
theorem dX9_why_9 : decode cX9_why 9 = .ok (.iconst (-1), 1) := by decide +kernel
theorem dX9_why_10 : decode cX9_why 10 = .ok (.ireturn, 1) := by decide +kernel
theorem dX9_why_11 : decode cX9_why 11 = .ok (.aload_n 0, 1) := by decide +kernel
theorem dX9_why_12 : decode cX9_why 12 = .ok (.getfield 47, 3) := by decide +kernel
theorem dX9_why_15 : decode cX9_why 15 = .ok (.ifCond .ne 6, 3) := by decide +kernel
theorem dX9_why_18 : decode cX9_why 18 = .ok (.bipush (-4), 2) := by decide +kernel
theorem dX9_why_20 : decode cX9_why 20 = .ok (.ireturn, 1) := by decide +kernel
theorem dX9_why_21 : decode cX9_why 21 = .ok (.iload_n 1, 1) := by decide +kernel
theorem dX9_why_22 : decode cX9_why 22 = .ok (.ifCond .ne 8, 3) := by decide +kernel
theorem dX9_why_25 : decode cX9_why 25 = .ok (.aload_n 0, 1) := by decide +kernel
theorem dX9_why_26 : decode cX9_why 26 = .ok (.getfield 47, 3) := by decide +kernel
theorem dX9_why_29 : decode cX9_why 29 = .ok (.ireturn, 1) := by decide +kernel
theorem dX9_why_30 : decode cX9_why 30 = .ok (.iload_n 1, 1) := by decide +kernel
theorem dX9_why_31 : decode cX9_why 31 = .ok (.iconst 1, 1) := by decide +kernel
theorem dX9_why_32 : decode cX9_why 32 = .ok (.if_icmp .ne 10, 3) := by decide +kernel
theorem dX9_why_35 : decode cX9_why 35 = .ok (.aload_n 0, 1) := by decide +kernel
theorem dX9_why_36 : decode cX9_why 36 = .ok (.getfield 51, 3) := by decide +kernel
theorem dX9_why_39 : decode cX9_why 39 = .ok (.goto 7, 3) := by decide +kernel
theorem dX9_why_42 : decode cX9_why 42 = .ok (.aload_n 0, 1) := by decide +kernel
theorem dX9_why_43 : decode cX9_why 43 = .ok (.getfield 54, 3) := by decide +kernel
theorem dX9_why_46 : decode cX9_why 46 = .ok (.ireturn, 1) := by decide +kernel
theorem dX9_person_0 : decode cX9_person 0 = .ok (.aload_n 0, 1) := by decide +kernel
theorem dX9_person_1 : decode cX9_person 1 = .ok (.getfield 10, 3) := by decide +kernel
theorem dX9_person_4 : decode cX9_person 4 = .ok (.iload_n 1, 1) := by decide +kernel
theorem dX9_person_5 : decode cX9_person 5 = .ok (.invokevirtual 121, 3) := by decide +kernel
theorem dX9_person_8 : decode cX9_person 8 = .ok (.ifCond .ne 5, 3) := by decide +kernel
theorem dX9_person_11 : decode cX9_person 11 = .ok (.iconst (-1), 1) := by decide +kernel
theorem dX9_person_12 : decode cX9_person 12 = .ok (.ireturn, 1) := by decide +kernel
theorem dX9_person_13 : decode cX9_person 13 = .ok (.iload_n 2, 1) := by decide +kernel
theorem dX9_person_14 : decode cX9_person 14 = .ok (.tableswitch 187 0 11 #[62, 71, 88, 100, 112, 124, 133, 142, 151, 160, 169, 178], 62) := by decide +kernel
theorem dX9_person_76 : decode cX9_person 76 = .ok (.aload_n 0, 1) := by decide +kernel
theorem dX9_person_77 : decode cX9_person 77 = .ok (.getfield 10, 3) := by decide +kernel
theorem dX9_person_80 : decode cX9_person 80 = .ok (.iload_n 1, 1) := by decide +kernel
theorem dX9_person_81 : decode cX9_person 81 = .ok (.invokevirtual 124, 3) := by decide +kernel
theorem dX9_person_84 : decode cX9_person 84 = .ok (.ireturn, 1) := by decide +kernel
theorem dX9_person_85 : decode cX9_person 85 = .ok (.aload_n 0, 1) := by decide +kernel
theorem dX9_person_86 : decode cX9_person 86 = .ok (.getfield 10, 3) := by decide +kernel
theorem dX9_person_89 : decode cX9_person 89 = .ok (.iload_n 1, 1) := by decide +kernel
theorem dX9_person_90 : decode cX9_person 90 = .ok (.invokevirtual 127, 3) := by decide +kernel
theorem dX9_person_93 : decode cX9_person 93 = .ok (.ifCond .eq 7, 3) := by decide +kernel
theorem dX9_person_96 : decode cX9_person 96 = .ok (.iconst 1, 1) := by decide +kernel
theorem dX9_person_97 : decode cX9_person 97 = .ok (.goto 4, 3) := by decide +kernel
theorem dX9_person_100 : decode cX9_person 100 = .ok (.iconst 0, 1) := by decide +kernel
theorem dX9_person_101 : decode cX9_person 101 = .ok (.ireturn, 1) := by decide +kernel
theorem dX9_person_102 : decode cX9_person 102 = .ok (.aload_n 0, 1) := by decide +kernel
theorem dX9_person_103 : decode cX9_person 103 = .ok (.getfield 10, 3) := by decide +kernel
theorem dX9_person_106 : decode cX9_person 106 = .ok (.iload_n 1, 1) := by decide +kernel
theorem dX9_person_107 : decode cX9_person 107 = .ok (.invokevirtual 130, 3) := by decide +kernel
theorem dX9_person_110 : decode cX9_person 110 = .ok (.invokestatic 133, 3) := by decide +kernel
theorem dX9_person_113 : decode cX9_person 113 = .ok (.ireturn, 1) := by decide +kernel
theorem dX9_person_114 : decode cX9_person 114 = .ok (.aload_n 0, 1) := by decide +kernel
theorem dX9_person_115 : decode cX9_person 115 = .ok (.getfield 10, 3) := by decide +kernel
theorem dX9_person_118 : decode cX9_person 118 = .ok (.iload_n 1, 1) := by decide +kernel
theorem dX9_person_119 : decode cX9_person 119 = .ok (.invokevirtual 136, 3) := by decide +kernel
theorem dX9_person_122 : decode cX9_person 122 = .ok (.invokestatic 133, 3) := by decide +kernel
theorem dX9_person_125 : decode cX9_person 125 = .ok (.ireturn, 1) := by decide +kernel
theorem dX9_person_126 : decode cX9_person 126 = .ok (.aload_n 0, 1) := by decide +kernel
theorem dX9_person_127 : decode cX9_person 127 = .ok (.getfield 10, 3) := by decide +kernel
theorem dX9_person_130 : decode cX9_person 130 = .ok (.iload_n 1, 1) := by decide +kernel
theorem dX9_person_131 : decode cX9_person 131 = .ok (.invokevirtual 139, 3) := by decide +kernel
theorem dX9_person_134 : decode cX9_person 134 = .ok (.invokestatic 133, 3) := by decide +kernel
theorem dX9_person_137 : decode cX9_person 137 = .ok (.ireturn, 1) := by decide +kernel
theorem dX9_person_138 : decode cX9_person 138 = .ok (.aload_n 0, 1) := by decide +kernel
theorem dX9_person_139 : decode cX9_person 139 = .ok (.getfield 10, 3) := by decide +kernel
theorem dX9_person_142 : decode cX9_person 142 = .ok (.iload_n 1, 1) := by decide +kernel
theorem dX9_person_143 : decode cX9_person 143 = .ok (.invokevirtual 142, 3) := by decide +kernel
theorem dX9_person_146 : decode cX9_person 146 = .ok (.ireturn, 1) := by decide +kernel
theorem dX9_person_147 : decode cX9_person 147 = .ok (.aload_n 0, 1) := by decide +kernel
theorem dX9_person_148 : decode cX9_person 148 = .ok (.getfield 10, 3) := by decide +kernel
theorem dX9_person_151 : decode cX9_person 151 = .ok (.iload_n 1, 1) := by decide +kernel
theorem dX9_person_152 : decode cX9_person 152 = .ok (.invokestatic 145, 3) := by decide +kernel
theorem dX9_person_155 : decode cX9_person 155 = .ok (.ireturn, 1) := by decide +kernel
theorem dX9_person_156 : decode cX9_person 156 = .ok (.aload_n 0, 1) := by decide +kernel
theorem dX9_person_157 : decode cX9_person 157 = .ok (.getfield 10, 3) := by decide +kernel
theorem dX9_person_160 : decode cX9_person 160 = .ok (.iload_n 1, 1) := by decide +kernel
theorem dX9_person_161 : decode cX9_person 161 = .ok (.invokestatic 151, 3) := by decide +kernel
theorem dX9_person_164 : decode cX9_person 164 = .ok (.ireturn, 1) := by decide +kernel
theorem dX9_person_165 : decode cX9_person 165 = .ok (.aload_n 0, 1) := by decide +kernel
theorem dX9_person_166 : decode cX9_person 166 = .ok (.getfield 10, 3) := by decide +kernel
theorem dX9_person_169 : decode cX9_person 169 = .ok (.iload_n 1, 1) := by decide +kernel
theorem dX9_person_170 : decode cX9_person 170 = .ok (.invokestatic 154, 3) := by decide +kernel
theorem dX9_person_173 : decode cX9_person 173 = .ok (.ireturn, 1) := by decide +kernel
theorem dX9_person_174 : decode cX9_person 174 = .ok (.aload_n 0, 1) := by decide +kernel
theorem dX9_person_175 : decode cX9_person 175 = .ok (.getfield 10, 3) := by decide +kernel
theorem dX9_person_178 : decode cX9_person 178 = .ok (.iload_n 1, 1) := by decide +kernel
theorem dX9_person_179 : decode cX9_person 179 = .ok (.invokestatic 157, 3) := by decide +kernel
theorem dX9_person_182 : decode cX9_person 182 = .ok (.ireturn, 1) := by decide +kernel
theorem dX9_person_183 : decode cX9_person 183 = .ok (.aload_n 0, 1) := by decide +kernel
theorem dX9_person_184 : decode cX9_person 184 = .ok (.getfield 10, 3) := by decide +kernel
theorem dX9_person_187 : decode cX9_person 187 = .ok (.iload_n 1, 1) := by decide +kernel
theorem dX9_person_188 : decode cX9_person 188 = .ok (.invokestatic 160, 3) := by decide +kernel
theorem dX9_person_191 : decode cX9_person 191 = .ok (.ireturn, 1) := by decide +kernel
theorem dX9_person_192 : decode cX9_person 192 = .ok (.aload_n 0, 1) := by decide +kernel
theorem dX9_person_193 : decode cX9_person 193 = .ok (.getfield 10, 3) := by decide +kernel
theorem dX9_person_196 : decode cX9_person 196 = .ok (.iload_n 1, 1) := by decide +kernel
theorem dX9_person_197 : decode cX9_person 197 = .ok (.invokestatic 163, 3) := by decide +kernel
theorem dX9_person_200 : decode cX9_person 200 = .ok (.ireturn, 1) := by decide +kernel
theorem dX9_person_201 : decode cX9_person 201 = .ok (.iconst (-1), 1) := by decide +kernel
theorem dX9_person_202 : decode cX9_person 202 = .ok (.ireturn, 1) := by decide +kernel
theorem dX9_orNotFound_0 : decode cX9_orNotFound 0 = .ok (.iload_n 0, 1) := by decide +kernel
theorem dX9_orNotFound_1 : decode cX9_orNotFound 1 = .ok (.ifCond .ge 8, 3) := by decide +kernel
theorem dX9_orNotFound_4 : decode cX9_orNotFound 4 = .ok (.bipush (-4), 2) := by decide +kernel
theorem dX9_orNotFound_6 : decode cX9_orNotFound 6 = .ok (.goto 4, 3) := by decide +kernel
theorem dX9_orNotFound_9 : decode cX9_orNotFound 9 = .ok (.iload_n 0, 1) := by decide +kernel
theorem dX9_orNotFound_10 : decode cX9_orNotFound 10 = .ok (.ireturn, 1) := by decide +kernel
theorem dX9_mark_0 : decode cX9_mark 0 = .ok (.aload_n 0, 1) := by decide +kernel
theorem dX9_mark_1 : decode cX9_mark 1 = .ok (.getfield 10, 3) := by decide +kernel
theorem dX9_mark_4 : decode cX9_mark 4 = .ok (.iload_n 1, 1) := by decide +kernel
theorem dX9_mark_5 : decode cX9_mark 5 = .ok (.invokevirtual 121, 3) := by decide +kernel
theorem dX9_mark_8 : decode cX9_mark 8 = .ok (.ifCond .eq 10, 3) := by decide +kernel
theorem dX9_mark_11 : decode cX9_mark 11 = .ok (.iload_n 2, 1) := by decide +kernel
theorem dX9_mark_12 : decode cX9_mark 12 = .ok (.invokestatic 166, 3) := by decide +kernel
theorem dX9_mark_15 : decode cX9_mark 15 = .ok (.ifCond .ne 5, 3) := by decide +kernel
theorem dX9_mark_18 : decode cX9_mark 18 = .ok (.iconst (-1), 1) := by decide +kernel
theorem dX9_mark_19 : decode cX9_mark 19 = .ok (.ireturn, 1) := by decide +kernel
theorem dX9_mark_20 : decode cX9_mark 20 = .ok (.aload_n 0, 1) := by decide +kernel
theorem dX9_mark_21 : decode cX9_mark 21 = .ok (.getfield 10, 3) := by decide +kernel
theorem dX9_mark_24 : decode cX9_mark 24 = .ok (.iload_n 1, 1) := by decide +kernel
theorem dX9_mark_25 : decode cX9_mark 25 = .ok (.invokevirtual 124, 3) := by decide +kernel
theorem dX9_mark_28 : decode cX9_mark 28 = .ok (.iload_n 2, 1) := by decide +kernel
theorem dX9_mark_29 : decode cX9_mark 29 = .ok (.invokestatic 171, 3) := by decide +kernel
theorem dX9_mark_32 : decode cX9_mark 32 = .ok (.ireturn, 1) := by decide +kernel
theorem dX9_whyNot_0 : decode cX9_whyNot 0 = .ok (.aload_n 0, 1) := by decide +kernel
theorem dX9_whyNot_1 : decode cX9_whyNot 1 = .ok (.getfield 10, 3) := by decide +kernel
theorem dX9_whyNot_4 : decode cX9_whyNot 4 = .ok (.iload_n 1, 1) := by decide +kernel
theorem dX9_whyNot_5 : decode cX9_whyNot 5 = .ok (.invokevirtual 121, 3) := by decide +kernel
theorem dX9_whyNot_8 : decode cX9_whyNot 8 = .ok (.ifCond .eq 17, 3) := by decide +kernel
theorem dX9_whyNot_11 : decode cX9_whyNot 11 = .ok (.iload_n 2, 1) := by decide +kernel
theorem dX9_whyNot_12 : decode cX9_whyNot 12 = .ok (.invokestatic 166, 3) := by decide +kernel
theorem dX9_whyNot_15 : decode cX9_whyNot 15 = .ok (.ifCond .eq 10, 3) := by decide +kernel
theorem dX9_whyNot_18 : decode cX9_whyNot 18 = .ok (.iload_n 3, 1) := by decide +kernel
theorem dX9_whyNot_19 : decode cX9_whyNot 19 = .ok (.invokestatic 175, 3) := by decide +kernel
theorem dX9_whyNot_22 : decode cX9_whyNot 22 = .ok (.ifCond .ne 5, 3) := by decide +kernel
theorem dX9_whyNot_25 : decode cX9_whyNot 25 = .ok (.iconst (-1), 1) := by decide +kernel
theorem dX9_whyNot_26 : decode cX9_whyNot 26 = .ok (.ireturn, 1) := by decide +kernel
theorem dX9_whyNot_27 : decode cX9_whyNot 27 = .ok (.aload_n 0, 1) := by decide +kernel
theorem dX9_whyNot_28 : decode cX9_whyNot 28 = .ok (.getfield 10, 3) := by decide +kernel
theorem dX9_whyNot_31 : decode cX9_whyNot 31 = .ok (.iload_n 1, 1) := by decide +kernel
theorem dX9_whyNot_32 : decode cX9_whyNot 32 = .ok (.iload_n 2, 1) := by decide +kernel
theorem dX9_whyNot_33 : decode cX9_whyNot 33 = .ok (.iload_n 3, 1) := by decide +kernel
theorem dX9_whyNot_34 : decode cX9_whyNot 34 = .ok (.invokevirtual 178, 3) := by decide +kernel
theorem dX9_whyNot_37 : decode cX9_whyNot 37 = .ok (.ireturn, 1) := by decide +kernel
theorem dX9_choices_0 : decode cX9_choices 0 = .ok (.aload_n 0, 1) := by decide +kernel
theorem dX9_choices_1 : decode cX9_choices 1 = .ok (.getfield 10, 3) := by decide +kernel
theorem dX9_choices_4 : decode cX9_choices 4 = .ok (.iload_n 1, 1) := by decide +kernel
theorem dX9_choices_5 : decode cX9_choices 5 = .ok (.invokevirtual 121, 3) := by decide +kernel
theorem dX9_choices_8 : decode cX9_choices 8 = .ok (.ifCond .eq 10, 3) := by decide +kernel
theorem dX9_choices_11 : decode cX9_choices 11 = .ok (.iload_n 2, 1) := by decide +kernel
theorem dX9_choices_12 : decode cX9_choices 12 = .ok (.invokestatic 181, 3) := by decide +kernel
theorem dX9_choices_15 : decode cX9_choices 15 = .ok (.ifCond .ne 5, 3) := by decide +kernel
theorem dX9_choices_18 : decode cX9_choices 18 = .ok (.iconst (-1), 1) := by decide +kernel
theorem dX9_choices_19 : decode cX9_choices 19 = .ok (.ireturn, 1) := by decide +kernel
theorem dX9_choices_20 : decode cX9_choices 20 = .ok (.iload_n 2, 1) := by decide +kernel
theorem dX9_choices_21 : decode cX9_choices 21 = .ok (.ifCond .ne 14, 3) := by decide +kernel
theorem dX9_choices_24 : decode cX9_choices 24 = .ok (.aload_n 0, 1) := by decide +kernel
theorem dX9_choices_25 : decode cX9_choices 25 = .ok (.getfield 10, 3) := by decide +kernel
theorem dX9_choices_28 : decode cX9_choices 28 = .ok (.iload_n 1, 1) := by decide +kernel
theorem dX9_choices_29 : decode cX9_choices 29 = .ok (.invokestatic 184, 3) := by decide +kernel
theorem dX9_choices_32 : decode cX9_choices 32 = .ok (.goto 11, 3) := by decide +kernel
theorem dX9_choices_35 : decode cX9_choices 35 = .ok (.aload_n 0, 1) := by decide +kernel
theorem dX9_choices_36 : decode cX9_choices 36 = .ok (.getfield 10, 3) := by decide +kernel
theorem dX9_choices_39 : decode cX9_choices 39 = .ok (.iload_n 1, 1) := by decide +kernel
theorem dX9_choices_40 : decode cX9_choices 40 = .ok (.invokestatic 189, 3) := by decide +kernel
theorem dX9_choices_43 : decode cX9_choices 43 = .ok (.ireturn, 1) := by decide +kernel
theorem dX9_best_0 : decode cX9_best 0 = .ok (.aload_n 0, 1) := by decide +kernel
theorem dX9_best_1 : decode cX9_best 1 = .ok (.getfield 10, 3) := by decide +kernel
theorem dX9_best_4 : decode cX9_best 4 = .ok (.iload_n 1, 1) := by decide +kernel
theorem dX9_best_5 : decode cX9_best 5 = .ok (.invokevirtual 121, 3) := by decide +kernel
theorem dX9_best_8 : decode cX9_best 8 = .ok (.ifCond .ne 5, 3) := by decide +kernel
theorem dX9_best_11 : decode cX9_best 11 = .ok (.iconst (-1), 1) := by decide +kernel
theorem dX9_best_12 : decode cX9_best 12 = .ok (.ireturn, 1) := by decide +kernel
theorem dX9_best_13 : decode cX9_best 13 = .ok (.aload_n 0, 1) := by decide +kernel
theorem dX9_best_14 : decode cX9_best 14 = .ok (.getfield 10, 3) := by decide +kernel
theorem dX9_best_17 : decode cX9_best 17 = .ok (.iload_n 1, 1) := by decide +kernel
theorem dX9_best_18 : decode cX9_best 18 = .ok (.invokestatic 192, 3) := by decide +kernel
theorem dX9_best_21 : decode cX9_best 21 = .ok (.ireturn, 1) := by decide +kernel
theorem dX9_differs_0 : decode cX9_differs 0 = .ok (.aload_n 0, 1) := by decide +kernel
theorem dX9_differs_1 : decode cX9_differs 1 = .ok (.getfield 10, 3) := by decide +kernel
theorem dX9_differs_4 : decode cX9_differs 4 = .ok (.iload_n 1, 1) := by decide +kernel
theorem dX9_differs_5 : decode cX9_differs 5 = .ok (.invokevirtual 121, 3) := by decide +kernel
theorem dX9_differs_8 : decode cX9_differs 8 = .ok (.ifCond .eq 14, 3) := by decide +kernel
theorem dX9_differs_11 : decode cX9_differs 11 = .ok (.aload_n 0, 1) := by decide +kernel
theorem dX9_differs_12 : decode cX9_differs 12 = .ok (.getfield 10, 3) := by decide +kernel
theorem dX9_differs_15 : decode cX9_differs 15 = .ok (.iload_n 2, 1) := by decide +kernel
theorem dX9_differs_16 : decode cX9_differs 16 = .ok (.invokevirtual 121, 3) := by decide +kernel
theorem dX9_differs_19 : decode cX9_differs 19 = .ok (.ifCond .ne 5, 3) := by decide +kernel
theorem dX9_differs_22 : decode cX9_differs 22 = .ok (.iconst (-1), 1) := by decide +kernel
theorem dX9_differs_23 : decode cX9_differs 23 = .ok (.ireturn, 1) := by decide +kernel
theorem dX9_differs_24 : decode cX9_differs 24 = .ok (.aload_n 0, 1) := by decide +kernel
theorem dX9_differs_25 : decode cX9_differs 25 = .ok (.getfield 10, 3) := by decide +kernel
theorem dX9_differs_28 : decode cX9_differs 28 = .ok (.iload_n 1, 1) := by decide +kernel
theorem dX9_differs_29 : decode cX9_differs 29 = .ok (.invokevirtual 124, 3) := by decide +kernel
theorem dX9_differs_32 : decode cX9_differs 32 = .ok (.aload_n 0, 1) := by decide +kernel
theorem dX9_differs_33 : decode cX9_differs 33 = .ok (.getfield 10, 3) := by decide +kernel
theorem dX9_differs_36 : decode cX9_differs 36 = .ok (.iload_n 2, 1) := by decide +kernel
theorem dX9_differs_37 : decode cX9_differs 37 = .ok (.invokevirtual 124, 3) := by decide +kernel
theorem dX9_differs_40 : decode cX9_differs 40 = .ok (.invokestatic 195, 3) := by decide +kernel
theorem dX9_differs_43 : decode cX9_differs 43 = .ok (.ireturn, 1) := by decide +kernel
theorem dX9_kin_0 : decode cX9_kin 0 = .ok (.aload_n 0, 1) := by decide +kernel
theorem dX9_kin_1 : decode cX9_kin 1 = .ok (.getfield 10, 3) := by decide +kernel
theorem dX9_kin_4 : decode cX9_kin 4 = .ok (.iload_n 1, 1) := by decide +kernel
theorem dX9_kin_5 : decode cX9_kin 5 = .ok (.invokevirtual 121, 3) := by decide +kernel
theorem dX9_kin_8 : decode cX9_kin 8 = .ok (.ifCond .eq 14, 3) := by decide +kernel
theorem dX9_kin_11 : decode cX9_kin 11 = .ok (.aload_n 0, 1) := by decide +kernel
theorem dX9_kin_12 : decode cX9_kin 12 = .ok (.getfield 10, 3) := by decide +kernel
theorem dX9_kin_15 : decode cX9_kin 15 = .ok (.iload_n 2, 1) := by decide +kernel
theorem dX9_kin_16 : decode cX9_kin 16 = .ok (.invokevirtual 121, 3) := by decide +kernel
theorem dX9_kin_19 : decode cX9_kin 19 = .ok (.ifCond .ne 5, 3) := by decide +kernel
theorem dX9_kin_22 : decode cX9_kin 22 = .ok (.iconst (-1), 1) := by decide +kernel
theorem dX9_kin_23 : decode cX9_kin 23 = .ok (.ireturn, 1) := by decide +kernel
theorem dX9_kin_24 : decode cX9_kin 24 = .ok (.aload_n 0, 1) := by decide +kernel
theorem dX9_kin_25 : decode cX9_kin 25 = .ok (.getfield 10, 3) := by decide +kernel
theorem dX9_kin_28 : decode cX9_kin 28 = .ok (.iload_n 1, 1) := by decide +kernel
theorem dX9_kin_29 : decode cX9_kin 29 = .ok (.iload_n 2, 1) := by decide +kernel
theorem dX9_kin_30 : decode cX9_kin 30 = .ok (.invokestatic 198, 3) := by decide +kernel
theorem dX9_kin_33 : decode cX9_kin 33 = .ok (.ireturn, 1) := by decide +kernel
theorem dX9_bearer_0 : decode cX9_bearer 0 = .ok (.iload_n 1, 1) := by decide +kernel
theorem dX9_bearer_1 : decode cX9_bearer 1 = .ok (.invokestatic 202, 3) := by decide +kernel
theorem dX9_bearer_4 : decode cX9_bearer 4 = .ok (.ifCond .ne 5, 3) := by decide +kernel
theorem dX9_bearer_7 : decode cX9_bearer 7 = .ok (.iconst (-1), 1) := by decide +kernel
theorem dX9_bearer_8 : decode cX9_bearer 8 = .ok (.ireturn, 1) := by decide +kernel
theorem dX9_bearer_9 : decode cX9_bearer 9 = .ok (.aload_n 0, 1) := by decide +kernel
theorem dX9_bearer_10 : decode cX9_bearer 10 = .ok (.getfield 10, 3) := by decide +kernel
theorem dX9_bearer_13 : decode cX9_bearer 13 = .ok (.iload_n 1, 1) := by decide +kernel
theorem dX9_bearer_14 : decode cX9_bearer 14 = .ok (.invokevirtual 205, 3) := by decide +kernel
theorem dX9_bearer_17 : decode cX9_bearer 17 = .ok (.invokestatic 133, 3) := by decide +kernel
theorem dX9_bearer_20 : decode cX9_bearer 20 = .ok (.ireturn, 1) := by decide +kernel
theorem dX9_line_0 : decode cX9_line 0 = .ok (.aload_n 0, 1) := by decide +kernel
theorem dX9_line_1 : decode cX9_line 1 = .ok (.getfield 10, 3) := by decide +kernel
theorem dX9_line_4 : decode cX9_line 4 = .ok (.iload_n 1, 1) := by decide +kernel
theorem dX9_line_5 : decode cX9_line 5 = .ok (.invokevirtual 121, 3) := by decide +kernel
theorem dX9_line_8 : decode cX9_line 8 = .ok (.ifCond .eq 17, 3) := by decide +kernel
theorem dX9_line_11 : decode cX9_line 11 = .ok (.iload_n 2, 1) := by decide +kernel
theorem dX9_line_12 : decode cX9_line 12 = .ok (.invokestatic 202, 3) := by decide +kernel
theorem dX9_line_15 : decode cX9_line 15 = .ok (.ifCond .eq 10, 3) := by decide +kernel
theorem dX9_line_18 : decode cX9_line 18 = .ok (.iload_n 3, 1) := by decide +kernel
theorem dX9_line_19 : decode cX9_line 19 = .ok (.invokestatic 181, 3) := by decide +kernel
theorem dX9_line_22 : decode cX9_line 22 = .ok (.ifCond .ne 5, 3) := by decide +kernel
theorem dX9_line_25 : decode cX9_line 25 = .ok (.iconst (-1), 1) := by decide +kernel
theorem dX9_line_26 : decode cX9_line 26 = .ok (.ireturn, 1) := by decide +kernel
theorem dX9_line_27 : decode cX9_line 27 = .ok (.aload_n 0, 1) := by decide +kernel
theorem dX9_line_28 : decode cX9_line 28 = .ok (.getfield 10, 3) := by decide +kernel
theorem dX9_line_31 : decode cX9_line 31 = .ok (.iload_n 1, 1) := by decide +kernel
theorem dX9_line_32 : decode cX9_line 32 = .ok (.invokevirtual 127, 3) := by decide +kernel
theorem dX9_line_35 : decode cX9_line 35 = .ok (.ifCond .ne 6, 3) := by decide +kernel
theorem dX9_line_38 : decode cX9_line 38 = .ok (.bipush (-2), 2) := by decide +kernel
theorem dX9_line_40 : decode cX9_line 40 = .ok (.ireturn, 1) := by decide +kernel
theorem dX9_line_41 : decode cX9_line 41 = .ok (.aload_n 0, 1) := by decide +kernel
theorem dX9_line_42 : decode cX9_line 42 = .ok (.getfield 10, 3) := by decide +kernel
theorem dX9_line_45 : decode cX9_line 45 = .ok (.iload_n 1, 1) := by decide +kernel
theorem dX9_line_46 : decode cX9_line 46 = .ok (.invokevirtual 124, 3) := by decide +kernel
theorem dX9_line_49 : decode cX9_line 49 = .ok (.istore 4, 2) := by decide +kernel
theorem dX9_line_51 : decode cX9_line 51 = .ok (.iload 4, 2) := by decide +kernel
theorem dX9_line_53 : decode cX9_line 53 = .ok (.iload_n 2, 1) := by decide +kernel
theorem dX9_line_54 : decode cX9_line 54 = .ok (.if_icmp .ne 5, 3) := by decide +kernel
theorem dX9_line_57 : decode cX9_line 57 = .ok (.iconst 0, 1) := by decide +kernel
theorem dX9_line_58 : decode cX9_line 58 = .ok (.ireturn, 1) := by decide +kernel
theorem dX9_line_59 : decode cX9_line 59 = .ok (.aload_n 0, 1) := by decide +kernel
theorem dX9_line_60 : decode cX9_line 60 = .ok (.getfield 10, 3) := by decide +kernel
theorem dX9_line_63 : decode cX9_line 63 = .ok (.iload_n 2, 1) := by decide +kernel
theorem dX9_line_64 : decode cX9_line 64 = .ok (.invokevirtual 205, 3) := by decide +kernel
theorem dX9_line_67 : decode cX9_line 67 = .ok (.iconst (-1), 1) := by decide +kernel
theorem dX9_line_68 : decode cX9_line 68 = .ok (.if_icmp .eq 6, 3) := by decide +kernel
theorem dX9_line_71 : decode cX9_line 71 = .ok (.bipush (-4), 2) := by decide +kernel
theorem dX9_line_73 : decode cX9_line 73 = .ok (.ireturn, 1) := by decide +kernel
theorem dX9_line_74 : decode cX9_line 74 = .ok (.iload_n 3, 1) := by decide +kernel
theorem dX9_line_75 : decode cX9_line 75 = .ok (.ifCond .ne 20, 3) := by decide +kernel
theorem dX9_line_78 : decode cX9_line 78 = .ok (.aload_n 0, 1) := by decide +kernel
theorem dX9_line_79 : decode cX9_line 79 = .ok (.getfield 39, 3) := by decide +kernel
theorem dX9_line_82 : decode cX9_line 82 = .ok (.aload_n 0, 1) := by decide +kernel
theorem dX9_line_83 : decode cX9_line 83 = .ok (.getfield 10, 3) := by decide +kernel
theorem dX9_line_86 : decode cX9_line 86 = .ok (.iload 4, 2) := by decide +kernel
theorem dX9_line_88 : decode cX9_line 88 = .ok (.iload_n 2, 1) := by decide +kernel
theorem dX9_line_89 : decode cX9_line 89 = .ok (.invokevirtual 208, 3) := by decide +kernel
theorem dX9_line_92 : decode cX9_line 92 = .ok (.goto 17, 3) := by decide +kernel
theorem dX9_line_95 : decode cX9_line 95 = .ok (.aload_n 0, 1) := by decide +kernel
theorem dX9_line_96 : decode cX9_line 96 = .ok (.getfield 39, 3) := by decide +kernel
theorem dX9_line_99 : decode cX9_line 99 = .ok (.aload_n 0, 1) := by decide +kernel
theorem dX9_line_100 : decode cX9_line 100 = .ok (.getfield 10, 3) := by decide +kernel
theorem dX9_line_103 : decode cX9_line 103 = .ok (.iload_n 2, 1) := by decide +kernel
theorem dX9_line_104 : decode cX9_line 104 = .ok (.iload 4, 2) := by decide +kernel
theorem dX9_line_106 : decode cX9_line 106 = .ok (.invokevirtual 208, 3) := by decide +kernel
theorem dX9_line_109 : decode cX9_line 109 = .ok (.ireturn, 1) := by decide +kernel
theorem dX9_isWay_0 : decode cX9_isWay 0 = .ok (.iload_n 0, 1) := by decide +kernel
theorem dX9_isWay_1 : decode cX9_isWay 1 = .ok (.ifCond .eq 8, 3) := by decide +kernel
theorem dX9_isWay_4 : decode cX9_isWay 4 = .ok (.iload_n 0, 1) := by decide +kernel
theorem dX9_isWay_5 : decode cX9_isWay 5 = .ok (.iconst 1, 1) := by decide +kernel
theorem dX9_isWay_6 : decode cX9_isWay 6 = .ok (.if_icmp .ne 7, 3) := by decide +kernel
theorem dX9_isWay_9 : decode cX9_isWay 9 = .ok (.iconst 1, 1) := by decide +kernel
theorem dX9_isWay_10 : decode cX9_isWay 10 = .ok (.goto 4, 3) := by decide +kernel
theorem dX9_isWay_13 : decode cX9_isWay 13 = .ok (.iconst 0, 1) := by decide +kernel
theorem dX9_isWay_14 : decode cX9_isWay 14 = .ok (.ireturn, 1) := by decide +kernel
theorem dX9_count_0 : decode cX9_count 0 = .ok (.iload_n 1, 1) := by decide +kernel
theorem dX9_count_1 : decode cX9_count 1 = .ok (.tableswitch 159 0 11 #[63, 71, 79, 87, 95, 103, 111, 119, 127, 135, 143, 151], 63) := by decide +kernel
theorem dX9_count_64 : decode cX9_count 64 = .ok (.aload_n 0, 1) := by decide +kernel
theorem dX9_count_65 : decode cX9_count 65 = .ok (.getfield 10, 3) := by decide +kernel
theorem dX9_count_68 : decode cX9_count 68 = .ok (.invokevirtual 211, 3) := by decide +kernel
theorem dX9_count_71 : decode cX9_count 71 = .ok (.ireturn, 1) := by decide +kernel
theorem dX9_count_72 : decode cX9_count 72 = .ok (.aload_n 0, 1) := by decide +kernel
theorem dX9_count_73 : decode cX9_count 73 = .ok (.getfield 10, 3) := by decide +kernel
theorem dX9_count_76 : decode cX9_count 76 = .ok (.invokevirtual 214, 3) := by decide +kernel
theorem dX9_count_79 : decode cX9_count 79 = .ok (.ireturn, 1) := by decide +kernel
theorem dX9_count_80 : decode cX9_count 80 = .ok (.aload_n 0, 1) := by decide +kernel
theorem dX9_count_81 : decode cX9_count 81 = .ok (.getfield 10, 3) := by decide +kernel
theorem dX9_count_84 : decode cX9_count 84 = .ok (.invokestatic 217, 3) := by decide +kernel
theorem dX9_count_87 : decode cX9_count 87 = .ok (.ireturn, 1) := by decide +kernel
theorem dX9_count_88 : decode cX9_count 88 = .ok (.aload_n 0, 1) := by decide +kernel
theorem dX9_count_89 : decode cX9_count 89 = .ok (.getfield 10, 3) := by decide +kernel
theorem dX9_count_92 : decode cX9_count 92 = .ok (.invokestatic 223, 3) := by decide +kernel
theorem dX9_count_95 : decode cX9_count 95 = .ok (.ireturn, 1) := by decide +kernel
theorem dX9_count_96 : decode cX9_count 96 = .ok (.aload_n 0, 1) := by decide +kernel
theorem dX9_count_97 : decode cX9_count 97 = .ok (.getfield 10, 3) := by decide +kernel
theorem dX9_count_100 : decode cX9_count 100 = .ok (.invokestatic 226, 3) := by decide +kernel
theorem dX9_count_103 : decode cX9_count 103 = .ok (.ireturn, 1) := by decide +kernel
theorem dX9_count_104 : decode cX9_count 104 = .ok (.aload_n 0, 1) := by decide +kernel
theorem dX9_count_105 : decode cX9_count 105 = .ok (.getfield 10, 3) := by decide +kernel
theorem dX9_count_108 : decode cX9_count 108 = .ok (.invokestatic 229, 3) := by decide +kernel
theorem dX9_count_111 : decode cX9_count 111 = .ok (.ireturn, 1) := by decide +kernel
theorem dX9_count_112 : decode cX9_count 112 = .ok (.aload_n 0, 1) := by decide +kernel
theorem dX9_count_113 : decode cX9_count 113 = .ok (.getfield 10, 3) := by decide +kernel
theorem dX9_count_116 : decode cX9_count 116 = .ok (.invokestatic 232, 3) := by decide +kernel
theorem dX9_count_119 : decode cX9_count 119 = .ok (.ireturn, 1) := by decide +kernel
theorem dX9_count_120 : decode cX9_count 120 = .ok (.aload_n 0, 1) := by decide +kernel
theorem dX9_count_121 : decode cX9_count 121 = .ok (.getfield 10, 3) := by decide +kernel
theorem dX9_count_124 : decode cX9_count 124 = .ok (.invokestatic 235, 3) := by decide +kernel
theorem dX9_count_127 : decode cX9_count 127 = .ok (.ireturn, 1) := by decide +kernel
theorem dX9_count_128 : decode cX9_count 128 = .ok (.aload_n 0, 1) := by decide +kernel
theorem dX9_count_129 : decode cX9_count 129 = .ok (.getfield 10, 3) := by decide +kernel
theorem dX9_count_132 : decode cX9_count 132 = .ok (.invokevirtual 238, 3) := by decide +kernel
theorem dX9_count_135 : decode cX9_count 135 = .ok (.ireturn, 1) := by decide +kernel
theorem dX9_count_136 : decode cX9_count 136 = .ok (.aload_n 0, 1) := by decide +kernel
theorem dX9_count_137 : decode cX9_count 137 = .ok (.getfield 10, 3) := by decide +kernel
theorem dX9_count_140 : decode cX9_count 140 = .ok (.invokevirtual 241, 3) := by decide +kernel
theorem dX9_count_143 : decode cX9_count 143 = .ok (.ireturn, 1) := by decide +kernel
theorem dX9_count_144 : decode cX9_count 144 = .ok (.aload_n 0, 1) := by decide +kernel
theorem dX9_count_145 : decode cX9_count 145 = .ok (.getfield 32, 3) := by decide +kernel
theorem dX9_count_148 : decode cX9_count 148 = .ok (.invokevirtual 89, 3) := by decide +kernel
theorem dX9_count_151 : decode cX9_count 151 = .ok (.ireturn, 1) := by decide +kernel
theorem dX9_count_152 : decode cX9_count 152 = .ok (.aload_n 0, 1) := by decide +kernel
theorem dX9_count_153 : decode cX9_count 153 = .ok (.getfield 25, 3) := by decide +kernel
theorem dX9_count_156 : decode cX9_count 156 = .ok (.invokevirtual 244, 3) := by decide +kernel
theorem dX9_count_159 : decode cX9_count 159 = .ok (.ireturn, 1) := by decide +kernel
theorem dX9_count_160 : decode cX9_count 160 = .ok (.iconst (-1), 1) := by decide +kernel
theorem dX9_count_161 : decode cX9_count 161 = .ok (.ireturn, 1) := by decide +kernel
theorem dX9_borne_0 : decode cX9_borne 0 = .ok (.iload_n 1, 1) := by decide +kernel
theorem dX9_borne_1 : decode cX9_borne 1 = .ok (.invokestatic 166, 3) := by decide +kernel
theorem dX9_borne_4 : decode cX9_borne 4 = .ok (.ifCond .eq 10, 3) := by decide +kernel
theorem dX9_borne_7 : decode cX9_borne 7 = .ok (.iload_n 2, 1) := by decide +kernel
theorem dX9_borne_8 : decode cX9_borne 8 = .ok (.invokestatic 175, 3) := by decide +kernel
theorem dX9_borne_11 : decode cX9_borne 11 = .ok (.ifCond .ne 5, 3) := by decide +kernel
theorem dX9_borne_14 : decode cX9_borne 14 = .ok (.iconst (-1), 1) := by decide +kernel
theorem dX9_borne_15 : decode cX9_borne 15 = .ok (.ireturn, 1) := by decide +kernel
theorem dX9_borne_16 : decode cX9_borne 16 = .ok (.aload_n 0, 1) := by decide +kernel
theorem dX9_borne_17 : decode cX9_borne 17 = .ok (.getfield 10, 3) := by decide +kernel
theorem dX9_borne_20 : decode cX9_borne 20 = .ok (.iload_n 1, 1) := by decide +kernel
theorem dX9_borne_21 : decode cX9_borne 21 = .ok (.iload_n 2, 1) := by decide +kernel
theorem dX9_borne_22 : decode cX9_borne 22 = .ok (.invokestatic 245, 3) := by decide +kernel
theorem dX9_borne_25 : decode cX9_borne 25 = .ok (.ireturn, 1) := by decide +kernel
theorem dX9_unlike_0 : decode cX9_unlike 0 = .ok (.aload_n 0, 1) := by decide +kernel
theorem dX9_unlike_1 : decode cX9_unlike 1 = .ok (.getfield 10, 3) := by decide +kernel
theorem dX9_unlike_4 : decode cX9_unlike 4 = .ok (.invokestatic 248, 3) := by decide +kernel
theorem dX9_unlike_7 : decode cX9_unlike 7 = .ok (.dreturn, 1) := by decide +kernel
theorem dX9_ifDead_0 : decode cX9_ifDead 0 = .ok (.aload_n 0, 1) := by decide +kernel
theorem dX9_ifDead_1 : decode cX9_ifDead 1 = .ok (.getfield 10, 3) := by decide +kernel
theorem dX9_ifDead_4 : decode cX9_ifDead 4 = .ok (.iload_n 1, 1) := by decide +kernel
theorem dX9_ifDead_5 : decode cX9_ifDead 5 = .ok (.invokevirtual 121, 3) := by decide +kernel
theorem dX9_ifDead_8 : decode cX9_ifDead 8 = .ok (.ifCond .eq 12, 3) := by decide +kernel
theorem dX9_ifDead_11 : decode cX9_ifDead 11 = .ok (.iload_n 2, 1) := by decide +kernel
theorem dX9_ifDead_12 : decode cX9_ifDead 12 = .ok (.ifCond .lt 8, 3) := by decide +kernel
theorem dX9_ifDead_15 : decode cX9_ifDead 15 = .ok (.iload_n 2, 1) := by decide +kernel
theorem dX9_ifDead_16 : decode cX9_ifDead 16 = .ok (.iconst 2, 1) := by decide +kernel
theorem dX9_ifDead_17 : decode cX9_ifDead 17 = .ok (.if_icmp .le 5, 3) := by decide +kernel
theorem dX9_ifDead_20 : decode cX9_ifDead 20 = .ok (.iconst (-1), 1) := by decide +kernel
theorem dX9_ifDead_21 : decode cX9_ifDead 21 = .ok (.ireturn, 1) := by decide +kernel
theorem dX9_ifDead_22 : decode cX9_ifDead 22 = .ok (.aload_n 0, 1) := by decide +kernel
theorem dX9_ifDead_23 : decode cX9_ifDead 23 = .ok (.getfield 10, 3) := by decide +kernel
theorem dX9_ifDead_26 : decode cX9_ifDead 26 = .ok (.iload_n 1, 1) := by decide +kernel
theorem dX9_ifDead_27 : decode cX9_ifDead 27 = .ok (.invokevirtual 127, 3) := by decide +kernel
theorem dX9_ifDead_30 : decode cX9_ifDead 30 = .ok (.ifCond .ne 6, 3) := by decide +kernel
theorem dX9_ifDead_33 : decode cX9_ifDead 33 = .ok (.bipush (-2), 2) := by decide +kernel
theorem dX9_ifDead_35 : decode cX9_ifDead 35 = .ok (.ireturn, 1) := by decide +kernel
theorem dX9_ifDead_36 : decode cX9_ifDead 36 = .ok (.aload_n 0, 1) := by decide +kernel
theorem dX9_ifDead_37 : decode cX9_ifDead 37 = .ok (.getfield 19, 3) := by decide +kernel
theorem dX9_ifDead_40 : decode cX9_ifDead 40 = .ok (.aload_n 0, 1) := by decide +kernel
theorem dX9_ifDead_41 : decode cX9_ifDead 41 = .ok (.getfield 10, 3) := by decide +kernel
theorem dX9_ifDead_44 : decode cX9_ifDead 44 = .ok (.invokevirtual 252, 3) := by decide +kernel
theorem dX9_ifDead_47 : decode cX9_ifDead 47 = .ok (.aload_n 0, 1) := by decide +kernel
theorem dX9_ifDead_48 : decode cX9_ifDead 48 = .ok (.getfield 19, 3) := by decide +kernel
theorem dX9_ifDead_51 : decode cX9_ifDead 51 = .ok (.iload_n 1, 1) := by decide +kernel
theorem dX9_ifDead_52 : decode cX9_ifDead 52 = .ok (.invokevirtual 72, 3) := by decide +kernel
theorem dX9_ifDead_55 : decode cX9_ifDead 55 = .ok (.pop, 1) := by decide +kernel
theorem dX9_ifDead_56 : decode cX9_ifDead 56 = .ok (.iload_n 2, 1) := by decide +kernel
theorem dX9_ifDead_57 : decode cX9_ifDead 57 = .ok (.ifCond .ne 15, 3) := by decide +kernel
theorem dX9_ifDead_60 : decode cX9_ifDead 60 = .ok (.aload_n 0, 1) := by decide +kernel
theorem dX9_ifDead_61 : decode cX9_ifDead 61 = .ok (.getfield 19, 3) := by decide +kernel
theorem dX9_ifDead_64 : decode cX9_ifDead 64 = .ok (.iload_n 1, 1) := by decide +kernel
theorem dX9_ifDead_65 : decode cX9_ifDead 65 = .ok (.invokestatic 255, 3) := by decide +kernel
theorem dX9_ifDead_68 : decode cX9_ifDead 68 = .ok (.invokestatic 133, 3) := by decide +kernel
theorem dX9_ifDead_71 : decode cX9_ifDead 71 = .ok (.ireturn, 1) := by decide +kernel
theorem dX9_ifDead_72 : decode cX9_ifDead 72 = .ok (.iload_n 2, 1) := by decide +kernel
theorem dX9_ifDead_73 : decode cX9_ifDead 73 = .ok (.iconst 1, 1) := by decide +kernel
theorem dX9_ifDead_74 : decode cX9_ifDead 74 = .ok (.if_icmp .ne 13, 3) := by decide +kernel
theorem dX9_ifDead_77 : decode cX9_ifDead 77 = .ok (.aload_n 0, 1) := by decide +kernel
theorem dX9_ifDead_78 : decode cX9_ifDead 78 = .ok (.getfield 19, 3) := by decide +kernel
theorem dX9_ifDead_81 : decode cX9_ifDead 81 = .ok (.invokestatic 223, 3) := by decide +kernel
theorem dX9_ifDead_84 : decode cX9_ifDead 84 = .ok (.goto 10, 3) := by decide +kernel
theorem dX9_ifDead_87 : decode cX9_ifDead 87 = .ok (.aload_n 0, 1) := by decide +kernel
theorem dX9_ifDead_88 : decode cX9_ifDead 88 = .ok (.getfield 19, 3) := by decide +kernel
theorem dX9_ifDead_91 : decode cX9_ifDead 91 = .ok (.invokestatic 258, 3) := by decide +kernel
theorem dX9_ifDead_94 : decode cX9_ifDead 94 = .ok (.ireturn, 1) := by decide +kernel
theorem dX9_undo_0 : decode cX9_undo 0 = .ok (.aload_n 0, 1) := by decide +kernel
theorem dX9_undo_1 : decode cX9_undo 1 = .ok (.getfield 25, 3) := by decide +kernel
theorem dX9_undo_4 : decode cX9_undo 4 = .ok (.invokevirtual 244, 3) := by decide +kernel
theorem dX9_undo_7 : decode cX9_undo 7 = .ok (.ifCond .ne 6, 3) := by decide +kernel
theorem dX9_undo_10 : decode cX9_undo 10 = .ok (.bipush (-2), 2) := by decide +kernel
theorem dX9_undo_12 : decode cX9_undo 12 = .ok (.ireturn, 1) := by decide +kernel
theorem dX9_undo_13 : decode cX9_undo 13 = .ok (.aload_n 0, 1) := by decide +kernel
theorem dX9_undo_14 : decode cX9_undo 14 = .ok (.getfield 25, 3) := by decide +kernel
theorem dX9_undo_17 : decode cX9_undo 17 = .ok (.aload_n 0, 1) := by decide +kernel
theorem dX9_undo_18 : decode cX9_undo 18 = .ok (.getfield 10, 3) := by decide +kernel
theorem dX9_undo_21 : decode cX9_undo 21 = .ok (.invokevirtual 261, 3) := by decide +kernel
theorem dX9_undo_24 : decode cX9_undo 24 = .ok (.aload_n 0, 1) := by decide +kernel
theorem dX9_undo_25 : decode cX9_undo 25 = .ok (.getfield 25, 3) := by decide +kernel
theorem dX9_undo_28 : decode cX9_undo 28 = .ok (.invokevirtual 244, 3) := by decide +kernel
theorem dX9_undo_31 : decode cX9_undo 31 = .ok (.ireturn, 1) := by decide +kernel
theorem dX9_save_0 : decode cX9_save 0 = .ok (.aload_n 0, 1) := by decide +kernel
theorem dX9_save_1 : decode cX9_save 1 = .ok (.getfield 16, 3) := by decide +kernel
theorem dX9_save_4 : decode cX9_save 4 = .ok (.aload_n 0, 1) := by decide +kernel
theorem dX9_save_5 : decode cX9_save 5 = .ok (.getfield 10, 3) := by decide +kernel
theorem dX9_save_8 : decode cX9_save 8 = .ok (.invokevirtual 252, 3) := by decide +kernel
theorem dX9_save_11 : decode cX9_save 11 = .ok (.aload_n 0, 1) := by decide +kernel
theorem dX9_save_12 : decode cX9_save 12 = .ok (.iconst 1, 1) := by decide +kernel
theorem dX9_save_13 : decode cX9_save 13 = .ok (.putfield 43, 3) := by decide +kernel
theorem dX9_save_16 : decode cX9_save 16 = .ok (.aload_n 0, 1) := by decide +kernel
theorem dX9_save_17 : decode cX9_save 17 = .ok (.getfield 10, 3) := by decide +kernel
theorem dX9_save_20 : decode cX9_save 20 = .ok (.invokevirtual 214, 3) := by decide +kernel
theorem dX9_save_23 : decode cX9_save 23 = .ok (.ireturn, 1) := by decide +kernel
theorem dX9_restore_0 : decode cX9_restore 0 = .ok (.aload_n 0, 1) := by decide +kernel
theorem dX9_restore_1 : decode cX9_restore 1 = .ok (.getfield 43, 3) := by decide +kernel
theorem dX9_restore_4 : decode cX9_restore 4 = .ok (.ifCond .ne 6, 3) := by decide +kernel
theorem dX9_restore_7 : decode cX9_restore 7 = .ok (.bipush (-2), 2) := by decide +kernel
theorem dX9_restore_9 : decode cX9_restore 9 = .ok (.ireturn, 1) := by decide +kernel
theorem dX9_restore_10 : decode cX9_restore 10 = .ok (.aload_n 0, 1) := by decide +kernel
theorem dX9_restore_11 : decode cX9_restore 11 = .ok (.getfield 25, 3) := by decide +kernel
theorem dX9_restore_14 : decode cX9_restore 14 = .ok (.aload_n 0, 1) := by decide +kernel
theorem dX9_restore_15 : decode cX9_restore 15 = .ok (.getfield 10, 3) := by decide +kernel
theorem dX9_restore_18 : decode cX9_restore 18 = .ok (.invokevirtual 57, 3) := by decide +kernel
theorem dX9_restore_21 : decode cX9_restore 21 = .ok (.aload_n 0, 1) := by decide +kernel
theorem dX9_restore_22 : decode cX9_restore 22 = .ok (.getfield 10, 3) := by decide +kernel
theorem dX9_restore_25 : decode cX9_restore 25 = .ok (.aload_n 0, 1) := by decide +kernel
theorem dX9_restore_26 : decode cX9_restore 26 = .ok (.getfield 16, 3) := by decide +kernel
theorem dX9_restore_29 : decode cX9_restore 29 = .ok (.invokevirtual 252, 3) := by decide +kernel
theorem dX9_restore_32 : decode cX9_restore 32 = .ok (.aload_n 0, 1) := by decide +kernel
theorem dX9_restore_33 : decode cX9_restore 33 = .ok (.getfield 25, 3) := by decide +kernel
theorem dX9_restore_36 : decode cX9_restore 36 = .ok (.invokevirtual 78, 3) := by decide +kernel
theorem dX9_restore_39 : decode cX9_restore 39 = .ok (.aload_n 0, 1) := by decide +kernel
theorem dX9_restore_40 : decode cX9_restore 40 = .ok (.getfield 10, 3) := by decide +kernel
theorem dX9_restore_43 : decode cX9_restore 43 = .ok (.invokevirtual 214, 3) := by decide +kernel
theorem dX9_restore_46 : decode cX9_restore 46 = .ok (.ireturn, 1) := by decide +kernel
theorem dX10_init_0 : decode cX10_init 0 = .ok (.aload_n 0, 1) := by decide +kernel
theorem dX10_init_1 : decode cX10_init 1 = .ok (.invokespecial 1, 3) := by decide +kernel
theorem dX10_init_4 : decode cX10_init 4 = .ok (.aload_n 0, 1) := by decide +kernel
theorem dX10_init_5 : decode cX10_init 5 = .ok (.bipush 103, 2) := by decide +kernel
theorem dX10_init_7 : decode cX10_init 7 = .ok (.newarray .int, 2) := by decide +kernel
theorem dX10_init_9 : decode cX10_init 9 = .ok (.putfield 7, 3) := by decide +kernel
theorem dX10_init_12 : decode cX10_init 12 = .ok (.aload_n 0, 1) := by decide +kernel
theorem dX10_init_13 : decode cX10_init 13 = .ok (.sipush 412, 3) := by decide +kernel
theorem dX10_init_16 : decode cX10_init 16 = .ok (.newarray .int, 2) := by decide +kernel
theorem dX10_init_18 : decode cX10_init 18 = .ok (.putfield 13, 3) := by decide +kernel
theorem dX10_init_21 : decode cX10_init 21 = .ok (.aload_n 0, 1) := by decide +kernel
theorem dX10_init_22 : decode cX10_init 22 = .ok (.bipush 103, 2) := by decide +kernel
theorem dX10_init_24 : decode cX10_init 24 = .ok (.newarray .int, 2) := by decide +kernel
theorem dX10_init_26 : decode cX10_init 26 = .ok (.putfield 16, 3) := by decide +kernel
theorem dX10_init_29 : decode cX10_init 29 = .ok (.aload_n 0, 1) := by decide +kernel
theorem dX10_init_30 : decode cX10_init 30 = .ok (.bipush 60, 2) := by decide +kernel
theorem dX10_init_32 : decode cX10_init 32 = .ok (.newarray .int, 2) := by decide +kernel
theorem dX10_init_34 : decode cX10_init 34 = .ok (.putfield 19, 3) := by decide +kernel
theorem dX10_init_37 : decode cX10_init 37 = .ok (.aload_n 0, 1) := by decide +kernel
theorem dX10_init_38 : decode cX10_init 38 = .ok (.bipush (-4), 2) := by decide +kernel
theorem dX10_init_40 : decode cX10_init 40 = .ok (.putfield 22, 3) := by decide +kernel
theorem dX10_init_43 : decode cX10_init 43 = .ok (.aload_n 0, 1) := by decide +kernel
theorem dX10_init_44 : decode cX10_init 44 = .ok (.bipush (-4), 2) := by decide +kernel
theorem dX10_init_46 : decode cX10_init 46 = .ok (.putfield 26, 3) := by decide +kernel
theorem dX10_init_49 : decode cX10_init 49 = .ok (.aload_n 0, 1) := by decide +kernel
theorem dX10_init_50 : decode cX10_init 50 = .ok (.bipush (-4), 2) := by decide +kernel
theorem dX10_init_52 : decode cX10_init 52 = .ok (.putfield 29, 3) := by decide +kernel
theorem dX10_init_55 : decode cX10_init 55 = .ok (.aload_n 0, 1) := by decide +kernel
theorem dX10_init_56 : decode cX10_init 56 = .ok (.bipush 84, 2) := by decide +kernel
theorem dX10_init_58 : decode cX10_init 58 = .ok (.newarray .int, 2) := by decide +kernel
theorem dX10_init_60 : decode cX10_init 60 = .ok (.putfield 32, 3) := by decide +kernel
theorem dX10_init_63 : decode cX10_init 63 = .ok (.aload_n 0, 1) := by decide +kernel
theorem dX10_init_64 : decode cX10_init 64 = .ok (.sipush 15625, 3) := by decide +kernel
theorem dX10_init_67 : decode cX10_init 67 = .ok (.newarray .int, 2) := by decide +kernel
theorem dX10_init_69 : decode cX10_init 69 = .ok (.putfield 35, 3) := by decide +kernel
theorem dX10_init_72 : decode cX10_init 72 = .ok (.aload_n 0, 1) := by decide +kernel
theorem dX10_init_73 : decode cX10_init 73 = .ok (.sipush 15625, 3) := by decide +kernel
theorem dX10_init_76 : decode cX10_init 76 = .ok (.newarray .int, 2) := by decide +kernel
theorem dX10_init_78 : decode cX10_init 78 = .ok (.putfield 38, 3) := by decide +kernel
theorem dX10_init_81 : decode cX10_init 81 = .ok (.return_, 1) := by decide +kernel
theorem dX10_in_0 : decode cX10_in 0 = .ok (.iload_n 0, 1) := by decide +kernel
theorem dX10_in_1 : decode cX10_in 1 = .ok (.iload_n 1, 1) := by decide +kernel
theorem dX10_in_2 : decode cX10_in 2 = .ok (.if_icmp .lt 12, 3) := by decide +kernel
theorem dX10_in_5 : decode cX10_in 5 = .ok (.iload_n 0, 1) := by decide +kernel
theorem dX10_in_6 : decode cX10_in 6 = .ok (.iload_n 2, 1) := by decide +kernel
theorem dX10_in_7 : decode cX10_in 7 = .ok (.if_icmp .gt 7, 3) := by decide +kernel
theorem dX10_in_10 : decode cX10_in 10 = .ok (.iconst 1, 1) := by decide +kernel
theorem dX10_in_11 : decode cX10_in 11 = .ok (.goto 4, 3) := by decide +kernel
theorem dX10_in_14 : decode cX10_in 14 = .ok (.iconst 0, 1) := by decide +kernel
theorem dX10_in_15 : decode cX10_in 15 = .ok (.ireturn, 1) := by decide +kernel
theorem dX10_of_0 : decode cX10_of 0 = .ok (.aload_n 0, 1) := by decide +kernel
theorem dX10_of_1 : decode cX10_of 1 = .ok (.getfield 7, 3) := by decide +kernel
theorem dX10_of_4 : decode cX10_of 4 = .ok (.iconst 3, 1) := by decide +kernel
theorem dX10_of_5 : decode cX10_of 5 = .ok (.iconst 5, 1) := by decide +kernel
theorem dX10_of_6 : decode cX10_of 6 = .ok (.iload_n 1, 1) := by decide +kernel
theorem dX10_of_7 : decode cX10_of 7 = .ok (.imul, 1) := by decide +kernel
theorem dX10_of_8 : decode cX10_of 8 = .ok (.iadd, 1) := by decide +kernel
theorem dX10_of_9 : decode cX10_of 9 = .ok (.iload_n 2, 1) := by decide +kernel
theorem dX10_of_10 : decode cX10_of 10 = .ok (.iadd, 1) := by decide +kernel
theorem dX10_of_11 : decode cX10_of 11 = .ok (.iaload, 1) := by decide +kernel
theorem dX10_of_12 : decode cX10_of 12 = .ok (.ireturn, 1) := by decide +kernel
theorem dX10_lay_0 : decode cX10_lay 0 = .ok (.aload_n 0, 1) := by decide +kernel
theorem dX10_lay_1 : decode cX10_lay 1 = .ok (.getfield 7, 3) := by decide +kernel
theorem dX10_lay_4 : decode cX10_lay 4 = .ok (.iconst 3, 1) := by decide +kernel
theorem dX10_lay_5 : decode cX10_lay 5 = .ok (.iconst 5, 1) := by decide +kernel
theorem dX10_lay_6 : decode cX10_lay 6 = .ok (.iload_n 1, 1) := by decide +kernel
theorem dX10_lay_7 : decode cX10_lay 7 = .ok (.imul, 1) := by decide +kernel
theorem dX10_lay_8 : decode cX10_lay 8 = .ok (.iadd, 1) := by decide +kernel
theorem dX10_lay_9 : decode cX10_lay 9 = .ok (.iload_n 2, 1) := by decide +kernel
theorem dX10_lay_10 : decode cX10_lay 10 = .ok (.iadd, 1) := by decide +kernel
theorem dX10_lay_11 : decode cX10_lay 11 = .ok (.iload_n 3, 1) := by decide +kernel
theorem dX10_lay_12 : decode cX10_lay 12 = .ok (.iastore, 1) := by decide +kernel
theorem dX10_lay_13 : decode cX10_lay 13 = .ok (.return_, 1) := by decide +kernel
theorem dX10_isPerson_0 : decode cX10_isPerson 0 = .ok (.iload_n 1, 1) := by decide +kernel
theorem dX10_isPerson_1 : decode cX10_isPerson 1 = .ok (.iconst 0, 1) := by decide +kernel
theorem dX10_isPerson_2 : decode cX10_isPerson 2 = .ok (.aload_n 0, 1) := by decide +kernel
theorem dX10_isPerson_3 : decode cX10_isPerson 3 = .ok (.getfield 7, 3) := by decide +kernel
theorem dX10_isPerson_6 : decode cX10_isPerson 6 = .ok (.iconst 0, 1) := by decide +kernel
theorem dX10_isPerson_7 : decode cX10_isPerson 7 = .ok (.iaload, 1) := by decide +kernel
theorem dX10_isPerson_8 : decode cX10_isPerson 8 = .ok (.iconst 1, 1) := by decide +kernel
theorem dX10_isPerson_9 : decode cX10_isPerson 9 = .ok (.isub, 1) := by decide +kernel
theorem dX10_isPerson_10 : decode cX10_isPerson 10 = .ok (.invokestatic 41, 3) := by decide +kernel
theorem dX10_isPerson_13 : decode cX10_isPerson 13 = .ok (.ireturn, 1) := by decide +kernel
theorem dX10_lives_0 : decode cX10_lives 0 = .ok (.aload_n 0, 1) := by decide +kernel
theorem dX10_lives_1 : decode cX10_lives 1 = .ok (.iload_n 1, 1) := by decide +kernel
theorem dX10_lives_2 : decode cX10_lives 2 = .ok (.iconst 1, 1) := by decide +kernel
theorem dX10_lives_3 : decode cX10_lives 3 = .ok (.invokevirtual 45, 3) := by decide +kernel
theorem dX10_lives_6 : decode cX10_lives 6 = .ok (.iconst 1, 1) := by decide +kernel
theorem dX10_lives_7 : decode cX10_lives 7 = .ok (.if_icmp .ne 7, 3) := by decide +kernel
theorem dX10_lives_10 : decode cX10_lives 10 = .ok (.iconst 1, 1) := by decide +kernel
theorem dX10_lives_11 : decode cX10_lives 11 = .ok (.goto 4, 3) := by decide +kernel
theorem dX10_lives_14 : decode cX10_lives 14 = .ok (.iconst 0, 1) := by decide +kernel
theorem dX10_lives_15 : decode cX10_lives 15 = .ok (.ireturn, 1) := by decide +kernel
theorem dX10_isShield_0 : decode cX10_isShield 0 = .ok (.iload_n 0, 1) := by decide +kernel
theorem dX10_isShield_1 : decode cX10_isShield 1 = .ok (.iconst 0, 1) := by decide +kernel
theorem dX10_isShield_2 : decode cX10_isShield 2 = .ok (.sipush 15624, 3) := by decide +kernel
theorem dX10_isShield_5 : decode cX10_isShield 5 = .ok (.invokestatic 41, 3) := by decide +kernel
theorem dX10_isShield_8 : decode cX10_isShield 8 = .ok (.ireturn, 1) := by decide +kernel
theorem dX10_power_0 : decode cX10_power 0 = .ok (.iconst 1, 1) := by decide +kernel
theorem dX10_power_1 : decode cX10_power 1 = .ok (.istore_n 1, 1) := by decide +kernel
theorem dX10_power_2 : decode cX10_power 2 = .ok (.iconst 0, 1) := by decide +kernel
theorem dX10_power_3 : decode cX10_power 3 = .ok (.istore_n 2, 1) := by decide +kernel
theorem dX10_power_4 : decode cX10_power 4 = .ok (.iload_n 2, 1) := by decide +kernel
theorem dX10_power_5 : decode cX10_power 5 = .ok (.iload_n 0, 1) := by decide +kernel
theorem dX10_power_6 : decode cX10_power 6 = .ok (.if_icmp .ge 13, 3) := by decide +kernel
theorem dX10_power_9 : decode cX10_power 9 = .ok (.iload_n 1, 1) := by decide +kernel
theorem dX10_power_10 : decode cX10_power 10 = .ok (.iconst 5, 1) := by decide +kernel
theorem dX10_power_11 : decode cX10_power 11 = .ok (.imul, 1) := by decide +kernel
theorem dX10_power_12 : decode cX10_power 12 = .ok (.istore_n 1, 1) := by decide +kernel
theorem dX10_power_13 : decode cX10_power 13 = .ok (.iinc 2 1, 3) := by decide +kernel
theorem dX10_power_16 : decode cX10_power 16 = .ok (.goto (-12), 3) := by decide +kernel
theorem dX10_power_19 : decode cX10_power 19 = .ok (.iload_n 1, 1) := by decide +kernel
theorem dX10_power_20 : decode cX10_power 20 = .ok (.ireturn, 1) := by decide +kernel
theorem dX10_markOf_0 : decode cX10_markOf 0 = .ok (.iload_n 0, 1) := by decide +kernel
theorem dX10_markOf_1 : decode cX10_markOf 1 = .ok (.iload_n 1, 1) := by decide +kernel
theorem dX10_markOf_2 : decode cX10_markOf 2 = .ok (.invokestatic 49, 3) := by decide +kernel
theorem dX10_markOf_5 : decode cX10_markOf 5 = .ok (.idiv, 1) := by decide +kernel
theorem dX10_markOf_6 : decode cX10_markOf 6 = .ok (.iconst 5, 1) := by decide +kernel
theorem dX10_markOf_7 : decode cX10_markOf 7 = .ok (.irem, 1) := by decide +kernel
theorem dX10_markOf_8 : decode cX10_markOf 8 = .ok (.ireturn, 1) := by decide +kernel
theorem dX10_with_0 : decode cX10_with 0 = .ok (.iload_n 0, 1) := by decide +kernel
theorem dX10_with_1 : decode cX10_with 1 = .ok (.iload_n 2, 1) := by decide +kernel
theorem dX10_with_2 : decode cX10_with 2 = .ok (.iload_n 0, 1) := by decide +kernel
theorem dX10_with_3 : decode cX10_with 3 = .ok (.iload_n 1, 1) := by decide +kernel
theorem dX10_with_4 : decode cX10_with 4 = .ok (.invokestatic 53, 3) := by decide +kernel
theorem dX10_with_7 : decode cX10_with 7 = .ok (.isub, 1) := by decide +kernel
theorem dX10_with_8 : decode cX10_with 8 = .ok (.iload_n 1, 1) := by decide +kernel
theorem dX10_with_9 : decode cX10_with 9 = .ok (.invokestatic 49, 3) := by decide +kernel
theorem dX10_with_12 : decode cX10_with 12 = .ok (.imul, 1) := by decide +kernel
theorem dX10_with_13 : decode cX10_with 13 = .ok (.iadd, 1) := by decide +kernel
theorem dX10_with_14 : decode cX10_with 14 = .ok (.ireturn, 1) := by decide +kernel
theorem dX10_far_0 : decode cX10_far 0 = .ok (.iconst 0, 1) := by decide +kernel
theorem dX10_far_1 : decode cX10_far 1 = .ok (.istore_n 2, 1) := by decide +kernel
theorem dX10_far_2 : decode cX10_far 2 = .ok (.iconst 0, 1) := by decide +kernel
theorem dX10_far_3 : decode cX10_far 3 = .ok (.istore_n 3, 1) := by decide +kernel
theorem dX10_far_4 : decode cX10_far 4 = .ok (.iload_n 3, 1) := by decide +kernel
theorem dX10_far_5 : decode cX10_far 5 = .ok (.bipush 6, 2) := by decide +kernel
theorem dX10_far_7 : decode cX10_far 7 = .ok (.if_icmp .ge 30, 3) := by decide +kernel
theorem dX10_far_10 : decode cX10_far 10 = .ok (.iload_n 2, 1) := by decide +kernel
theorem dX10_far_11 : decode cX10_far 11 = .ok (.iload_n 0, 1) := by decide +kernel
theorem dX10_far_12 : decode cX10_far 12 = .ok (.iload_n 3, 1) := by decide +kernel
theorem dX10_far_13 : decode cX10_far 13 = .ok (.invokestatic 53, 3) := by decide +kernel
theorem dX10_far_16 : decode cX10_far 16 = .ok (.iload_n 1, 1) := by decide +kernel
theorem dX10_far_17 : decode cX10_far 17 = .ok (.iload_n 3, 1) := by decide +kernel
theorem dX10_far_18 : decode cX10_far 18 = .ok (.invokestatic 53, 3) := by decide +kernel
theorem dX10_far_21 : decode cX10_far 21 = .ok (.if_icmp .ne 7, 3) := by decide +kernel
theorem dX10_far_24 : decode cX10_far 24 = .ok (.iconst 0, 1) := by decide +kernel
theorem dX10_far_25 : decode cX10_far 25 = .ok (.goto 4, 3) := by decide +kernel
theorem dX10_far_28 : decode cX10_far 28 = .ok (.iconst 1, 1) := by decide +kernel
theorem dX10_far_29 : decode cX10_far 29 = .ok (.iadd, 1) := by decide +kernel
theorem dX10_far_30 : decode cX10_far 30 = .ok (.istore_n 2, 1) := by decide +kernel
theorem dX10_far_31 : decode cX10_far 31 = .ok (.iinc 3 1, 3) := by decide +kernel
theorem dX10_far_34 : decode cX10_far 34 = .ok (.goto (-30), 3) := by decide +kernel
theorem dX10_far_37 : decode cX10_far 37 = .ok (.iload_n 2, 1) := by decide +kernel
theorem dX10_far_38 : decode cX10_far 38 = .ok (.ireturn, 1) := by decide +kernel
theorem dX10_bears_0 : decode cX10_bears 0 = .ok (.bipush (-4), 2) := by decide +kernel
theorem dX10_bears_2 : decode cX10_bears 2 = .ok (.istore_n 2, 1) := by decide +kernel
theorem dX10_bears_3 : decode cX10_bears 3 = .ok (.iconst 0, 1) := by decide +kernel
theorem dX10_bears_4 : decode cX10_bears 4 = .ok (.istore_n 3, 1) := by decide +kernel
theorem dX10_bears_5 : decode cX10_bears 5 = .ok (.iload_n 3, 1) := by decide +kernel
theorem dX10_bears_6 : decode cX10_bears 6 = .ok (.aload_n 0, 1) := by decide +kernel
theorem dX10_bears_7 : decode cX10_bears 7 = .ok (.getfield 7, 3) := by decide +kernel
theorem dX10_bears_10 : decode cX10_bears 10 = .ok (.iconst 0, 1) := by decide +kernel
theorem dX10_bears_11 : decode cX10_bears 11 = .ok (.iaload, 1) := by decide +kernel
theorem dX10_bears_12 : decode cX10_bears 12 = .ok (.if_icmp .ge 33, 3) := by decide +kernel
theorem dX10_bears_15 : decode cX10_bears 15 = .ok (.aload_n 0, 1) := by decide +kernel
theorem dX10_bears_16 : decode cX10_bears 16 = .ok (.iload_n 3, 1) := by decide +kernel
theorem dX10_bears_17 : decode cX10_bears 17 = .ok (.invokevirtual 56, 3) := by decide +kernel
theorem dX10_bears_20 : decode cX10_bears 20 = .ok (.ifCond .eq 17, 3) := by decide +kernel
theorem dX10_bears_23 : decode cX10_bears 23 = .ok (.aload_n 0, 1) := by decide +kernel
theorem dX10_bears_24 : decode cX10_bears 24 = .ok (.iload_n 3, 1) := by decide +kernel
theorem dX10_bears_25 : decode cX10_bears 25 = .ok (.iconst 0, 1) := by decide +kernel
theorem dX10_bears_26 : decode cX10_bears 26 = .ok (.invokevirtual 45, 3) := by decide +kernel
theorem dX10_bears_29 : decode cX10_bears 29 = .ok (.iload_n 1, 1) := by decide +kernel
theorem dX10_bears_30 : decode cX10_bears 30 = .ok (.if_icmp .ne 7, 3) := by decide +kernel
theorem dX10_bears_33 : decode cX10_bears 33 = .ok (.iload_n 3, 1) := by decide +kernel
theorem dX10_bears_34 : decode cX10_bears 34 = .ok (.goto 4, 3) := by decide +kernel
theorem dX10_bears_37 : decode cX10_bears 37 = .ok (.iload_n 2, 1) := by decide +kernel
theorem dX10_bears_38 : decode cX10_bears 38 = .ok (.istore_n 2, 1) := by decide +kernel
theorem dX10_bears_39 : decode cX10_bears 39 = .ok (.iinc 3 1, 3) := by decide +kernel
theorem dX10_bears_42 : decode cX10_bears 42 = .ok (.goto (-37), 3) := by decide +kernel
theorem dX10_bears_45 : decode cX10_bears 45 = .ok (.iload_n 2, 1) := by decide +kernel
theorem dX10_bears_46 : decode cX10_bears 46 = .ok (.ireturn, 1) := by decide +kernel
theorem dX10_copyState_0 : decode cX10_copyState 0 = .ok (.iconst 0, 1) := by decide +kernel
theorem dX10_copyState_1 : decode cX10_copyState 1 = .ok (.istore 4, 2) := by decide +kernel
theorem dX10_copyState_3 : decode cX10_copyState 3 = .ok (.iload 4, 2) := by decide +kernel
theorem dX10_copyState_5 : decode cX10_copyState 5 = .ok (.bipush 103, 2) := by decide +kernel
theorem dX10_copyState_7 : decode cX10_copyState 7 = .ok (.if_icmp .ge 21, 3) := by decide +kernel
theorem dX10_copyState_10 : decode cX10_copyState 10 = .ok (.aload_n 2, 1) := by decide +kernel
theorem dX10_copyState_11 : decode cX10_copyState 11 = .ok (.iload_n 3, 1) := by decide +kernel
theorem dX10_copyState_12 : decode cX10_copyState 12 = .ok (.iload 4, 2) := by decide +kernel
theorem dX10_copyState_14 : decode cX10_copyState 14 = .ok (.iadd, 1) := by decide +kernel
theorem dX10_copyState_15 : decode cX10_copyState 15 = .ok (.aload_n 0, 1) := by decide +kernel
theorem dX10_copyState_16 : decode cX10_copyState 16 = .ok (.iload_n 1, 1) := by decide +kernel
theorem dX10_copyState_17 : decode cX10_copyState 17 = .ok (.iload 4, 2) := by decide +kernel
theorem dX10_copyState_19 : decode cX10_copyState 19 = .ok (.iadd, 1) := by decide +kernel
theorem dX10_copyState_20 : decode cX10_copyState 20 = .ok (.iaload, 1) := by decide +kernel
theorem dX10_copyState_21 : decode cX10_copyState 21 = .ok (.iastore, 1) := by decide +kernel
theorem dX10_copyState_22 : decode cX10_copyState 22 = .ok (.iinc 4 1, 3) := by decide +kernel
theorem dX10_copyState_25 : decode cX10_copyState 25 = .ok (.goto (-22), 3) := by decide +kernel
theorem dX10_copyState_28 : decode cX10_copyState 28 = .ok (.return_, 1) := by decide +kernel
theorem dX10_record_0 : decode cX10_record 0 = .ok (.aload_n 0, 1) := by decide +kernel
theorem dX10_record_1 : decode cX10_record 1 = .ok (.getfield 60, 3) := by decide +kernel
theorem dX10_record_4 : decode cX10_record 4 = .ok (.iconst 4, 1) := by decide +kernel
theorem dX10_record_5 : decode cX10_record 5 = .ok (.if_icmp .ne 43, 3) := by decide +kernel
theorem dX10_record_8 : decode cX10_record 8 = .ok (.iconst 0, 1) := by decide +kernel
theorem dX10_record_9 : decode cX10_record 9 = .ok (.istore_n 1, 1) := by decide +kernel
theorem dX10_record_10 : decode cX10_record 10 = .ok (.iload_n 1, 1) := by decide +kernel
theorem dX10_record_11 : decode cX10_record 11 = .ok (.sipush 309, 3) := by decide +kernel
theorem dX10_record_14 : decode cX10_record 14 = .ok (.if_icmp .ge 24, 3) := by decide +kernel
theorem dX10_record_17 : decode cX10_record 17 = .ok (.aload_n 0, 1) := by decide +kernel
theorem dX10_record_18 : decode cX10_record 18 = .ok (.getfield 13, 3) := by decide +kernel
theorem dX10_record_21 : decode cX10_record 21 = .ok (.iload_n 1, 1) := by decide +kernel
theorem dX10_record_22 : decode cX10_record 22 = .ok (.aload_n 0, 1) := by decide +kernel
theorem dX10_record_23 : decode cX10_record 23 = .ok (.getfield 13, 3) := by decide +kernel
theorem dX10_record_26 : decode cX10_record 26 = .ok (.iload_n 1, 1) := by decide +kernel
theorem dX10_record_27 : decode cX10_record 27 = .ok (.bipush 103, 2) := by decide +kernel
theorem dX10_record_29 : decode cX10_record 29 = .ok (.iadd, 1) := by decide +kernel
theorem dX10_record_30 : decode cX10_record 30 = .ok (.iaload, 1) := by decide +kernel
theorem dX10_record_31 : decode cX10_record 31 = .ok (.iastore, 1) := by decide +kernel
theorem dX10_record_32 : decode cX10_record 32 = .ok (.iinc 1 1, 3) := by decide +kernel
theorem dX10_record_35 : decode cX10_record 35 = .ok (.goto (-25), 3) := by decide +kernel
theorem dX10_record_38 : decode cX10_record 38 = .ok (.aload_n 0, 1) := by decide +kernel
theorem dX10_record_39 : decode cX10_record 39 = .ok (.dup, 1) := by decide +kernel
theorem dX10_record_40 : decode cX10_record 40 = .ok (.getfield 60, 3) := by decide +kernel
theorem dX10_record_43 : decode cX10_record 43 = .ok (.iconst 1, 1) := by decide +kernel
theorem dX10_record_44 : decode cX10_record 44 = .ok (.isub, 1) := by decide +kernel
theorem dX10_record_45 : decode cX10_record 45 = .ok (.putfield 60, 3) := by decide +kernel
theorem dX10_record_48 : decode cX10_record 48 = .ok (.aload_n 0, 1) := by decide +kernel
theorem dX10_record_49 : decode cX10_record 49 = .ok (.getfield 7, 3) := by decide +kernel
theorem dX10_record_52 : decode cX10_record 52 = .ok (.iconst 0, 1) := by decide +kernel
theorem dX10_record_53 : decode cX10_record 53 = .ok (.aload_n 0, 1) := by decide +kernel
theorem dX10_record_54 : decode cX10_record 54 = .ok (.getfield 13, 3) := by decide +kernel
theorem dX10_record_57 : decode cX10_record 57 = .ok (.bipush 103, 2) := by decide +kernel
theorem dX10_record_59 : decode cX10_record 59 = .ok (.aload_n 0, 1) := by decide +kernel
theorem dX10_record_60 : decode cX10_record 60 = .ok (.getfield 60, 3) := by decide +kernel
theorem dX10_record_63 : decode cX10_record 63 = .ok (.imul, 1) := by decide +kernel
theorem dX10_record_64 : decode cX10_record 64 = .ok (.invokestatic 63, 3) := by decide +kernel
theorem dX10_record_67 : decode cX10_record 67 = .ok (.aload_n 0, 1) := by decide +kernel
theorem dX10_record_68 : decode cX10_record 68 = .ok (.dup, 1) := by decide +kernel
theorem dX10_record_69 : decode cX10_record 69 = .ok (.getfield 60, 3) := by decide +kernel
theorem dX10_record_72 : decode cX10_record 72 = .ok (.iconst 1, 1) := by decide +kernel
theorem dX10_record_73 : decode cX10_record 73 = .ok (.iadd, 1) := by decide +kernel
theorem dX10_record_74 : decode cX10_record 74 = .ok (.putfield 60, 3) := by decide +kernel
theorem dX10_record_77 : decode cX10_record 77 = .ok (.return_, 1) := by decide +kernel
theorem dX10_undo_0 : decode cX10_undo 0 = .ok (.aload_n 0, 1) := by decide +kernel
theorem dX10_undo_1 : decode cX10_undo 1 = .ok (.getfield 60, 3) := by decide +kernel
theorem dX10_undo_4 : decode cX10_undo 4 = .ok (.ifCond .ne 6, 3) := by decide +kernel
theorem dX10_undo_7 : decode cX10_undo 7 = .ok (.bipush (-2), 2) := by decide +kernel
theorem dX10_undo_9 : decode cX10_undo 9 = .ok (.ireturn, 1) := by decide +kernel
theorem dX10_undo_10 : decode cX10_undo 10 = .ok (.aload_n 0, 1) := by decide +kernel
theorem dX10_undo_11 : decode cX10_undo 11 = .ok (.dup, 1) := by decide +kernel
theorem dX10_undo_12 : decode cX10_undo 12 = .ok (.getfield 60, 3) := by decide +kernel
theorem dX10_undo_15 : decode cX10_undo 15 = .ok (.iconst 1, 1) := by decide +kernel
theorem dX10_undo_16 : decode cX10_undo 16 = .ok (.isub, 1) := by decide +kernel
theorem dX10_undo_17 : decode cX10_undo 17 = .ok (.putfield 60, 3) := by decide +kernel
theorem dX10_undo_20 : decode cX10_undo 20 = .ok (.aload_n 0, 1) := by decide +kernel
theorem dX10_undo_21 : decode cX10_undo 21 = .ok (.getfield 13, 3) := by decide +kernel
theorem dX10_undo_24 : decode cX10_undo 24 = .ok (.bipush 103, 2) := by decide +kernel
theorem dX10_undo_26 : decode cX10_undo 26 = .ok (.aload_n 0, 1) := by decide +kernel
theorem dX10_undo_27 : decode cX10_undo 27 = .ok (.getfield 60, 3) := by decide +kernel
theorem dX10_undo_30 : decode cX10_undo 30 = .ok (.imul, 1) := by decide +kernel
theorem dX10_undo_31 : decode cX10_undo 31 = .ok (.aload_n 0, 1) := by decide +kernel
theorem dX10_undo_32 : decode cX10_undo 32 = .ok (.getfield 7, 3) := by decide +kernel
theorem dX10_undo_35 : decode cX10_undo 35 = .ok (.iconst 0, 1) := by decide +kernel
theorem dX10_undo_36 : decode cX10_undo 36 = .ok (.invokestatic 63, 3) := by decide +kernel
theorem dX10_undo_39 : decode cX10_undo 39 = .ok (.aload_n 0, 1) := by decide +kernel
theorem dX10_undo_40 : decode cX10_undo 40 = .ok (.getfield 60, 3) := by decide +kernel
theorem dX10_undo_43 : decode cX10_undo 43 = .ok (.ireturn, 1) := by decide +kernel
theorem dX10_living_0 : decode cX10_living 0 = .ok (.iconst 0, 1) := by decide +kernel
theorem dX10_living_1 : decode cX10_living 1 = .ok (.istore_n 1, 1) := by decide +kernel
theorem dX10_living_2 : decode cX10_living 2 = .ok (.iconst 0, 1) := by decide +kernel
theorem dX10_living_3 : decode cX10_living 3 = .ok (.istore_n 2, 1) := by decide +kernel
theorem dX10_living_4 : decode cX10_living 4 = .ok (.iload_n 2, 1) := by decide +kernel
theorem dX10_living_5 : decode cX10_living 5 = .ok (.aload_n 0, 1) := by decide +kernel
theorem dX10_living_6 : decode cX10_living 6 = .ok (.getfield 7, 3) := by decide +kernel
theorem dX10_living_9 : decode cX10_living 9 = .ok (.iconst 0, 1) := by decide +kernel
theorem dX10_living_10 : decode cX10_living 10 = .ok (.iaload, 1) := by decide +kernel
theorem dX10_living_11 : decode cX10_living 11 = .ok (.if_icmp .ge 18, 3) := by decide +kernel
theorem dX10_living_14 : decode cX10_living 14 = .ok (.iload_n 1, 1) := by decide +kernel
theorem dX10_living_15 : decode cX10_living 15 = .ok (.aload_n 0, 1) := by decide +kernel
theorem dX10_living_16 : decode cX10_living 16 = .ok (.iload_n 2, 1) := by decide +kernel
theorem dX10_living_17 : decode cX10_living 17 = .ok (.iconst 1, 1) := by decide +kernel
theorem dX10_living_18 : decode cX10_living 18 = .ok (.invokevirtual 45, 3) := by decide +kernel
theorem dX10_living_21 : decode cX10_living 21 = .ok (.iadd, 1) := by decide +kernel
theorem dX10_living_22 : decode cX10_living 22 = .ok (.istore_n 1, 1) := by decide +kernel
theorem dX10_living_23 : decode cX10_living 23 = .ok (.iinc 2 1, 3) := by decide +kernel
theorem dX10_living_26 : decode cX10_living 26 = .ok (.goto (-22), 3) := by decide +kernel
theorem dX10_living_29 : decode cX10_living 29 = .ok (.iload_n 1, 1) := by decide +kernel
theorem dX10_living_30 : decode cX10_living 30 = .ok (.ireturn, 1) := by decide +kernel
theorem dX10_save_0 : decode cX10_save 0 = .ok (.aload_n 0, 1) := by decide +kernel
theorem dX10_save_1 : decode cX10_save 1 = .ok (.getfield 7, 3) := by decide +kernel
theorem dX10_save_4 : decode cX10_save 4 = .ok (.iconst 0, 1) := by decide +kernel
theorem dX10_save_5 : decode cX10_save 5 = .ok (.aload_n 0, 1) := by decide +kernel
theorem dX10_save_6 : decode cX10_save 6 = .ok (.getfield 16, 3) := by decide +kernel
theorem dX10_save_9 : decode cX10_save 9 = .ok (.iconst 0, 1) := by decide +kernel
theorem dX10_save_10 : decode cX10_save 10 = .ok (.invokestatic 63, 3) := by decide +kernel
theorem dX10_save_13 : decode cX10_save 13 = .ok (.aload_n 0, 1) := by decide +kernel
theorem dX10_save_14 : decode cX10_save 14 = .ok (.iconst 1, 1) := by decide +kernel
theorem dX10_save_15 : decode cX10_save 15 = .ok (.putfield 67, 3) := by decide +kernel
theorem dX10_save_18 : decode cX10_save 18 = .ok (.aload_n 0, 1) := by decide +kernel
theorem dX10_save_19 : decode cX10_save 19 = .ok (.invokevirtual 71, 3) := by decide +kernel
theorem dX10_save_22 : decode cX10_save 22 = .ok (.ireturn, 1) := by decide +kernel
theorem dX10_restore_0 : decode cX10_restore 0 = .ok (.aload_n 0, 1) := by decide +kernel
theorem dX10_restore_1 : decode cX10_restore 1 = .ok (.getfield 67, 3) := by decide +kernel
theorem dX10_restore_4 : decode cX10_restore 4 = .ok (.ifCond .ne 6, 3) := by decide +kernel
theorem dX10_restore_7 : decode cX10_restore 7 = .ok (.bipush (-2), 2) := by decide +kernel
theorem dX10_restore_9 : decode cX10_restore 9 = .ok (.ireturn, 1) := by decide +kernel
theorem dX10_restore_10 : decode cX10_restore 10 = .ok (.aload_n 0, 1) := by decide +kernel
theorem dX10_restore_11 : decode cX10_restore 11 = .ok (.invokevirtual 75, 3) := by decide +kernel
theorem dX10_restore_14 : decode cX10_restore 14 = .ok (.aload_n 0, 1) := by decide +kernel
theorem dX10_restore_15 : decode cX10_restore 15 = .ok (.getfield 16, 3) := by decide +kernel
theorem dX10_restore_18 : decode cX10_restore 18 = .ok (.iconst 0, 1) := by decide +kernel
theorem dX10_restore_19 : decode cX10_restore 19 = .ok (.aload_n 0, 1) := by decide +kernel
theorem dX10_restore_20 : decode cX10_restore 20 = .ok (.getfield 7, 3) := by decide +kernel
theorem dX10_restore_23 : decode cX10_restore 23 = .ok (.iconst 0, 1) := by decide +kernel
theorem dX10_restore_24 : decode cX10_restore 24 = .ok (.invokestatic 63, 3) := by decide +kernel
theorem dX10_restore_27 : decode cX10_restore 27 = .ok (.aload_n 0, 1) := by decide +kernel
theorem dX10_restore_28 : decode cX10_restore 28 = .ok (.invokevirtual 71, 3) := by decide +kernel
theorem dX10_restore_31 : decode cX10_restore 31 = .ok (.ireturn, 1) := by decide +kernel
end
section
theorem dX10_areBrothers_0 : decode cX10_areBrothers 0 = .ok (.iload_n 1, 1) := by decide +kernel
theorem dX10_areBrothers_1 : decode cX10_areBrothers 1 = .ok (.iload_n 2, 1) := by decide +kernel
theorem dX10_areBrothers_2 : decode cX10_areBrothers 2 = .ok (.if_icmp .eq 33, 3) := by decide +kernel
theorem dX10_areBrothers_5 : decode cX10_areBrothers 5 = .ok (.aload_n 0, 1) := by decide +kernel
theorem dX10_areBrothers_6 : decode cX10_areBrothers 6 = .ok (.iload_n 1, 1) := by decide +kernel
theorem dX10_areBrothers_7 : decode cX10_areBrothers 7 = .ok (.iconst 2, 1) := by decide +kernel
theorem dX10_areBrothers_8 : decode cX10_areBrothers 8 = .ok (.invokevirtual 45, 3) := by decide +kernel
theorem dX10_areBrothers_11 : decode cX10_areBrothers 11 = .ok (.bipush (-4), 2) := by decide +kernel
theorem dX10_areBrothers_13 : decode cX10_areBrothers 13 = .ok (.if_icmp .eq 22, 3) := by decide +kernel
theorem dX10_areBrothers_16 : decode cX10_areBrothers 16 = .ok (.aload_n 0, 1) := by decide +kernel
theorem dX10_areBrothers_17 : decode cX10_areBrothers 17 = .ok (.iload_n 1, 1) := by decide +kernel
theorem dX10_areBrothers_18 : decode cX10_areBrothers 18 = .ok (.iconst 2, 1) := by decide +kernel
theorem dX10_areBrothers_19 : decode cX10_areBrothers 19 = .ok (.invokevirtual 45, 3) := by decide +kernel
theorem dX10_areBrothers_22 : decode cX10_areBrothers 22 = .ok (.aload_n 0, 1) := by decide +kernel
theorem dX10_areBrothers_23 : decode cX10_areBrothers 23 = .ok (.iload_n 2, 1) := by decide +kernel
theorem dX10_areBrothers_24 : decode cX10_areBrothers 24 = .ok (.iconst 2, 1) := by decide +kernel
theorem dX10_areBrothers_25 : decode cX10_areBrothers 25 = .ok (.invokevirtual 45, 3) := by decide +kernel
theorem dX10_areBrothers_28 : decode cX10_areBrothers 28 = .ok (.if_icmp .ne 7, 3) := by decide +kernel
theorem dX10_areBrothers_31 : decode cX10_areBrothers 31 = .ok (.iconst 1, 1) := by decide +kernel
theorem dX10_areBrothers_32 : decode cX10_areBrothers 32 = .ok (.goto 4, 3) := by decide +kernel
theorem dX10_areBrothers_35 : decode cX10_areBrothers 35 = .ok (.iconst 0, 1) := by decide +kernel
theorem dX10_areBrothers_36 : decode cX10_areBrothers 36 = .ok (.ireturn, 1) := by decide +kernel
theorem dX10_areCousins_0 : decode cX10_areCousins 0 = .ok (.aload_n 0, 1) := by decide +kernel
theorem dX10_areCousins_1 : decode cX10_areCousins 1 = .ok (.iload_n 1, 1) := by decide +kernel
theorem dX10_areCousins_2 : decode cX10_areCousins 2 = .ok (.iconst 2, 1) := by decide +kernel
theorem dX10_areCousins_3 : decode cX10_areCousins 3 = .ok (.invokevirtual 45, 3) := by decide +kernel
theorem dX10_areCousins_6 : decode cX10_areCousins 6 = .ok (.bipush (-4), 2) := by decide +kernel
theorem dX10_areCousins_8 : decode cX10_areCousins 8 = .ok (.if_icmp .eq 37, 3) := by decide +kernel
theorem dX10_areCousins_11 : decode cX10_areCousins 11 = .ok (.aload_n 0, 1) := by decide +kernel
theorem dX10_areCousins_12 : decode cX10_areCousins 12 = .ok (.iload_n 2, 1) := by decide +kernel
theorem dX10_areCousins_13 : decode cX10_areCousins 13 = .ok (.iconst 2, 1) := by decide +kernel
theorem dX10_areCousins_14 : decode cX10_areCousins 14 = .ok (.invokevirtual 45, 3) := by decide +kernel
theorem dX10_areCousins_17 : decode cX10_areCousins 17 = .ok (.bipush (-4), 2) := by decide +kernel
theorem dX10_areCousins_19 : decode cX10_areCousins 19 = .ok (.if_icmp .eq 26, 3) := by decide +kernel
theorem dX10_areCousins_22 : decode cX10_areCousins 22 = .ok (.aload_n 0, 1) := by decide +kernel
theorem dX10_areCousins_23 : decode cX10_areCousins 23 = .ok (.aload_n 0, 1) := by decide +kernel
theorem dX10_areCousins_24 : decode cX10_areCousins 24 = .ok (.iload_n 1, 1) := by decide +kernel
theorem dX10_areCousins_25 : decode cX10_areCousins 25 = .ok (.iconst 2, 1) := by decide +kernel
theorem dX10_areCousins_26 : decode cX10_areCousins 26 = .ok (.invokevirtual 45, 3) := by decide +kernel
theorem dX10_areCousins_29 : decode cX10_areCousins 29 = .ok (.aload_n 0, 1) := by decide +kernel
theorem dX10_areCousins_30 : decode cX10_areCousins 30 = .ok (.iload_n 2, 1) := by decide +kernel
theorem dX10_areCousins_31 : decode cX10_areCousins 31 = .ok (.iconst 2, 1) := by decide +kernel
theorem dX10_areCousins_32 : decode cX10_areCousins 32 = .ok (.invokevirtual 45, 3) := by decide +kernel
theorem dX10_areCousins_35 : decode cX10_areCousins 35 = .ok (.invokevirtual 78, 3) := by decide +kernel
theorem dX10_areCousins_38 : decode cX10_areCousins 38 = .ok (.ifCond .eq 7, 3) := by decide +kernel
theorem dX10_areCousins_41 : decode cX10_areCousins 41 = .ok (.iconst 1, 1) := by decide +kernel
theorem dX10_areCousins_42 : decode cX10_areCousins 42 = .ok (.goto 4, 3) := by decide +kernel
theorem dX10_areCousins_45 : decode cX10_areCousins 45 = .ok (.iconst 0, 1) := by decide +kernel
theorem dX10_areCousins_46 : decode cX10_areCousins 46 = .ok (.ireturn, 1) := by decide +kernel
theorem dX10_sonsOf_0 : decode cX10_sonsOf 0 = .ok (.iconst 0, 1) := by decide +kernel
theorem dX10_sonsOf_1 : decode cX10_sonsOf 1 = .ok (.istore_n 3, 1) := by decide +kernel
theorem dX10_sonsOf_2 : decode cX10_sonsOf 2 = .ok (.iconst 0, 1) := by decide +kernel
theorem dX10_sonsOf_3 : decode cX10_sonsOf 3 = .ok (.istore 4, 2) := by decide +kernel
theorem dX10_sonsOf_5 : decode cX10_sonsOf 5 = .ok (.iload 4, 2) := by decide +kernel
theorem dX10_sonsOf_7 : decode cX10_sonsOf 7 = .ok (.aload_n 0, 1) := by decide +kernel
theorem dX10_sonsOf_8 : decode cX10_sonsOf 8 = .ok (.getfield 7, 3) := by decide +kernel
theorem dX10_sonsOf_11 : decode cX10_sonsOf 11 = .ok (.iconst 0, 1) := by decide +kernel
theorem dX10_sonsOf_12 : decode cX10_sonsOf 12 = .ok (.iaload, 1) := by decide +kernel
theorem dX10_sonsOf_13 : decode cX10_sonsOf 13 = .ok (.if_icmp .ge 41, 3) := by decide +kernel
theorem dX10_sonsOf_16 : decode cX10_sonsOf 16 = .ok (.iload_n 3, 1) := by decide +kernel
theorem dX10_sonsOf_17 : decode cX10_sonsOf 17 = .ok (.aload_n 0, 1) := by decide +kernel
theorem dX10_sonsOf_18 : decode cX10_sonsOf 18 = .ok (.iload 4, 2) := by decide +kernel
theorem dX10_sonsOf_20 : decode cX10_sonsOf 20 = .ok (.iconst 2, 1) := by decide +kernel
theorem dX10_sonsOf_21 : decode cX10_sonsOf 21 = .ok (.invokevirtual 45, 3) := by decide +kernel
theorem dX10_sonsOf_24 : decode cX10_sonsOf 24 = .ok (.iload_n 1, 1) := by decide +kernel
theorem dX10_sonsOf_25 : decode cX10_sonsOf 25 = .ok (.if_icmp .ne 20, 3) := by decide +kernel
theorem dX10_sonsOf_28 : decode cX10_sonsOf 28 = .ok (.iload_n 2, 1) := by decide +kernel
theorem dX10_sonsOf_29 : decode cX10_sonsOf 29 = .ok (.ifCond .eq 12, 3) := by decide +kernel
theorem dX10_sonsOf_32 : decode cX10_sonsOf 32 = .ok (.aload_n 0, 1) := by decide +kernel
theorem dX10_sonsOf_33 : decode cX10_sonsOf 33 = .ok (.iload 4, 2) := by decide +kernel
theorem dX10_sonsOf_35 : decode cX10_sonsOf 35 = .ok (.invokevirtual 56, 3) := by decide +kernel
theorem dX10_sonsOf_38 : decode cX10_sonsOf 38 = .ok (.ifCond .eq 7, 3) := by decide +kernel
theorem dX10_sonsOf_41 : decode cX10_sonsOf 41 = .ok (.iconst 1, 1) := by decide +kernel
theorem dX10_sonsOf_42 : decode cX10_sonsOf 42 = .ok (.goto 4, 3) := by decide +kernel
theorem dX10_sonsOf_45 : decode cX10_sonsOf 45 = .ok (.iconst 0, 1) := by decide +kernel
theorem dX10_sonsOf_46 : decode cX10_sonsOf 46 = .ok (.iadd, 1) := by decide +kernel
theorem dX10_sonsOf_47 : decode cX10_sonsOf 47 = .ok (.istore_n 3, 1) := by decide +kernel
theorem dX10_sonsOf_48 : decode cX10_sonsOf 48 = .ok (.iinc 4 1, 3) := by decide +kernel
theorem dX10_sonsOf_51 : decode cX10_sonsOf 51 = .ok (.goto (-46), 3) := by decide +kernel
theorem dX10_sonsOf_54 : decode cX10_sonsOf 54 = .ok (.iload_n 3, 1) := by decide +kernel
theorem dX10_sonsOf_55 : decode cX10_sonsOf 55 = .ok (.ireturn, 1) := by decide +kernel
theorem dX10_depth_0 : decode cX10_depth 0 = .ok (.iconst 0, 1) := by decide +kernel
theorem dX10_depth_1 : decode cX10_depth 1 = .ok (.istore_n 2, 1) := by decide +kernel
theorem dX10_depth_2 : decode cX10_depth 2 = .ok (.iload_n 1, 1) := by decide +kernel
theorem dX10_depth_3 : decode cX10_depth 3 = .ok (.istore_n 3, 1) := by decide +kernel
theorem dX10_depth_4 : decode cX10_depth 4 = .ok (.aload_n 0, 1) := by decide +kernel
theorem dX10_depth_5 : decode cX10_depth 5 = .ok (.iload_n 3, 1) := by decide +kernel
theorem dX10_depth_6 : decode cX10_depth 6 = .ok (.iconst 2, 1) := by decide +kernel
theorem dX10_depth_7 : decode cX10_depth 7 = .ok (.invokevirtual 45, 3) := by decide +kernel
theorem dX10_depth_10 : decode cX10_depth 10 = .ok (.bipush (-4), 2) := by decide +kernel
theorem dX10_depth_12 : decode cX10_depth 12 = .ok (.if_icmp .eq 16, 3) := by decide +kernel
theorem dX10_depth_15 : decode cX10_depth 15 = .ok (.iinc 2 1, 3) := by decide +kernel
theorem dX10_depth_18 : decode cX10_depth 18 = .ok (.aload_n 0, 1) := by decide +kernel
theorem dX10_depth_19 : decode cX10_depth 19 = .ok (.iload_n 3, 1) := by decide +kernel
theorem dX10_depth_20 : decode cX10_depth 20 = .ok (.iconst 2, 1) := by decide +kernel
theorem dX10_depth_21 : decode cX10_depth 21 = .ok (.invokevirtual 45, 3) := by decide +kernel
theorem dX10_depth_24 : decode cX10_depth 24 = .ok (.istore_n 3, 1) := by decide +kernel
theorem dX10_depth_25 : decode cX10_depth 25 = .ok (.goto (-21), 3) := by decide +kernel
theorem dX10_depth_28 : decode cX10_depth 28 = .ok (.iload_n 2, 1) := by decide +kernel
theorem dX10_depth_29 : decode cX10_depth 29 = .ok (.ireturn, 1) := by decide +kernel
theorem dX10_eldest_0 : decode cX10_eldest 0 = .ok (.bipush (-4), 2) := by decide +kernel
theorem dX10_eldest_2 : decode cX10_eldest 2 = .ok (.istore_n 2, 1) := by decide +kernel
theorem dX10_eldest_3 : decode cX10_eldest 3 = .ok (.aload_n 0, 1) := by decide +kernel
theorem dX10_eldest_4 : decode cX10_eldest 4 = .ok (.getfield 7, 3) := by decide +kernel
theorem dX10_eldest_7 : decode cX10_eldest 7 = .ok (.iconst 0, 1) := by decide +kernel
theorem dX10_eldest_8 : decode cX10_eldest 8 = .ok (.iaload, 1) := by decide +kernel
theorem dX10_eldest_9 : decode cX10_eldest 9 = .ok (.iconst 1, 1) := by decide +kernel
theorem dX10_eldest_10 : decode cX10_eldest 10 = .ok (.isub, 1) := by decide +kernel
theorem dX10_eldest_11 : decode cX10_eldest 11 = .ok (.istore_n 3, 1) := by decide +kernel
theorem dX10_eldest_12 : decode cX10_eldest 12 = .ok (.iload_n 3, 1) := by decide +kernel
theorem dX10_eldest_13 : decode cX10_eldest 13 = .ok (.ifCond .lt 33, 3) := by decide +kernel
theorem dX10_eldest_16 : decode cX10_eldest 16 = .ok (.aload_n 0, 1) := by decide +kernel
theorem dX10_eldest_17 : decode cX10_eldest 17 = .ok (.iload_n 3, 1) := by decide +kernel
theorem dX10_eldest_18 : decode cX10_eldest 18 = .ok (.iconst 2, 1) := by decide +kernel
theorem dX10_eldest_19 : decode cX10_eldest 19 = .ok (.invokevirtual 45, 3) := by decide +kernel
theorem dX10_eldest_22 : decode cX10_eldest 22 = .ok (.iload_n 1, 1) := by decide +kernel
theorem dX10_eldest_23 : decode cX10_eldest 23 = .ok (.if_icmp .ne 15, 3) := by decide +kernel
theorem dX10_eldest_26 : decode cX10_eldest 26 = .ok (.aload_n 0, 1) := by decide +kernel
theorem dX10_eldest_27 : decode cX10_eldest 27 = .ok (.iload_n 3, 1) := by decide +kernel
theorem dX10_eldest_28 : decode cX10_eldest 28 = .ok (.invokevirtual 56, 3) := by decide +kernel
theorem dX10_eldest_31 : decode cX10_eldest 31 = .ok (.ifCond .eq 7, 3) := by decide +kernel
theorem dX10_eldest_34 : decode cX10_eldest 34 = .ok (.iload_n 3, 1) := by decide +kernel
theorem dX10_eldest_35 : decode cX10_eldest 35 = .ok (.goto 4, 3) := by decide +kernel
theorem dX10_eldest_38 : decode cX10_eldest 38 = .ok (.iload_n 2, 1) := by decide +kernel
theorem dX10_eldest_39 : decode cX10_eldest 39 = .ok (.istore_n 2, 1) := by decide +kernel
theorem dX10_eldest_40 : decode cX10_eldest 40 = .ok (.iinc 3 (-1), 3) := by decide +kernel
theorem dX10_eldest_43 : decode cX10_eldest 43 = .ok (.goto (-31), 3) := by decide +kernel
theorem dX10_eldest_46 : decode cX10_eldest 46 = .ok (.iload_n 2, 1) := by decide +kernel
theorem dX10_eldest_47 : decode cX10_eldest 47 = .ok (.ireturn, 1) := by decide +kernel
theorem dX10_refuse_0 : decode cX10_refuse 0 = .ok (.aload_n 0, 1) := by decide +kernel
theorem dX10_refuse_1 : decode cX10_refuse 1 = .ok (.getfield 7, 3) := by decide +kernel
theorem dX10_refuse_4 : decode cX10_refuse 4 = .ok (.iconst 1, 1) := by decide +kernel
theorem dX10_refuse_5 : decode cX10_refuse 5 = .ok (.dup2, 1) := by decide +kernel
theorem dX10_refuse_6 : decode cX10_refuse 6 = .ok (.iaload, 1) := by decide +kernel
theorem dX10_refuse_7 : decode cX10_refuse 7 = .ok (.iconst 1, 1) := by decide +kernel
theorem dX10_refuse_8 : decode cX10_refuse 8 = .ok (.iadd, 1) := by decide +kernel
theorem dX10_refuse_9 : decode cX10_refuse 9 = .ok (.iastore, 1) := by decide +kernel
theorem dX10_refuse_10 : decode cX10_refuse 10 = .ok (.iload_n 1, 1) := by decide +kernel
theorem dX10_refuse_11 : decode cX10_refuse 11 = .ok (.ireturn, 1) := by decide +kernel
theorem dX10_come_0 : decode cX10_come 0 = .ok (.aload_n 0, 1) := by decide +kernel
theorem dX10_come_1 : decode cX10_come 1 = .ok (.getfield 7, 3) := by decide +kernel
theorem dX10_come_4 : decode cX10_come 4 = .ok (.iconst 0, 1) := by decide +kernel
theorem dX10_come_5 : decode cX10_come 5 = .ok (.iaload, 1) := by decide +kernel
theorem dX10_come_6 : decode cX10_come 6 = .ok (.istore 5, 2) := by decide +kernel
theorem dX10_come_8 : decode cX10_come 8 = .ok (.aload_n 0, 1) := by decide +kernel
theorem dX10_come_9 : decode cX10_come 9 = .ok (.iload 5, 2) := by decide +kernel
theorem dX10_come_11 : decode cX10_come 11 = .ok (.iconst 0, 1) := by decide +kernel
theorem dX10_come_12 : decode cX10_come 12 = .ok (.iload_n 1, 1) := by decide +kernel
theorem dX10_come_13 : decode cX10_come 13 = .ok (.invokevirtual 82, 3) := by decide +kernel
theorem dX10_come_16 : decode cX10_come 16 = .ok (.aload_n 0, 1) := by decide +kernel
theorem dX10_come_17 : decode cX10_come 17 = .ok (.iload 5, 2) := by decide +kernel
theorem dX10_come_19 : decode cX10_come 19 = .ok (.iconst 1, 1) := by decide +kernel
theorem dX10_come_20 : decode cX10_come 20 = .ok (.iconst 1, 1) := by decide +kernel
theorem dX10_come_21 : decode cX10_come 21 = .ok (.invokevirtual 82, 3) := by decide +kernel
theorem dX10_come_24 : decode cX10_come 24 = .ok (.aload_n 0, 1) := by decide +kernel
theorem dX10_come_25 : decode cX10_come 25 = .ok (.iload 5, 2) := by decide +kernel
theorem dX10_come_27 : decode cX10_come 27 = .ok (.iconst 2, 1) := by decide +kernel
theorem dX10_come_28 : decode cX10_come 28 = .ok (.iload_n 2, 1) := by decide +kernel
theorem dX10_come_29 : decode cX10_come 29 = .ok (.invokevirtual 82, 3) := by decide +kernel
theorem dX10_come_32 : decode cX10_come 32 = .ok (.aload_n 0, 1) := by decide +kernel
theorem dX10_come_33 : decode cX10_come 33 = .ok (.iload 5, 2) := by decide +kernel
theorem dX10_come_35 : decode cX10_come 35 = .ok (.iconst 3, 1) := by decide +kernel
theorem dX10_come_36 : decode cX10_come 36 = .ok (.iload_n 3, 1) := by decide +kernel
theorem dX10_come_37 : decode cX10_come 37 = .ok (.invokevirtual 82, 3) := by decide +kernel
theorem dX10_come_40 : decode cX10_come 40 = .ok (.aload_n 0, 1) := by decide +kernel
theorem dX10_come_41 : decode cX10_come 41 = .ok (.iload 5, 2) := by decide +kernel
theorem dX10_come_43 : decode cX10_come 43 = .ok (.iconst 4, 1) := by decide +kernel
theorem dX10_come_44 : decode cX10_come 44 = .ok (.iload 4, 2) := by decide +kernel
theorem dX10_come_46 : decode cX10_come 46 = .ok (.invokevirtual 82, 3) := by decide +kernel
theorem dX10_come_49 : decode cX10_come 49 = .ok (.aload_n 0, 1) := by decide +kernel
theorem dX10_come_50 : decode cX10_come 50 = .ok (.getfield 7, 3) := by decide +kernel
theorem dX10_come_53 : decode cX10_come 53 = .ok (.iconst 0, 1) := by decide +kernel
theorem dX10_come_54 : decode cX10_come 54 = .ok (.dup2, 1) := by decide +kernel
theorem dX10_come_55 : decode cX10_come 55 = .ok (.iaload, 1) := by decide +kernel
theorem dX10_come_56 : decode cX10_come 56 = .ok (.iconst 1, 1) := by decide +kernel
theorem dX10_come_57 : decode cX10_come 57 = .ok (.iadd, 1) := by decide +kernel
theorem dX10_come_58 : decode cX10_come 58 = .ok (.iastore, 1) := by decide +kernel
theorem dX10_come_59 : decode cX10_come 59 = .ok (.bipush 10, 2) := by decide +kernel
theorem dX10_come_61 : decode cX10_come 61 = .ok (.iload 5, 2) := by decide +kernel
theorem dX10_come_63 : decode cX10_come 63 = .ok (.iadd, 1) := by decide +kernel
theorem dX10_come_64 : decode cX10_come 64 = .ok (.ireturn, 1) := by decide +kernel
theorem dX10_whyNotFound_0 : decode cX10_whyNotFound 0 = .ok (.iload_n 1, 1) := by decide +kernel
theorem dX10_whyNotFound_1 : decode cX10_whyNotFound 1 = .ok (.invokestatic 86, 3) := by decide +kernel
theorem dX10_whyNotFound_4 : decode cX10_whyNotFound 4 = .ok (.ifCond .ne 7, 3) := by decide +kernel
theorem dX10_whyNotFound_7 : decode cX10_whyNotFound 7 = .ok (.iconst (-1), 1) := by decide +kernel
theorem dX10_whyNotFound_8 : decode cX10_whyNotFound 8 = .ok (.goto 20, 3) := by decide +kernel
theorem dX10_whyNotFound_11 : decode cX10_whyNotFound 11 = .ok (.aload_n 0, 1) := by decide +kernel
theorem dX10_whyNotFound_12 : decode cX10_whyNotFound 12 = .ok (.getfield 7, 3) := by decide +kernel
theorem dX10_whyNotFound_15 : decode cX10_whyNotFound 15 = .ok (.iconst 0, 1) := by decide +kernel
theorem dX10_whyNotFound_16 : decode cX10_whyNotFound 16 = .ok (.iaload, 1) := by decide +kernel
theorem dX10_whyNotFound_17 : decode cX10_whyNotFound 17 = .ok (.bipush 20, 2) := by decide +kernel
theorem dX10_whyNotFound_19 : decode cX10_whyNotFound 19 = .ok (.if_icmp .ne 8, 3) := by decide +kernel
theorem dX10_whyNotFound_22 : decode cX10_whyNotFound 22 = .ok (.bipush (-3), 2) := by decide +kernel
theorem dX10_whyNotFound_24 : decode cX10_whyNotFound 24 = .ok (.goto 4, 3) := by decide +kernel
theorem dX10_whyNotFound_27 : decode cX10_whyNotFound 27 = .ok (.iconst 0, 1) := by decide +kernel
theorem dX10_whyNotFound_28 : decode cX10_whyNotFound 28 = .ok (.ireturn, 1) := by decide +kernel
theorem dX10_foundNow_0 : decode cX10_foundNow 0 = .ok (.aload_n 0, 1) := by decide +kernel
theorem dX10_foundNow_1 : decode cX10_foundNow 1 = .ok (.iload_n 1, 1) := by decide +kernel
theorem dX10_foundNow_2 : decode cX10_foundNow 2 = .ok (.invokevirtual 89, 3) := by decide +kernel
theorem dX10_foundNow_5 : decode cX10_foundNow 5 = .ok (.bipush (-4), 2) := by decide +kernel
theorem dX10_foundNow_7 : decode cX10_foundNow 7 = .ok (.if_icmp .eq 11, 3) := by decide +kernel
theorem dX10_foundNow_10 : decode cX10_foundNow 10 = .ok (.aload_n 0, 1) := by decide +kernel
theorem dX10_foundNow_11 : decode cX10_foundNow 11 = .ok (.iconst 3, 1) := by decide +kernel
theorem dX10_foundNow_12 : decode cX10_foundNow 12 = .ok (.invokevirtual 92, 3) := by decide +kernel
theorem dX10_foundNow_15 : decode cX10_foundNow 15 = .ok (.goto 14, 3) := by decide +kernel
theorem dX10_foundNow_18 : decode cX10_foundNow 18 = .ok (.aload_n 0, 1) := by decide +kernel
theorem dX10_foundNow_19 : decode cX10_foundNow 19 = .ok (.iload_n 1, 1) := by decide +kernel
theorem dX10_foundNow_20 : decode cX10_foundNow 20 = .ok (.bipush (-4), 2) := by decide +kernel
theorem dX10_foundNow_22 : decode cX10_foundNow 22 = .ok (.bipush (-4), 2) := by decide +kernel
theorem dX10_foundNow_24 : decode cX10_foundNow 24 = .ok (.bipush (-4), 2) := by decide +kernel
theorem dX10_foundNow_26 : decode cX10_foundNow 26 = .ok (.invokevirtual 95, 3) := by decide +kernel
theorem dX10_foundNow_29 : decode cX10_foundNow 29 = .ok (.ireturn, 1) := by decide +kernel
theorem dX10_found_0 : decode cX10_found 0 = .ok (.aload_n 0, 1) := by decide +kernel
theorem dX10_found_1 : decode cX10_found 1 = .ok (.iload_n 1, 1) := by decide +kernel
theorem dX10_found_2 : decode cX10_found 2 = .ok (.invokevirtual 99, 3) := by decide +kernel
theorem dX10_found_5 : decode cX10_found 5 = .ok (.istore_n 2, 1) := by decide +kernel
theorem dX10_found_6 : decode cX10_found 6 = .ok (.iload_n 2, 1) := by decide +kernel
theorem dX10_found_7 : decode cX10_found 7 = .ok (.ifCond .ge 5, 3) := by decide +kernel
theorem dX10_found_10 : decode cX10_found 10 = .ok (.iload_n 2, 1) := by decide +kernel
theorem dX10_found_11 : decode cX10_found 11 = .ok (.ireturn, 1) := by decide +kernel
theorem dX10_found_12 : decode cX10_found 12 = .ok (.aload_n 0, 1) := by decide +kernel
theorem dX10_found_13 : decode cX10_found 13 = .ok (.invokevirtual 75, 3) := by decide +kernel
theorem dX10_found_16 : decode cX10_found 16 = .ok (.aload_n 0, 1) := by decide +kernel
theorem dX10_found_17 : decode cX10_found 17 = .ok (.iload_n 1, 1) := by decide +kernel
theorem dX10_found_18 : decode cX10_found 18 = .ok (.invokevirtual 102, 3) := by decide +kernel
theorem dX10_found_21 : decode cX10_found 21 = .ok (.ireturn, 1) := by decide +kernel
theorem dX10_isChange_0 : decode cX10_isChange 0 = .ok (.iload_n 0, 1) := by decide +kernel
theorem dX10_isChange_1 : decode cX10_isChange 1 = .ok (.iconst 0, 1) := by decide +kernel
theorem dX10_isChange_2 : decode cX10_isChange 2 = .ok (.iconst 5, 1) := by decide +kernel
theorem dX10_isChange_3 : decode cX10_isChange 3 = .ok (.invokestatic 41, 3) := by decide +kernel
theorem dX10_isChange_6 : decode cX10_isChange 6 = .ok (.ifCond .eq 16, 3) := by decide +kernel
theorem dX10_isChange_9 : decode cX10_isChange 9 = .ok (.iload_n 1, 1) := by decide +kernel
theorem dX10_isChange_10 : decode cX10_isChange 10 = .ok (.iconst 0, 1) := by decide +kernel
theorem dX10_isChange_11 : decode cX10_isChange 11 = .ok (.iconst 4, 1) := by decide +kernel
theorem dX10_isChange_12 : decode cX10_isChange 12 = .ok (.invokestatic 41, 3) := by decide +kernel
theorem dX10_isChange_15 : decode cX10_isChange 15 = .ok (.ifCond .eq 7, 3) := by decide +kernel
theorem dX10_isChange_18 : decode cX10_isChange 18 = .ok (.iconst 1, 1) := by decide +kernel
theorem dX10_isChange_19 : decode cX10_isChange 19 = .ok (.goto 4, 3) := by decide +kernel
theorem dX10_isChange_22 : decode cX10_isChange 22 = .ok (.iconst 0, 1) := by decide +kernel
theorem dX10_isChange_23 : decode cX10_isChange 23 = .ok (.ireturn, 1) := by decide +kernel
theorem dX10_isCousins_0 : decode cX10_isCousins 0 = .ok (.iconst 0, 1) := by decide +kernel
theorem dX10_isCousins_1 : decode cX10_isCousins 1 = .ok (.istore_n 3, 1) := by decide +kernel
theorem dX10_isCousins_2 : decode cX10_isCousins 2 = .ok (.iconst 0, 1) := by decide +kernel
theorem dX10_isCousins_3 : decode cX10_isCousins 3 = .ok (.istore 4, 2) := by decide +kernel
theorem dX10_isCousins_5 : decode cX10_isCousins 5 = .ok (.iload 4, 2) := by decide +kernel
theorem dX10_isCousins_7 : decode cX10_isCousins 7 = .ok (.aload_n 0, 1) := by decide +kernel
theorem dX10_isCousins_8 : decode cX10_isCousins 8 = .ok (.getfield 7, 3) := by decide +kernel
theorem dX10_isCousins_11 : decode cX10_isCousins 11 = .ok (.iconst 0, 1) := by decide +kernel
theorem dX10_isCousins_12 : decode cX10_isCousins 12 = .ok (.iaload, 1) := by decide +kernel
theorem dX10_isCousins_13 : decode cX10_isCousins 13 = .ok (.if_icmp .ge 78, 3) := by decide +kernel
theorem dX10_isCousins_16 : decode cX10_isCousins 16 = .ok (.aload_n 0, 1) := by decide +kernel
theorem dX10_isCousins_17 : decode cX10_isCousins 17 = .ok (.iload 4, 2) := by decide +kernel
theorem dX10_isCousins_19 : decode cX10_isCousins 19 = .ok (.iconst 2, 1) := by decide +kernel
theorem dX10_isCousins_20 : decode cX10_isCousins 20 = .ok (.invokevirtual 45, 3) := by decide +kernel
theorem dX10_isCousins_23 : decode cX10_isCousins 23 = .ok (.bipush (-4), 2) := by decide +kernel
theorem dX10_isCousins_25 : decode cX10_isCousins 25 = .ok (.if_icmp .eq 22, 3) := by decide +kernel
theorem dX10_isCousins_28 : decode cX10_isCousins 28 = .ok (.aload_n 0, 1) := by decide +kernel
theorem dX10_isCousins_29 : decode cX10_isCousins 29 = .ok (.aload_n 0, 1) := by decide +kernel
theorem dX10_isCousins_30 : decode cX10_isCousins 30 = .ok (.iload 4, 2) := by decide +kernel
theorem dX10_isCousins_32 : decode cX10_isCousins 32 = .ok (.iconst 2, 1) := by decide +kernel
theorem dX10_isCousins_33 : decode cX10_isCousins 33 = .ok (.invokevirtual 45, 3) := by decide +kernel
theorem dX10_isCousins_36 : decode cX10_isCousins 36 = .ok (.iload_n 1, 1) := by decide +kernel
theorem dX10_isCousins_37 : decode cX10_isCousins 37 = .ok (.invokevirtual 78, 3) := by decide +kernel
theorem dX10_isCousins_40 : decode cX10_isCousins 40 = .ok (.ifCond .eq 7, 3) := by decide +kernel
theorem dX10_isCousins_43 : decode cX10_isCousins 43 = .ok (.iconst 1, 1) := by decide +kernel
theorem dX10_isCousins_44 : decode cX10_isCousins 44 = .ok (.goto 4, 3) := by decide +kernel
theorem dX10_isCousins_47 : decode cX10_isCousins 47 = .ok (.iconst 0, 1) := by decide +kernel
theorem dX10_isCousins_48 : decode cX10_isCousins 48 = .ok (.istore 5, 2) := by decide +kernel
theorem dX10_isCousins_50 : decode cX10_isCousins 50 = .ok (.iload_n 3, 1) := by decide +kernel
theorem dX10_isCousins_51 : decode cX10_isCousins 51 = .ok (.ifCond .ne 28, 3) := by decide +kernel
theorem dX10_isCousins_54 : decode cX10_isCousins 54 = .ok (.aload_n 0, 1) := by decide +kernel
theorem dX10_isCousins_55 : decode cX10_isCousins 55 = .ok (.iload 4, 2) := by decide +kernel
theorem dX10_isCousins_57 : decode cX10_isCousins 57 = .ok (.invokevirtual 56, 3) := by decide +kernel
theorem dX10_isCousins_60 : decode cX10_isCousins 60 = .ok (.ifCond .eq 23, 3) := by decide +kernel
theorem dX10_isCousins_63 : decode cX10_isCousins 63 = .ok (.iload 5, 2) := by decide +kernel
theorem dX10_isCousins_65 : decode cX10_isCousins 65 = .ok (.ifCond .eq 18, 3) := by decide +kernel
theorem dX10_isCousins_68 : decode cX10_isCousins 68 = .ok (.aload_n 0, 1) := by decide +kernel
theorem dX10_isCousins_69 : decode cX10_isCousins 69 = .ok (.iload 4, 2) := by decide +kernel
theorem dX10_isCousins_71 : decode cX10_isCousins 71 = .ok (.iconst 3, 1) := by decide +kernel
theorem dX10_isCousins_72 : decode cX10_isCousins 72 = .ok (.invokevirtual 45, 3) := by decide +kernel
theorem dX10_isCousins_75 : decode cX10_isCousins 75 = .ok (.iload_n 2, 1) := by decide +kernel
theorem dX10_isCousins_76 : decode cX10_isCousins 76 = .ok (.if_icmp .ne 7, 3) := by decide +kernel
theorem dX10_isCousins_79 : decode cX10_isCousins 79 = .ok (.iconst 1, 1) := by decide +kernel
theorem dX10_isCousins_80 : decode cX10_isCousins 80 = .ok (.goto 4, 3) := by decide +kernel
theorem dX10_isCousins_83 : decode cX10_isCousins 83 = .ok (.iconst 0, 1) := by decide +kernel
theorem dX10_isCousins_84 : decode cX10_isCousins 84 = .ok (.istore_n 3, 1) := by decide +kernel
theorem dX10_isCousins_85 : decode cX10_isCousins 85 = .ok (.iinc 4 1, 3) := by decide +kernel
theorem dX10_isCousins_88 : decode cX10_isCousins 88 = .ok (.goto (-83), 3) := by decide +kernel
theorem dX10_isCousins_91 : decode cX10_isCousins 91 = .ok (.iload_n 3, 1) := by decide +kernel
theorem dX10_isCousins_92 : decode cX10_isCousins 92 = .ok (.ireturn, 1) := by decide +kernel
theorem dX10_reason_0 : decode cX10_reason 0 = .ok (.aload_n 0, 1) := by decide +kernel
theorem dX10_reason_1 : decode cX10_reason 1 = .ok (.iload_n 1, 1) := by decide +kernel
theorem dX10_reason_2 : decode cX10_reason 2 = .ok (.iconst 0, 1) := by decide +kernel
theorem dX10_reason_3 : decode cX10_reason 3 = .ok (.invokevirtual 45, 3) := by decide +kernel
theorem dX10_reason_6 : decode cX10_reason 6 = .ok (.istore 4, 2) := by decide +kernel
theorem dX10_reason_8 : decode cX10_reason 8 = .ok (.aload_n 0, 1) := by decide +kernel
theorem dX10_reason_9 : decode cX10_reason 9 = .ok (.iload_n 1, 1) := by decide +kernel
theorem dX10_reason_10 : decode cX10_reason 10 = .ok (.invokevirtual 56, 3) := by decide +kernel
theorem dX10_reason_13 : decode cX10_reason 13 = .ok (.ifCond .ne 5, 3) := by decide +kernel
theorem dX10_reason_16 : decode cX10_reason 16 = .ok (.iconst 1, 1) := by decide +kernel
theorem dX10_reason_17 : decode cX10_reason 17 = .ok (.ireturn, 1) := by decide +kernel
theorem dX10_reason_18 : decode cX10_reason 18 = .ok (.iload 4, 2) := by decide +kernel
theorem dX10_reason_20 : decode cX10_reason 20 = .ok (.iload_n 2, 1) := by decide +kernel
theorem dX10_reason_21 : decode cX10_reason 21 = .ok (.invokestatic 53, 3) := by decide +kernel
theorem dX10_reason_24 : decode cX10_reason 24 = .ok (.iload_n 3, 1) := by decide +kernel
theorem dX10_reason_25 : decode cX10_reason 25 = .ok (.if_icmp .ne 5, 3) := by decide +kernel
theorem dX10_reason_28 : decode cX10_reason 28 = .ok (.iconst 2, 1) := by decide +kernel
theorem dX10_reason_29 : decode cX10_reason 29 = .ok (.ireturn, 1) := by decide +kernel
theorem dX10_reason_30 : decode cX10_reason 30 = .ok (.aload_n 0, 1) := by decide +kernel
theorem dX10_reason_31 : decode cX10_reason 31 = .ok (.iload 4, 2) := by decide +kernel
theorem dX10_reason_33 : decode cX10_reason 33 = .ok (.iload_n 2, 1) := by decide +kernel
theorem dX10_reason_34 : decode cX10_reason 34 = .ok (.iload_n 3, 1) := by decide +kernel
theorem dX10_reason_35 : decode cX10_reason 35 = .ok (.invokestatic 105, 3) := by decide +kernel
theorem dX10_reason_38 : decode cX10_reason 38 = .ok (.invokevirtual 89, 3) := by decide +kernel
theorem dX10_reason_41 : decode cX10_reason 41 = .ok (.bipush (-4), 2) := by decide +kernel
theorem dX10_reason_43 : decode cX10_reason 43 = .ok (.if_icmp .eq 5, 3) := by decide +kernel
theorem dX10_reason_46 : decode cX10_reason 46 = .ok (.iconst 3, 1) := by decide +kernel
theorem dX10_reason_47 : decode cX10_reason 47 = .ok (.ireturn, 1) := by decide +kernel
theorem dX10_reason_48 : decode cX10_reason 48 = .ok (.aload_n 0, 1) := by decide +kernel
theorem dX10_reason_49 : decode cX10_reason 49 = .ok (.iload_n 1, 1) := by decide +kernel
theorem dX10_reason_50 : decode cX10_reason 50 = .ok (.iload_n 2, 1) := by decide +kernel
theorem dX10_reason_51 : decode cX10_reason 51 = .ok (.invokevirtual 109, 3) := by decide +kernel
theorem dX10_reason_54 : decode cX10_reason 54 = .ok (.ifCond .eq 7, 3) := by decide +kernel
theorem dX10_reason_57 : decode cX10_reason 57 = .ok (.iconst 4, 1) := by decide +kernel
theorem dX10_reason_58 : decode cX10_reason 58 = .ok (.goto 18, 3) := by decide +kernel
theorem dX10_reason_61 : decode cX10_reason 61 = .ok (.aload_n 0, 1) := by decide +kernel
theorem dX10_reason_62 : decode cX10_reason 62 = .ok (.iload_n 1, 1) := by decide +kernel
theorem dX10_reason_63 : decode cX10_reason 63 = .ok (.iconst 0, 1) := by decide +kernel
theorem dX10_reason_64 : decode cX10_reason 64 = .ok (.invokevirtual 112, 3) := by decide +kernel
theorem dX10_reason_67 : decode cX10_reason 67 = .ok (.iconst 4, 1) := by decide +kernel
theorem dX10_reason_68 : decode cX10_reason 68 = .ok (.if_icmp .ne 7, 3) := by decide +kernel
theorem dX10_reason_71 : decode cX10_reason 71 = .ok (.iconst 5, 1) := by decide +kernel
theorem dX10_reason_72 : decode cX10_reason 72 = .ok (.goto 4, 3) := by decide +kernel
theorem dX10_reason_75 : decode cX10_reason 75 = .ok (.iconst 0, 1) := by decide +kernel
theorem dX10_reason_76 : decode cX10_reason 76 = .ok (.ireturn, 1) := by decide +kernel
theorem dX10_whyNotBear_0 : decode cX10_whyNotBear 0 = .ok (.aload_n 0, 1) := by decide +kernel
theorem dX10_whyNotBear_1 : decode cX10_whyNotBear 1 = .ok (.iload_n 1, 1) := by decide +kernel
theorem dX10_whyNotBear_2 : decode cX10_whyNotBear 2 = .ok (.invokevirtual 116, 3) := by decide +kernel
theorem dX10_whyNotBear_5 : decode cX10_whyNotBear 5 = .ok (.ifCond .eq 11, 3) := by decide +kernel
theorem dX10_whyNotBear_8 : decode cX10_whyNotBear 8 = .ok (.iload_n 2, 1) := by decide +kernel
theorem dX10_whyNotBear_9 : decode cX10_whyNotBear 9 = .ok (.iload_n 3, 1) := by decide +kernel
theorem dX10_whyNotBear_10 : decode cX10_whyNotBear 10 = .ok (.invokestatic 119, 3) := by decide +kernel
theorem dX10_whyNotBear_13 : decode cX10_whyNotBear 13 = .ok (.ifCond .ne 7, 3) := by decide +kernel
theorem dX10_whyNotBear_16 : decode cX10_whyNotBear 16 = .ok (.iconst (-1), 1) := by decide +kernel
theorem dX10_whyNotBear_17 : decode cX10_whyNotBear 17 = .ok (.goto 20, 3) := by decide +kernel
theorem dX10_whyNotBear_20 : decode cX10_whyNotBear 20 = .ok (.aload_n 0, 1) := by decide +kernel
theorem dX10_whyNotBear_21 : decode cX10_whyNotBear 21 = .ok (.getfield 7, 3) := by decide +kernel
theorem dX10_whyNotBear_24 : decode cX10_whyNotBear 24 = .ok (.iconst 0, 1) := by decide +kernel
theorem dX10_whyNotBear_25 : decode cX10_whyNotBear 25 = .ok (.iaload, 1) := by decide +kernel
theorem dX10_whyNotBear_26 : decode cX10_whyNotBear 26 = .ok (.bipush 20, 2) := by decide +kernel
theorem dX10_whyNotBear_28 : decode cX10_whyNotBear 28 = .ok (.if_icmp .ne 8, 3) := by decide +kernel
theorem dX10_whyNotBear_31 : decode cX10_whyNotBear 31 = .ok (.bipush (-3), 2) := by decide +kernel
theorem dX10_whyNotBear_33 : decode cX10_whyNotBear 33 = .ok (.goto 4, 3) := by decide +kernel
theorem dX10_whyNotBear_36 : decode cX10_whyNotBear 36 = .ok (.iconst 0, 1) := by decide +kernel
theorem dX10_whyNotBear_37 : decode cX10_whyNotBear 37 = .ok (.ireturn, 1) := by decide +kernel
theorem dX10_bearNow_0 : decode cX10_bearNow 0 = .ok (.aload_n 0, 1) := by decide +kernel
theorem dX10_bearNow_1 : decode cX10_bearNow 1 = .ok (.iload_n 1, 1) := by decide +kernel
theorem dX10_bearNow_2 : decode cX10_bearNow 2 = .ok (.iload_n 2, 1) := by decide +kernel
theorem dX10_bearNow_3 : decode cX10_bearNow 3 = .ok (.iload_n 3, 1) := by decide +kernel
theorem dX10_bearNow_4 : decode cX10_bearNow 4 = .ok (.invokevirtual 122, 3) := by decide +kernel
theorem dX10_bearNow_7 : decode cX10_bearNow 7 = .ok (.istore 4, 2) := by decide +kernel
theorem dX10_bearNow_9 : decode cX10_bearNow 9 = .ok (.iload 4, 2) := by decide +kernel
theorem dX10_bearNow_11 : decode cX10_bearNow 11 = .ok (.ifCond .le 12, 3) := by decide +kernel
theorem dX10_bearNow_14 : decode cX10_bearNow 14 = .ok (.aload_n 0, 1) := by decide +kernel
theorem dX10_bearNow_15 : decode cX10_bearNow 15 = .ok (.iload 4, 2) := by decide +kernel
theorem dX10_bearNow_17 : decode cX10_bearNow 17 = .ok (.invokevirtual 92, 3) := by decide +kernel
theorem dX10_bearNow_20 : decode cX10_bearNow 20 = .ok (.goto 21, 3) := by decide +kernel
theorem dX10_bearNow_23 : decode cX10_bearNow 23 = .ok (.aload_n 0, 1) := by decide +kernel
theorem dX10_bearNow_24 : decode cX10_bearNow 24 = .ok (.aload_n 0, 1) := by decide +kernel
theorem dX10_bearNow_25 : decode cX10_bearNow 25 = .ok (.iload_n 1, 1) := by decide +kernel
theorem dX10_bearNow_26 : decode cX10_bearNow 26 = .ok (.iconst 0, 1) := by decide +kernel
theorem dX10_bearNow_27 : decode cX10_bearNow 27 = .ok (.invokevirtual 45, 3) := by decide +kernel
theorem dX10_bearNow_30 : decode cX10_bearNow 30 = .ok (.iload_n 2, 1) := by decide +kernel
theorem dX10_bearNow_31 : decode cX10_bearNow 31 = .ok (.iload_n 3, 1) := by decide +kernel
theorem dX10_bearNow_32 : decode cX10_bearNow 32 = .ok (.invokestatic 105, 3) := by decide +kernel
theorem dX10_bearNow_35 : decode cX10_bearNow 35 = .ok (.iload_n 1, 1) := by decide +kernel
theorem dX10_bearNow_36 : decode cX10_bearNow 36 = .ok (.iload_n 2, 1) := by decide +kernel
theorem dX10_bearNow_37 : decode cX10_bearNow 37 = .ok (.iload_n 3, 1) := by decide +kernel
theorem dX10_bearNow_38 : decode cX10_bearNow 38 = .ok (.invokevirtual 95, 3) := by decide +kernel
theorem dX10_bearNow_41 : decode cX10_bearNow 41 = .ok (.ireturn, 1) := by decide +kernel
theorem dX10_bear_0 : decode cX10_bear 0 = .ok (.aload_n 0, 1) := by decide +kernel
theorem dX10_bear_1 : decode cX10_bear 1 = .ok (.iload_n 1, 1) := by decide +kernel
theorem dX10_bear_2 : decode cX10_bear 2 = .ok (.iload_n 2, 1) := by decide +kernel
theorem dX10_bear_3 : decode cX10_bear 3 = .ok (.iload_n 3, 1) := by decide +kernel
theorem dX10_bear_4 : decode cX10_bear 4 = .ok (.invokevirtual 125, 3) := by decide +kernel
theorem dX10_bear_7 : decode cX10_bear 7 = .ok (.istore 4, 2) := by decide +kernel
theorem dX10_bear_9 : decode cX10_bear 9 = .ok (.iload 4, 2) := by decide +kernel
theorem dX10_bear_11 : decode cX10_bear 11 = .ok (.ifCond .ge 6, 3) := by decide +kernel
theorem dX10_bear_14 : decode cX10_bear 14 = .ok (.iload 4, 2) := by decide +kernel
theorem dX10_bear_16 : decode cX10_bear 16 = .ok (.ireturn, 1) := by decide +kernel
theorem dX10_bear_17 : decode cX10_bear 17 = .ok (.aload_n 0, 1) := by decide +kernel
theorem dX10_bear_18 : decode cX10_bear 18 = .ok (.invokevirtual 75, 3) := by decide +kernel
theorem dX10_bear_21 : decode cX10_bear 21 = .ok (.aload_n 0, 1) := by decide +kernel
theorem dX10_bear_22 : decode cX10_bear 22 = .ok (.iload_n 1, 1) := by decide +kernel
theorem dX10_bear_23 : decode cX10_bear 23 = .ok (.iload_n 2, 1) := by decide +kernel
theorem dX10_bear_24 : decode cX10_bear 24 = .ok (.iload_n 3, 1) := by decide +kernel
theorem dX10_bear_25 : decode cX10_bear 25 = .ok (.invokevirtual 128, 3) := by decide +kernel
theorem dX10_bear_28 : decode cX10_bear 28 = .ok (.ireturn, 1) := by decide +kernel
theorem dX10_dieNow_0 : decode cX10_dieNow 0 = .ok (.aload_n 0, 1) := by decide +kernel
theorem dX10_dieNow_1 : decode cX10_dieNow 1 = .ok (.iload_n 1, 1) := by decide +kernel
theorem dX10_dieNow_2 : decode cX10_dieNow 2 = .ok (.invokevirtual 56, 3) := by decide +kernel
theorem dX10_dieNow_5 : decode cX10_dieNow 5 = .ok (.ifCond .ne 10, 3) := by decide +kernel
theorem dX10_dieNow_8 : decode cX10_dieNow 8 = .ok (.aload_n 0, 1) := by decide +kernel
theorem dX10_dieNow_9 : decode cX10_dieNow 9 = .ok (.bipush 6, 2) := by decide +kernel
theorem dX10_dieNow_11 : decode cX10_dieNow 11 = .ok (.invokevirtual 92, 3) := by decide +kernel
theorem dX10_dieNow_14 : decode cX10_dieNow 14 = .ok (.ireturn, 1) := by decide +kernel
theorem dX10_dieNow_15 : decode cX10_dieNow 15 = .ok (.aload_n 0, 1) := by decide +kernel
theorem dX10_dieNow_16 : decode cX10_dieNow 16 = .ok (.iload_n 1, 1) := by decide +kernel
theorem dX10_dieNow_17 : decode cX10_dieNow 17 = .ok (.iconst 1, 1) := by decide +kernel
theorem dX10_dieNow_18 : decode cX10_dieNow 18 = .ok (.iconst 0, 1) := by decide +kernel
theorem dX10_dieNow_19 : decode cX10_dieNow 19 = .ok (.invokevirtual 82, 3) := by decide +kernel
theorem dX10_dieNow_22 : decode cX10_dieNow 22 = .ok (.bipush 10, 2) := by decide +kernel
theorem dX10_dieNow_24 : decode cX10_dieNow 24 = .ok (.aload_n 0, 1) := by decide +kernel
theorem dX10_dieNow_25 : decode cX10_dieNow 25 = .ok (.invokevirtual 71, 3) := by decide +kernel
theorem dX10_dieNow_28 : decode cX10_dieNow 28 = .ok (.iadd, 1) := by decide +kernel
theorem dX10_dieNow_29 : decode cX10_dieNow 29 = .ok (.ireturn, 1) := by decide +kernel
theorem dX10_die_0 : decode cX10_die 0 = .ok (.aload_n 0, 1) := by decide +kernel
theorem dX10_die_1 : decode cX10_die 1 = .ok (.iload_n 1, 1) := by decide +kernel
theorem dX10_die_2 : decode cX10_die 2 = .ok (.invokevirtual 116, 3) := by decide +kernel
theorem dX10_die_5 : decode cX10_die 5 = .ok (.ifCond .ne 5, 3) := by decide +kernel
theorem dX10_die_8 : decode cX10_die 8 = .ok (.iconst (-1), 1) := by decide +kernel
theorem dX10_die_9 : decode cX10_die 9 = .ok (.ireturn, 1) := by decide +kernel
theorem dX10_die_10 : decode cX10_die 10 = .ok (.aload_n 0, 1) := by decide +kernel
theorem dX10_die_11 : decode cX10_die 11 = .ok (.invokevirtual 75, 3) := by decide +kernel
theorem dX10_die_14 : decode cX10_die 14 = .ok (.aload_n 0, 1) := by decide +kernel
theorem dX10_die_15 : decode cX10_die 15 = .ok (.iload_n 1, 1) := by decide +kernel
theorem dX10_die_16 : decode cX10_die 16 = .ok (.invokevirtual 131, 3) := by decide +kernel
theorem dX10_die_19 : decode cX10_die 19 = .ok (.ireturn, 1) := by decide +kernel
theorem dX10_whyNotInherit_0 : decode cX10_whyNotInherit 0 = .ok (.aload_n 0, 1) := by decide +kernel
theorem dX10_whyNotInherit_1 : decode cX10_whyNotInherit 1 = .ok (.iload_n 1, 1) := by decide +kernel
theorem dX10_whyNotInherit_2 : decode cX10_whyNotInherit 2 = .ok (.invokevirtual 116, 3) := by decide +kernel
theorem dX10_whyNotInherit_5 : decode cX10_whyNotInherit 5 = .ok (.ifCond .ne 7, 3) := by decide +kernel
theorem dX10_whyNotInherit_8 : decode cX10_whyNotInherit 8 = .ok (.iconst (-1), 1) := by decide +kernel
theorem dX10_whyNotInherit_9 : decode cX10_whyNotInherit 9 = .ok (.goto 17, 3) := by decide +kernel
theorem dX10_whyNotInherit_12 : decode cX10_whyNotInherit 12 = .ok (.aload_n 0, 1) := by decide +kernel
theorem dX10_whyNotInherit_13 : decode cX10_whyNotInherit 13 = .ok (.iload_n 1, 1) := by decide +kernel
theorem dX10_whyNotInherit_14 : decode cX10_whyNotInherit 14 = .ok (.invokevirtual 56, 3) := by decide +kernel
theorem dX10_whyNotInherit_17 : decode cX10_whyNotInherit 17 = .ok (.ifCond .eq 7, 3) := by decide +kernel
theorem dX10_whyNotInherit_20 : decode cX10_whyNotInherit 20 = .ok (.iconst 0, 1) := by decide +kernel
theorem dX10_whyNotInherit_21 : decode cX10_whyNotInherit 21 = .ok (.goto 5, 3) := by decide +kernel
theorem dX10_whyNotInherit_24 : decode cX10_whyNotInherit 24 = .ok (.bipush (-2), 2) := by decide +kernel
theorem dX10_whyNotInherit_26 : decode cX10_whyNotInherit 26 = .ok (.ireturn, 1) := by decide +kernel
theorem dX10_inheritNow_0 : decode cX10_inheritNow 0 = .ok (.aload_n 0, 1) := by decide +kernel
theorem dX10_inheritNow_1 : decode cX10_inheritNow 1 = .ok (.iload_n 1, 1) := by decide +kernel
theorem dX10_inheritNow_2 : decode cX10_inheritNow 2 = .ok (.iconst 2, 1) := by decide +kernel
theorem dX10_inheritNow_3 : decode cX10_inheritNow 3 = .ok (.invokevirtual 45, 3) := by decide +kernel
theorem dX10_inheritNow_6 : decode cX10_inheritNow 6 = .ok (.istore_n 2, 1) := by decide +kernel
theorem dX10_inheritNow_7 : decode cX10_inheritNow 7 = .ok (.iload_n 2, 1) := by decide +kernel
theorem dX10_inheritNow_8 : decode cX10_inheritNow 8 = .ok (.bipush (-4), 2) := by decide +kernel
theorem dX10_inheritNow_10 : decode cX10_inheritNow 10 = .ok (.if_icmp .eq 11, 3) := by decide +kernel
theorem dX10_inheritNow_13 : decode cX10_inheritNow 13 = .ok (.aload_n 0, 1) := by decide +kernel
theorem dX10_inheritNow_14 : decode cX10_inheritNow 14 = .ok (.iload_n 2, 1) := by decide +kernel
theorem dX10_inheritNow_15 : decode cX10_inheritNow 15 = .ok (.invokevirtual 56, 3) := by decide +kernel
theorem dX10_inheritNow_18 : decode cX10_inheritNow 18 = .ok (.ifCond .eq 10, 3) := by decide +kernel
theorem dX10_inheritNow_21 : decode cX10_inheritNow 21 = .ok (.aload_n 0, 1) := by decide +kernel
theorem dX10_inheritNow_22 : decode cX10_inheritNow 22 = .ok (.bipush 7, 2) := by decide +kernel
theorem dX10_inheritNow_24 : decode cX10_inheritNow 24 = .ok (.invokevirtual 92, 3) := by decide +kernel
theorem dX10_inheritNow_27 : decode cX10_inheritNow 27 = .ok (.ireturn, 1) := by decide +kernel
theorem dX10_inheritNow_28 : decode cX10_inheritNow 28 = .ok (.aload_n 0, 1) := by decide +kernel
theorem dX10_inheritNow_29 : decode cX10_inheritNow 29 = .ok (.iload_n 2, 1) := by decide +kernel
theorem dX10_inheritNow_30 : decode cX10_inheritNow 30 = .ok (.invokevirtual 134, 3) := by decide +kernel
theorem dX10_inheritNow_33 : decode cX10_inheritNow 33 = .ok (.iload_n 1, 1) := by decide +kernel
theorem dX10_inheritNow_34 : decode cX10_inheritNow 34 = .ok (.if_icmp .eq 10, 3) := by decide +kernel
theorem dX10_inheritNow_37 : decode cX10_inheritNow 37 = .ok (.aload_n 0, 1) := by decide +kernel
theorem dX10_inheritNow_38 : decode cX10_inheritNow 38 = .ok (.bipush 8, 2) := by decide +kernel
theorem dX10_inheritNow_40 : decode cX10_inheritNow 40 = .ok (.invokevirtual 92, 3) := by decide +kernel
theorem dX10_inheritNow_43 : decode cX10_inheritNow 43 = .ok (.ireturn, 1) := by decide +kernel
theorem dX10_inheritNow_44 : decode cX10_inheritNow 44 = .ok (.aload_n 0, 1) := by decide +kernel
theorem dX10_inheritNow_45 : decode cX10_inheritNow 45 = .ok (.iload_n 2, 1) := by decide +kernel
theorem dX10_inheritNow_46 : decode cX10_inheritNow 46 = .ok (.iconst 0, 1) := by decide +kernel
theorem dX10_inheritNow_47 : decode cX10_inheritNow 47 = .ok (.invokevirtual 45, 3) := by decide +kernel
theorem dX10_inheritNow_50 : decode cX10_inheritNow 50 = .ok (.istore_n 3, 1) := by decide +kernel
theorem dX10_inheritNow_51 : decode cX10_inheritNow 51 = .ok (.aload_n 0, 1) := by decide +kernel
theorem dX10_inheritNow_52 : decode cX10_inheritNow 52 = .ok (.iload_n 3, 1) := by decide +kernel
theorem dX10_inheritNow_53 : decode cX10_inheritNow 53 = .ok (.invokevirtual 89, 3) := by decide +kernel
theorem dX10_inheritNow_56 : decode cX10_inheritNow 56 = .ok (.bipush (-4), 2) := by decide +kernel
theorem dX10_inheritNow_58 : decode cX10_inheritNow 58 = .ok (.if_icmp .eq 9, 3) := by decide +kernel
theorem dX10_inheritNow_61 : decode cX10_inheritNow 61 = .ok (.aload_n 0, 1) := by decide +kernel
theorem dX10_inheritNow_62 : decode cX10_inheritNow 62 = .ok (.iconst 3, 1) := by decide +kernel
theorem dX10_inheritNow_63 : decode cX10_inheritNow 63 = .ok (.invokevirtual 92, 3) := by decide +kernel
theorem dX10_inheritNow_66 : decode cX10_inheritNow 66 = .ok (.ireturn, 1) := by decide +kernel
theorem dX10_inheritNow_67 : decode cX10_inheritNow 67 = .ok (.aload_n 0, 1) := by decide +kernel
theorem dX10_inheritNow_68 : decode cX10_inheritNow 68 = .ok (.iload_n 1, 1) := by decide +kernel
theorem dX10_inheritNow_69 : decode cX10_inheritNow 69 = .ok (.iconst 0, 1) := by decide +kernel
theorem dX10_inheritNow_70 : decode cX10_inheritNow 70 = .ok (.invokevirtual 45, 3) := by decide +kernel
theorem dX10_inheritNow_73 : decode cX10_inheritNow 73 = .ok (.iload_n 3, 1) := by decide +kernel
theorem dX10_inheritNow_74 : decode cX10_inheritNow 74 = .ok (.invokestatic 137, 3) := by decide +kernel
theorem dX10_inheritNow_77 : decode cX10_inheritNow 77 = .ok (.istore 4, 2) := by decide +kernel
theorem dX10_inheritNow_79 : decode cX10_inheritNow 79 = .ok (.aload_n 0, 1) := by decide +kernel
theorem dX10_inheritNow_80 : decode cX10_inheritNow 80 = .ok (.iload_n 1, 1) := by decide +kernel
theorem dX10_inheritNow_81 : decode cX10_inheritNow 81 = .ok (.iconst 0, 1) := by decide +kernel
theorem dX10_inheritNow_82 : decode cX10_inheritNow 82 = .ok (.iload_n 3, 1) := by decide +kernel
theorem dX10_inheritNow_83 : decode cX10_inheritNow 83 = .ok (.invokevirtual 82, 3) := by decide +kernel
theorem dX10_inheritNow_86 : decode cX10_inheritNow 86 = .ok (.aload_n 0, 1) := by decide +kernel
theorem dX10_inheritNow_87 : decode cX10_inheritNow 87 = .ok (.getfield 7, 3) := by decide +kernel
theorem dX10_inheritNow_90 : decode cX10_inheritNow 90 = .ok (.iconst 2, 1) := by decide +kernel
theorem dX10_inheritNow_91 : decode cX10_inheritNow 91 = .ok (.dup2, 1) := by decide +kernel
theorem dX10_inheritNow_92 : decode cX10_inheritNow 92 = .ok (.iaload, 1) := by decide +kernel
theorem dX10_inheritNow_93 : decode cX10_inheritNow 93 = .ok (.iconst 1, 1) := by decide +kernel
theorem dX10_inheritNow_94 : decode cX10_inheritNow 94 = .ok (.iadd, 1) := by decide +kernel
theorem dX10_inheritNow_95 : decode cX10_inheritNow 95 = .ok (.iastore, 1) := by decide +kernel
theorem dX10_inheritNow_96 : decode cX10_inheritNow 96 = .ok (.bipush 10, 2) := by decide +kernel
theorem dX10_inheritNow_98 : decode cX10_inheritNow 98 = .ok (.iload 4, 2) := by decide +kernel
theorem dX10_inheritNow_100 : decode cX10_inheritNow 100 = .ok (.iadd, 1) := by decide +kernel
theorem dX10_inheritNow_101 : decode cX10_inheritNow 101 = .ok (.ireturn, 1) := by decide +kernel
theorem dX10_inherit_0 : decode cX10_inherit 0 = .ok (.aload_n 0, 1) := by decide +kernel
theorem dX10_inherit_1 : decode cX10_inherit 1 = .ok (.iload_n 1, 1) := by decide +kernel
theorem dX10_inherit_2 : decode cX10_inherit 2 = .ok (.invokevirtual 140, 3) := by decide +kernel
theorem dX10_inherit_5 : decode cX10_inherit 5 = .ok (.istore_n 2, 1) := by decide +kernel
theorem dX10_inherit_6 : decode cX10_inherit 6 = .ok (.iload_n 2, 1) := by decide +kernel
theorem dX10_inherit_7 : decode cX10_inherit 7 = .ok (.ifCond .ge 5, 3) := by decide +kernel
theorem dX10_inherit_10 : decode cX10_inherit 10 = .ok (.iload_n 2, 1) := by decide +kernel
theorem dX10_inherit_11 : decode cX10_inherit 11 = .ok (.ireturn, 1) := by decide +kernel
theorem dX10_inherit_12 : decode cX10_inherit 12 = .ok (.aload_n 0, 1) := by decide +kernel
theorem dX10_inherit_13 : decode cX10_inherit 13 = .ok (.invokevirtual 75, 3) := by decide +kernel
theorem dX10_inherit_16 : decode cX10_inherit 16 = .ok (.aload_n 0, 1) := by decide +kernel
theorem dX10_inherit_17 : decode cX10_inherit 17 = .ok (.iload_n 1, 1) := by decide +kernel
theorem dX10_inherit_18 : decode cX10_inherit 18 = .ok (.invokevirtual 143, 3) := by decide +kernel
theorem dX10_inherit_21 : decode cX10_inherit 21 = .ok (.ireturn, 1) := by decide +kernel
theorem dX10_append_0 : decode cX10_append 0 = .ok (.iload_n 1, 1) := by decide +kernel
theorem dX10_append_1 : decode cX10_append 1 = .ok (.bipush 33, 2) := by decide +kernel
theorem dX10_append_3 : decode cX10_append 3 = .ok (.bipush 126, 2) := by decide +kernel
theorem dX10_append_5 : decode cX10_append 5 = .ok (.invokestatic 41, 3) := by decide +kernel
theorem dX10_append_8 : decode cX10_append 8 = .ok (.ifCond .ne 5, 3) := by decide +kernel
theorem dX10_append_11 : decode cX10_append 11 = .ok (.iconst (-1), 1) := by decide +kernel
theorem dX10_append_12 : decode cX10_append 12 = .ok (.ireturn, 1) := by decide +kernel
theorem dX10_append_13 : decode cX10_append 13 = .ok (.aload_n 0, 1) := by decide +kernel
theorem dX10_append_14 : decode cX10_append 14 = .ok (.getfield 146, 3) := by decide +kernel
theorem dX10_append_17 : decode cX10_append 17 = .ok (.bipush 60, 2) := by decide +kernel
theorem dX10_append_19 : decode cX10_append 19 = .ok (.if_icmp .ne 6, 3) := by decide +kernel
theorem dX10_append_22 : decode cX10_append 22 = .ok (.bipush (-3), 2) := by decide +kernel
theorem dX10_append_24 : decode cX10_append 24 = .ok (.ireturn, 1) := by decide +kernel
theorem dX10_append_25 : decode cX10_append 25 = .ok (.aload_n 0, 1) := by decide +kernel
theorem dX10_append_26 : decode cX10_append 26 = .ok (.getfield 19, 3) := by decide +kernel
theorem dX10_append_29 : decode cX10_append 29 = .ok (.aload_n 0, 1) := by decide +kernel
theorem dX10_append_30 : decode cX10_append 30 = .ok (.getfield 146, 3) := by decide +kernel
theorem dX10_append_33 : decode cX10_append 33 = .ok (.iload_n 1, 1) := by decide +kernel
theorem dX10_append_34 : decode cX10_append 34 = .ok (.iastore, 1) := by decide +kernel
theorem dX10_append_35 : decode cX10_append 35 = .ok (.aload_n 0, 1) := by decide +kernel
theorem dX10_append_36 : decode cX10_append 36 = .ok (.dup, 1) := by decide +kernel
theorem dX10_append_37 : decode cX10_append 37 = .ok (.getfield 146, 3) := by decide +kernel
theorem dX10_append_40 : decode cX10_append 40 = .ok (.iconst 1, 1) := by decide +kernel
theorem dX10_append_41 : decode cX10_append 41 = .ok (.iadd, 1) := by decide +kernel
theorem dX10_append_42 : decode cX10_append 42 = .ok (.putfield 146, 3) := by decide +kernel
theorem dX10_append_45 : decode cX10_append 45 = .ok (.aload_n 0, 1) := by decide +kernel
theorem dX10_append_46 : decode cX10_append 46 = .ok (.getfield 146, 3) := by decide +kernel
theorem dX10_append_49 : decode cX10_append 49 = .ok (.ireturn, 1) := by decide +kernel
theorem dX10_clear_0 : decode cX10_clear 0 = .ok (.aload_n 0, 1) := by decide +kernel
theorem dX10_clear_1 : decode cX10_clear 1 = .ok (.getfield 146, 3) := by decide +kernel
theorem dX10_clear_4 : decode cX10_clear 4 = .ok (.istore_n 1, 1) := by decide +kernel
theorem dX10_clear_5 : decode cX10_clear 5 = .ok (.aload_n 0, 1) := by decide +kernel
theorem dX10_clear_6 : decode cX10_clear 6 = .ok (.iconst 0, 1) := by decide +kernel
theorem dX10_clear_7 : decode cX10_clear 7 = .ok (.putfield 146, 3) := by decide +kernel
theorem dX10_clear_10 : decode cX10_clear 10 = .ok (.iload_n 1, 1) := by decide +kernel
theorem dX10_clear_11 : decode cX10_clear 11 = .ok (.ireturn, 1) := by decide +kernel
theorem dX10_sees_0 : decode cX10_sees 0 = .ok (.aload_n 0, 1) := by decide +kernel
theorem dX10_sees_1 : decode cX10_sees 1 = .ok (.getfield 149, 3) := by decide +kernel
theorem dX10_sees_4 : decode cX10_sees 4 = .ok (.aload_n 0, 1) := by decide +kernel
theorem dX10_sees_5 : decode cX10_sees 5 = .ok (.getfield 146, 3) := by decide +kernel
theorem dX10_sees_8 : decode cX10_sees 8 = .ok (.if_icmp .ge 24, 3) := by decide +kernel
theorem dX10_sees_11 : decode cX10_sees 11 = .ok (.aload_n 0, 1) := by decide +kernel
theorem dX10_sees_12 : decode cX10_sees 12 = .ok (.getfield 19, 3) := by decide +kernel
theorem dX10_sees_15 : decode cX10_sees 15 = .ok (.aload_n 0, 1) := by decide +kernel
theorem dX10_sees_16 : decode cX10_sees 16 = .ok (.getfield 149, 3) := by decide +kernel
theorem dX10_sees_19 : decode cX10_sees 19 = .ok (.iaload, 1) := by decide +kernel
theorem dX10_sees_20 : decode cX10_sees 20 = .ok (.iload_n 1, 1) := by decide +kernel
theorem dX10_sees_21 : decode cX10_sees 21 = .ok (.iload_n 2, 1) := by decide +kernel
theorem dX10_sees_22 : decode cX10_sees 22 = .ok (.invokestatic 41, 3) := by decide +kernel
theorem dX10_sees_25 : decode cX10_sees 25 = .ok (.ifCond .eq 7, 3) := by decide +kernel
theorem dX10_sees_28 : decode cX10_sees 28 = .ok (.iconst 1, 1) := by decide +kernel
theorem dX10_sees_29 : decode cX10_sees 29 = .ok (.goto 4, 3) := by decide +kernel
theorem dX10_sees_32 : decode cX10_sees 32 = .ok (.iconst 0, 1) := by decide +kernel
theorem dX10_sees_33 : decode cX10_sees 33 = .ok (.ireturn, 1) := by decide +kernel
theorem dX10_takes_0 : decode cX10_takes 0 = .ok (.aload_n 0, 1) := by decide +kernel
theorem dX10_takes_1 : decode cX10_takes 1 = .ok (.iload_n 1, 1) := by decide +kernel
theorem dX10_takes_2 : decode cX10_takes 2 = .ok (.iload_n 1, 1) := by decide +kernel
theorem dX10_takes_3 : decode cX10_takes 3 = .ok (.invokevirtual 152, 3) := by decide +kernel
theorem dX10_takes_6 : decode cX10_takes 6 = .ok (.istore_n 2, 1) := by decide +kernel
theorem dX10_takes_7 : decode cX10_takes 7 = .ok (.aload_n 0, 1) := by decide +kernel
theorem dX10_takes_8 : decode cX10_takes 8 = .ok (.dup, 1) := by decide +kernel
theorem dX10_takes_9 : decode cX10_takes 9 = .ok (.getfield 149, 3) := by decide +kernel
theorem dX10_takes_12 : decode cX10_takes 12 = .ok (.iload_n 2, 1) := by decide +kernel
theorem dX10_takes_13 : decode cX10_takes 13 = .ok (.ifCond .eq 7, 3) := by decide +kernel
theorem dX10_takes_16 : decode cX10_takes 16 = .ok (.iconst 1, 1) := by decide +kernel
theorem dX10_takes_17 : decode cX10_takes 17 = .ok (.goto 4, 3) := by decide +kernel
theorem dX10_takes_20 : decode cX10_takes 20 = .ok (.iconst 0, 1) := by decide +kernel
theorem dX10_takes_21 : decode cX10_takes 21 = .ok (.iadd, 1) := by decide +kernel
theorem dX10_takes_22 : decode cX10_takes 22 = .ok (.putfield 149, 3) := by decide +kernel
theorem dX10_takes_25 : decode cX10_takes 25 = .ok (.iload_n 2, 1) := by decide +kernel
theorem dX10_takes_26 : decode cX10_takes 26 = .ok (.ireturn, 1) := by decide +kernel
theorem dX10_digit_0 : decode cX10_digit 0 = .ok (.aload_n 0, 1) := by decide +kernel
theorem dX10_digit_1 : decode cX10_digit 1 = .ok (.bipush 48, 2) := by decide +kernel
theorem dX10_digit_3 : decode cX10_digit 3 = .ok (.bipush 48, 2) := by decide +kernel
theorem dX10_digit_5 : decode cX10_digit 5 = .ok (.iload_n 1, 1) := by decide +kernel
theorem dX10_digit_6 : decode cX10_digit 6 = .ok (.iadd, 1) := by decide +kernel
theorem dX10_digit_7 : decode cX10_digit 7 = .ok (.invokevirtual 152, 3) := by decide +kernel
theorem dX10_digit_10 : decode cX10_digit 10 = .ok (.ifCond .ne 6, 3) := by decide +kernel
theorem dX10_digit_13 : decode cX10_digit 13 = .ok (.bipush (-4), 2) := by decide +kernel
theorem dX10_digit_15 : decode cX10_digit 15 = .ok (.ireturn, 1) := by decide +kernel
theorem dX10_digit_16 : decode cX10_digit 16 = .ok (.aload_n 0, 1) := by decide +kernel
theorem dX10_digit_17 : decode cX10_digit 17 = .ok (.dup, 1) := by decide +kernel
theorem dX10_digit_18 : decode cX10_digit 18 = .ok (.getfield 149, 3) := by decide +kernel
theorem dX10_digit_21 : decode cX10_digit 21 = .ok (.iconst 1, 1) := by decide +kernel
theorem dX10_digit_22 : decode cX10_digit 22 = .ok (.iadd, 1) := by decide +kernel
theorem dX10_digit_23 : decode cX10_digit 23 = .ok (.putfield 149, 3) := by decide +kernel
theorem dX10_digit_26 : decode cX10_digit 26 = .ok (.aload_n 0, 1) := by decide +kernel
theorem dX10_digit_27 : decode cX10_digit 27 = .ok (.getfield 19, 3) := by decide +kernel
theorem dX10_digit_30 : decode cX10_digit 30 = .ok (.aload_n 0, 1) := by decide +kernel
theorem dX10_digit_31 : decode cX10_digit 31 = .ok (.getfield 149, 3) := by decide +kernel
theorem dX10_digit_34 : decode cX10_digit 34 = .ok (.iconst 1, 1) := by decide +kernel
theorem dX10_digit_35 : decode cX10_digit 35 = .ok (.isub, 1) := by decide +kernel
theorem dX10_digit_36 : decode cX10_digit 36 = .ok (.iaload, 1) := by decide +kernel
theorem dX10_digit_37 : decode cX10_digit 37 = .ok (.bipush 48, 2) := by decide +kernel
theorem dX10_digit_39 : decode cX10_digit 39 = .ok (.isub, 1) := by decide +kernel
theorem dX10_digit_40 : decode cX10_digit 40 = .ok (.ireturn, 1) := by decide +kernel
theorem dX10_number_0 : decode cX10_number 0 = .ok (.aload_n 0, 1) := by decide +kernel
theorem dX10_number_1 : decode cX10_number 1 = .ok (.bipush 9, 2) := by decide +kernel
theorem dX10_number_3 : decode cX10_number 3 = .ok (.invokevirtual 155, 3) := by decide +kernel
theorem dX10_number_6 : decode cX10_number 6 = .ok (.istore_n 1, 1) := by decide +kernel
theorem dX10_number_7 : decode cX10_number 7 = .ok (.iload_n 1, 1) := by decide +kernel
theorem dX10_number_8 : decode cX10_number 8 = .ok (.iconst 1, 1) := by decide +kernel
theorem dX10_number_9 : decode cX10_number 9 = .ok (.if_icmp .ne 24, 3) := by decide +kernel
theorem dX10_number_12 : decode cX10_number 12 = .ok (.aload_n 0, 1) := by decide +kernel
theorem dX10_number_13 : decode cX10_number 13 = .ok (.bipush 48, 2) := by decide +kernel
theorem dX10_number_15 : decode cX10_number 15 = .ok (.bipush 57, 2) := by decide +kernel
theorem dX10_number_17 : decode cX10_number 17 = .ok (.invokevirtual 152, 3) := by decide +kernel
theorem dX10_number_20 : decode cX10_number 20 = .ok (.ifCond .eq 13, 3) := by decide +kernel
theorem dX10_number_23 : decode cX10_number 23 = .ok (.bipush 10, 2) := by decide +kernel
theorem dX10_number_25 : decode cX10_number 25 = .ok (.aload_n 0, 1) := by decide +kernel
theorem dX10_number_26 : decode cX10_number 26 = .ok (.bipush 9, 2) := by decide +kernel
theorem dX10_number_28 : decode cX10_number 28 = .ok (.invokevirtual 155, 3) := by decide +kernel
theorem dX10_number_31 : decode cX10_number 31 = .ok (.iadd, 1) := by decide +kernel
theorem dX10_number_32 : decode cX10_number 32 = .ok (.istore_n 1, 1) := by decide +kernel
theorem dX10_number_33 : decode cX10_number 33 = .ok (.iload_n 1, 1) := by decide +kernel
theorem dX10_number_34 : decode cX10_number 34 = .ok (.ireturn, 1) := by decide +kernel
theorem dX10_readShield_0 : decode cX10_readShield 0 = .ok (.iconst 0, 1) := by decide +kernel
theorem dX10_readShield_1 : decode cX10_readShield 1 = .ok (.istore_n 1, 1) := by decide +kernel
theorem dX10_readShield_2 : decode cX10_readShield 2 = .ok (.iconst 0, 1) := by decide +kernel
theorem dX10_readShield_3 : decode cX10_readShield 3 = .ok (.istore_n 2, 1) := by decide +kernel
theorem dX10_readShield_4 : decode cX10_readShield 4 = .ok (.iload_n 2, 1) := by decide +kernel
theorem dX10_readShield_5 : decode cX10_readShield 5 = .ok (.bipush 6, 2) := by decide +kernel
theorem dX10_readShield_7 : decode cX10_readShield 7 = .ok (.if_icmp .ge 33, 3) := by decide +kernel
theorem dX10_readShield_10 : decode cX10_readShield 10 = .ok (.aload_n 0, 1) := by decide +kernel
theorem dX10_readShield_11 : decode cX10_readShield 11 = .ok (.iconst 4, 1) := by decide +kernel
theorem dX10_readShield_12 : decode cX10_readShield 12 = .ok (.invokevirtual 155, 3) := by decide +kernel
theorem dX10_readShield_15 : decode cX10_readShield 15 = .ok (.istore_n 3, 1) := by decide +kernel
theorem dX10_readShield_16 : decode cX10_readShield 16 = .ok (.iload_n 3, 1) := by decide +kernel
theorem dX10_readShield_17 : decode cX10_readShield 17 = .ok (.bipush (-4), 2) := by decide +kernel
theorem dX10_readShield_19 : decode cX10_readShield 19 = .ok (.if_icmp .ne 6, 3) := by decide +kernel
theorem dX10_readShield_22 : decode cX10_readShield 22 = .ok (.bipush (-4), 2) := by decide +kernel
theorem dX10_readShield_24 : decode cX10_readShield 24 = .ok (.ireturn, 1) := by decide +kernel
theorem dX10_readShield_25 : decode cX10_readShield 25 = .ok (.iload_n 1, 1) := by decide +kernel
theorem dX10_readShield_26 : decode cX10_readShield 26 = .ok (.iload_n 3, 1) := by decide +kernel
theorem dX10_readShield_27 : decode cX10_readShield 27 = .ok (.iload_n 2, 1) := by decide +kernel
theorem dX10_readShield_28 : decode cX10_readShield 28 = .ok (.invokestatic 49, 3) := by decide +kernel
theorem dX10_readShield_31 : decode cX10_readShield 31 = .ok (.imul, 1) := by decide +kernel
theorem dX10_readShield_32 : decode cX10_readShield 32 = .ok (.iadd, 1) := by decide +kernel
theorem dX10_readShield_33 : decode cX10_readShield 33 = .ok (.istore_n 1, 1) := by decide +kernel
theorem dX10_readShield_34 : decode cX10_readShield 34 = .ok (.iinc 2 1, 3) := by decide +kernel
theorem dX10_readShield_37 : decode cX10_readShield 37 = .ok (.goto (-33), 3) := by decide +kernel
theorem dX10_readShield_40 : decode cX10_readShield 40 = .ok (.iload_n 1, 1) := by decide +kernel
theorem dX10_readShield_41 : decode cX10_readShield 41 = .ok (.ireturn, 1) := by decide +kernel
theorem dX10_readDeed_0 : decode cX10_readDeed 0 = .ok (.aload_n 0, 1) := by decide +kernel
theorem dX10_readDeed_1 : decode cX10_readDeed 1 = .ok (.getfield 149, 3) := by decide +kernel
theorem dX10_readDeed_4 : decode cX10_readDeed 4 = .ok (.aload_n 0, 1) := by decide +kernel
theorem dX10_readDeed_5 : decode cX10_readDeed 5 = .ok (.getfield 146, 3) := by decide +kernel
theorem dX10_readDeed_8 : decode cX10_readDeed 8 = .ok (.if_icmp .ge 15, 3) := by decide +kernel
theorem dX10_readDeed_11 : decode cX10_readDeed 11 = .ok (.aload_n 0, 1) := by decide +kernel
theorem dX10_readDeed_12 : decode cX10_readDeed 12 = .ok (.getfield 19, 3) := by decide +kernel
theorem dX10_readDeed_15 : decode cX10_readDeed 15 = .ok (.aload_n 0, 1) := by decide +kernel
theorem dX10_readDeed_16 : decode cX10_readDeed 16 = .ok (.getfield 149, 3) := by decide +kernel
theorem dX10_readDeed_19 : decode cX10_readDeed 19 = .ok (.iaload, 1) := by decide +kernel
theorem dX10_readDeed_20 : decode cX10_readDeed 20 = .ok (.goto 4, 3) := by decide +kernel
theorem dX10_readDeed_23 : decode cX10_readDeed 23 = .ok (.iconst 0, 1) := by decide +kernel
theorem dX10_readDeed_24 : decode cX10_readDeed 24 = .ok (.istore_n 1, 1) := by decide +kernel
theorem dX10_readDeed_25 : decode cX10_readDeed 25 = .ok (.iconst 4, 1) := by decide +kernel
theorem dX10_readDeed_26 : decode cX10_readDeed 26 = .ok (.aload_n 0, 1) := by decide +kernel
theorem dX10_readDeed_27 : decode cX10_readDeed 27 = .ok (.getfield 158, 3) := by decide +kernel
theorem dX10_readDeed_30 : decode cX10_readDeed 30 = .ok (.imul, 1) := by decide +kernel
theorem dX10_readDeed_31 : decode cX10_readDeed 31 = .ok (.istore_n 2, 1) := by decide +kernel
theorem dX10_readDeed_32 : decode cX10_readDeed 32 = .ok (.iload_n 1, 1) := by decide +kernel
theorem dX10_readDeed_33 : decode cX10_readDeed 33 = .ok (.bipush 102, 2) := by decide +kernel
theorem dX10_readDeed_35 : decode cX10_readDeed 35 = .ok (.if_icmp .eq 23, 3) := by decide +kernel
theorem dX10_readDeed_38 : decode cX10_readDeed 38 = .ok (.iload_n 1, 1) := by decide +kernel
theorem dX10_readDeed_39 : decode cX10_readDeed 39 = .ok (.bipush 115, 2) := by decide +kernel
theorem dX10_readDeed_41 : decode cX10_readDeed 41 = .ok (.if_icmp .eq 17, 3) := by decide +kernel
theorem dX10_readDeed_44 : decode cX10_readDeed 44 = .ok (.iload_n 1, 1) := by decide +kernel
theorem dX10_readDeed_45 : decode cX10_readDeed 45 = .ok (.bipush 100, 2) := by decide +kernel
theorem dX10_readDeed_47 : decode cX10_readDeed 47 = .ok (.if_icmp .eq 11, 3) := by decide +kernel
theorem dX10_readDeed_50 : decode cX10_readDeed 50 = .ok (.iload_n 1, 1) := by decide +kernel
theorem dX10_readDeed_51 : decode cX10_readDeed 51 = .ok (.bipush 104, 2) := by decide +kernel
theorem dX10_readDeed_53 : decode cX10_readDeed 53 = .ok (.if_icmp .eq 5, 3) := by decide +kernel
theorem dX10_readDeed_56 : decode cX10_readDeed 56 = .ok (.iconst 0, 1) := by decide +kernel
theorem dX10_readDeed_57 : decode cX10_readDeed 57 = .ok (.ireturn, 1) := by decide +kernel
theorem dX10_readDeed_58 : decode cX10_readDeed 58 = .ok (.aload_n 0, 1) := by decide +kernel
theorem dX10_readDeed_59 : decode cX10_readDeed 59 = .ok (.getfield 32, 3) := by decide +kernel
theorem dX10_readDeed_62 : decode cX10_readDeed 62 = .ok (.iload_n 2, 1) := by decide +kernel
theorem dX10_readDeed_63 : decode cX10_readDeed 63 = .ok (.aload_n 0, 1) := by decide +kernel
theorem dX10_readDeed_64 : decode cX10_readDeed 64 = .ok (.getfield 149, 3) := by decide +kernel
theorem dX10_readDeed_67 : decode cX10_readDeed 67 = .ok (.iastore, 1) := by decide +kernel
theorem dX10_readDeed_68 : decode cX10_readDeed 68 = .ok (.aload_n 0, 1) := by decide +kernel
theorem dX10_readDeed_69 : decode cX10_readDeed 69 = .ok (.dup, 1) := by decide +kernel
theorem dX10_readDeed_70 : decode cX10_readDeed 70 = .ok (.getfield 149, 3) := by decide +kernel
theorem dX10_readDeed_73 : decode cX10_readDeed 73 = .ok (.iconst 1, 1) := by decide +kernel
theorem dX10_readDeed_74 : decode cX10_readDeed 74 = .ok (.iadd, 1) := by decide +kernel
theorem dX10_readDeed_75 : decode cX10_readDeed 75 = .ok (.putfield 149, 3) := by decide +kernel
theorem dX10_readDeed_78 : decode cX10_readDeed 78 = .ok (.iload_n 1, 1) := by decide +kernel
theorem dX10_readDeed_79 : decode cX10_readDeed 79 = .ok (.bipush 102, 2) := by decide +kernel
theorem dX10_readDeed_81 : decode cX10_readDeed 81 = .ok (.if_icmp .ne 10, 3) := by decide +kernel
theorem dX10_readDeed_84 : decode cX10_readDeed 84 = .ok (.aload_n 0, 1) := by decide +kernel
theorem dX10_readDeed_85 : decode cX10_readDeed 85 = .ok (.invokevirtual 161, 3) := by decide +kernel
theorem dX10_readDeed_88 : decode cX10_readDeed 88 = .ok (.goto 7, 3) := by decide +kernel
theorem dX10_readDeed_91 : decode cX10_readDeed 91 = .ok (.aload_n 0, 1) := by decide +kernel
theorem dX10_readDeed_92 : decode cX10_readDeed 92 = .ok (.invokevirtual 164, 3) := by decide +kernel
theorem dX10_readDeed_95 : decode cX10_readDeed 95 = .ok (.istore_n 3, 1) := by decide +kernel
theorem dX10_readDeed_96 : decode cX10_readDeed 96 = .ok (.iconst 0, 1) := by decide +kernel
theorem dX10_readDeed_97 : decode cX10_readDeed 97 = .ok (.istore 4, 2) := by decide +kernel
theorem dX10_readDeed_99 : decode cX10_readDeed 99 = .ok (.iconst 0, 1) := by decide +kernel
theorem dX10_readDeed_100 : decode cX10_readDeed 100 = .ok (.istore 5, 2) := by decide +kernel
theorem dX10_readDeed_102 : decode cX10_readDeed 102 = .ok (.iload_n 1, 1) := by decide +kernel
theorem dX10_readDeed_103 : decode cX10_readDeed 103 = .ok (.bipush 115, 2) := by decide +kernel
theorem dX10_readDeed_105 : decode cX10_readDeed 105 = .ok (.if_icmp .ne 58, 3) := by decide +kernel
theorem dX10_readDeed_108 : decode cX10_readDeed 108 = .ok (.iload_n 3, 1) := by decide +kernel
theorem dX10_readDeed_109 : decode cX10_readDeed 109 = .ok (.bipush (-4), 2) := by decide +kernel
theorem dX10_readDeed_111 : decode cX10_readDeed 111 = .ok (.if_icmp .eq 52, 3) := by decide +kernel
theorem dX10_readDeed_114 : decode cX10_readDeed 114 = .ok (.aload_n 0, 1) := by decide +kernel
theorem dX10_readDeed_115 : decode cX10_readDeed 115 = .ok (.bipush 46, 2) := by decide +kernel
theorem dX10_readDeed_117 : decode cX10_readDeed 117 = .ok (.invokevirtual 167, 3) := by decide +kernel
theorem dX10_readDeed_120 : decode cX10_readDeed 120 = .ok (.ifCond .eq 11, 3) := by decide +kernel
theorem dX10_readDeed_123 : decode cX10_readDeed 123 = .ok (.aload_n 0, 1) := by decide +kernel
theorem dX10_readDeed_124 : decode cX10_readDeed 124 = .ok (.iconst 5, 1) := by decide +kernel
theorem dX10_readDeed_125 : decode cX10_readDeed 125 = .ok (.invokevirtual 155, 3) := by decide +kernel
theorem dX10_readDeed_128 : decode cX10_readDeed 128 = .ok (.goto 5, 3) := by decide +kernel
theorem dX10_readDeed_131 : decode cX10_readDeed 131 = .ok (.bipush (-4), 2) := by decide +kernel
theorem dX10_readDeed_133 : decode cX10_readDeed 133 = .ok (.istore 4, 2) := by decide +kernel
theorem dX10_readDeed_135 : decode cX10_readDeed 135 = .ok (.iload 4, 2) := by decide +kernel
theorem dX10_readDeed_137 : decode cX10_readDeed 137 = .ok (.bipush (-4), 2) := by decide +kernel
theorem dX10_readDeed_139 : decode cX10_readDeed 139 = .ok (.if_icmp .eq 20, 3) := by decide +kernel
theorem dX10_readDeed_142 : decode cX10_readDeed 142 = .ok (.aload_n 0, 1) := by decide +kernel
theorem dX10_readDeed_143 : decode cX10_readDeed 143 = .ok (.bipush 61, 2) := by decide +kernel
theorem dX10_readDeed_145 : decode cX10_readDeed 145 = .ok (.invokevirtual 167, 3) := by decide +kernel
theorem dX10_readDeed_148 : decode cX10_readDeed 148 = .ok (.ifCond .eq 11, 3) := by decide +kernel
theorem dX10_readDeed_151 : decode cX10_readDeed 151 = .ok (.aload_n 0, 1) := by decide +kernel
theorem dX10_readDeed_152 : decode cX10_readDeed 152 = .ok (.iconst 4, 1) := by decide +kernel
theorem dX10_readDeed_153 : decode cX10_readDeed 153 = .ok (.invokevirtual 155, 3) := by decide +kernel
theorem dX10_readDeed_156 : decode cX10_readDeed 156 = .ok (.goto 5, 3) := by decide +kernel
theorem dX10_readDeed_159 : decode cX10_readDeed 159 = .ok (.bipush (-4), 2) := by decide +kernel
theorem dX10_readDeed_161 : decode cX10_readDeed 161 = .ok (.istore 5, 2) := by decide +kernel
theorem dX10_readDeed_163 : decode cX10_readDeed 163 = .ok (.aload_n 0, 1) := by decide +kernel
theorem dX10_readDeed_164 : decode cX10_readDeed 164 = .ok (.getfield 32, 3) := by decide +kernel
theorem dX10_readDeed_167 : decode cX10_readDeed 167 = .ok (.iload_n 2, 1) := by decide +kernel
theorem dX10_readDeed_168 : decode cX10_readDeed 168 = .ok (.iconst 1, 1) := by decide +kernel
theorem dX10_readDeed_169 : decode cX10_readDeed 169 = .ok (.iadd, 1) := by decide +kernel
theorem dX10_readDeed_170 : decode cX10_readDeed 170 = .ok (.iload_n 3, 1) := by decide +kernel
theorem dX10_readDeed_171 : decode cX10_readDeed 171 = .ok (.iastore, 1) := by decide +kernel
theorem dX10_readDeed_172 : decode cX10_readDeed 172 = .ok (.aload_n 0, 1) := by decide +kernel
theorem dX10_readDeed_173 : decode cX10_readDeed 173 = .ok (.getfield 32, 3) := by decide +kernel
theorem dX10_readDeed_176 : decode cX10_readDeed 176 = .ok (.iload_n 2, 1) := by decide +kernel
theorem dX10_readDeed_177 : decode cX10_readDeed 177 = .ok (.iconst 2, 1) := by decide +kernel
theorem dX10_readDeed_178 : decode cX10_readDeed 178 = .ok (.iadd, 1) := by decide +kernel
theorem dX10_readDeed_179 : decode cX10_readDeed 179 = .ok (.iload 4, 2) := by decide +kernel
theorem dX10_readDeed_181 : decode cX10_readDeed 181 = .ok (.iastore, 1) := by decide +kernel
theorem dX10_readDeed_182 : decode cX10_readDeed 182 = .ok (.aload_n 0, 1) := by decide +kernel
theorem dX10_readDeed_183 : decode cX10_readDeed 183 = .ok (.getfield 32, 3) := by decide +kernel
theorem dX10_readDeed_186 : decode cX10_readDeed 186 = .ok (.iload_n 2, 1) := by decide +kernel
theorem dX10_readDeed_187 : decode cX10_readDeed 187 = .ok (.iconst 3, 1) := by decide +kernel
theorem dX10_readDeed_188 : decode cX10_readDeed 188 = .ok (.iadd, 1) := by decide +kernel
theorem dX10_readDeed_189 : decode cX10_readDeed 189 = .ok (.iload 5, 2) := by decide +kernel
theorem dX10_readDeed_191 : decode cX10_readDeed 191 = .ok (.iastore, 1) := by decide +kernel
theorem dX10_readDeed_192 : decode cX10_readDeed 192 = .ok (.aload_n 0, 1) := by decide +kernel
theorem dX10_readDeed_193 : decode cX10_readDeed 193 = .ok (.dup, 1) := by decide +kernel
theorem dX10_readDeed_194 : decode cX10_readDeed 194 = .ok (.getfield 158, 3) := by decide +kernel
theorem dX10_readDeed_197 : decode cX10_readDeed 197 = .ok (.iconst 1, 1) := by decide +kernel
theorem dX10_readDeed_198 : decode cX10_readDeed 198 = .ok (.iadd, 1) := by decide +kernel
theorem dX10_readDeed_199 : decode cX10_readDeed 199 = .ok (.putfield 158, 3) := by decide +kernel
theorem dX10_readDeed_202 : decode cX10_readDeed 202 = .ok (.iload_n 3, 1) := by decide +kernel
theorem dX10_readDeed_203 : decode cX10_readDeed 203 = .ok (.bipush (-4), 2) := by decide +kernel
theorem dX10_readDeed_205 : decode cX10_readDeed 205 = .ok (.if_icmp .eq 21, 3) := by decide +kernel
theorem dX10_readDeed_208 : decode cX10_readDeed 208 = .ok (.iload 4, 2) := by decide +kernel
theorem dX10_readDeed_210 : decode cX10_readDeed 210 = .ok (.bipush (-4), 2) := by decide +kernel
theorem dX10_readDeed_212 : decode cX10_readDeed 212 = .ok (.if_icmp .eq 14, 3) := by decide +kernel
theorem dX10_readDeed_215 : decode cX10_readDeed 215 = .ok (.iload 5, 2) := by decide +kernel
theorem dX10_readDeed_217 : decode cX10_readDeed 217 = .ok (.bipush (-4), 2) := by decide +kernel
theorem dX10_readDeed_219 : decode cX10_readDeed 219 = .ok (.if_icmp .eq 7, 3) := by decide +kernel
theorem dX10_readDeed_222 : decode cX10_readDeed 222 = .ok (.iconst 1, 1) := by decide +kernel
theorem dX10_readDeed_223 : decode cX10_readDeed 223 = .ok (.goto 4, 3) := by decide +kernel
theorem dX10_readDeed_226 : decode cX10_readDeed 226 = .ok (.iconst 0, 1) := by decide +kernel
theorem dX10_readDeed_227 : decode cX10_readDeed 227 = .ok (.ireturn, 1) := by decide +kernel
theorem dX10_readPad_0 : decode cX10_readPad 0 = .ok (.aload_n 0, 1) := by decide +kernel
theorem dX10_readPad_1 : decode cX10_readPad 1 = .ok (.iconst 0, 1) := by decide +kernel
theorem dX10_readPad_2 : decode cX10_readPad 2 = .ok (.putfield 149, 3) := by decide +kernel
theorem dX10_readPad_5 : decode cX10_readPad 5 = .ok (.aload_n 0, 1) := by decide +kernel
theorem dX10_readPad_6 : decode cX10_readPad 6 = .ok (.iconst 0, 1) := by decide +kernel
theorem dX10_readPad_7 : decode cX10_readPad 7 = .ok (.putfield 158, 3) := by decide +kernel
theorem dX10_readPad_10 : decode cX10_readPad 10 = .ok (.aload_n 0, 1) := by decide +kernel
theorem dX10_readPad_11 : decode cX10_readPad 11 = .ok (.invokevirtual 170, 3) := by decide +kernel
theorem dX10_readPad_14 : decode cX10_readPad 14 = .ok (.istore_n 1, 1) := by decide +kernel
theorem dX10_readPad_15 : decode cX10_readPad 15 = .ok (.iload_n 1, 1) := by decide +kernel
theorem dX10_readPad_16 : decode cX10_readPad 16 = .ok (.ifCond .eq 39, 3) := by decide +kernel
theorem dX10_readPad_19 : decode cX10_readPad 19 = .ok (.aload_n 0, 1) := by decide +kernel
theorem dX10_readPad_20 : decode cX10_readPad 20 = .ok (.getfield 149, 3) := by decide +kernel
theorem dX10_readPad_23 : decode cX10_readPad 23 = .ok (.aload_n 0, 1) := by decide +kernel
theorem dX10_readPad_24 : decode cX10_readPad 24 = .ok (.getfield 146, 3) := by decide +kernel
theorem dX10_readPad_27 : decode cX10_readPad 27 = .ok (.if_icmp .ge 28, 3) := by decide +kernel
theorem dX10_readPad_30 : decode cX10_readPad 30 = .ok (.aload_n 0, 1) := by decide +kernel
theorem dX10_readPad_31 : decode cX10_readPad 31 = .ok (.bipush 59, 2) := by decide +kernel
theorem dX10_readPad_33 : decode cX10_readPad 33 = .ok (.invokevirtual 167, 3) := by decide +kernel
theorem dX10_readPad_36 : decode cX10_readPad 36 = .ok (.ifCond .eq 14, 3) := by decide +kernel
theorem dX10_readPad_39 : decode cX10_readPad 39 = .ok (.aload_n 0, 1) := by decide +kernel
theorem dX10_readPad_40 : decode cX10_readPad 40 = .ok (.invokevirtual 170, 3) := by decide +kernel
theorem dX10_readPad_43 : decode cX10_readPad 43 = .ok (.ifCond .eq 7, 3) := by decide +kernel
theorem dX10_readPad_46 : decode cX10_readPad 46 = .ok (.iconst 1, 1) := by decide +kernel
theorem dX10_readPad_47 : decode cX10_readPad 47 = .ok (.goto 4, 3) := by decide +kernel
theorem dX10_readPad_50 : decode cX10_readPad 50 = .ok (.iconst 0, 1) := by decide +kernel
theorem dX10_readPad_51 : decode cX10_readPad 51 = .ok (.istore_n 1, 1) := by decide +kernel
theorem dX10_readPad_52 : decode cX10_readPad 52 = .ok (.goto (-37), 3) := by decide +kernel
theorem dX10_readPad_55 : decode cX10_readPad 55 = .ok (.iload_n 1, 1) := by decide +kernel
theorem dX10_readPad_56 : decode cX10_readPad 56 = .ok (.ireturn, 1) := by decide +kernel
theorem dX10_fault_0 : decode cX10_fault 0 = .ok (.aload_n 0, 1) := by decide +kernel
theorem dX10_fault_1 : decode cX10_fault 1 = .ok (.invokevirtual 174, 3) := by decide +kernel
theorem dX10_fault_4 : decode cX10_fault 4 = .ok (.ifCond .eq 8, 3) := by decide +kernel
theorem dX10_fault_7 : decode cX10_fault 7 = .ok (.bipush (-4), 2) := by decide +kernel
theorem dX10_fault_9 : decode cX10_fault 9 = .ok (.goto 7, 3) := by decide +kernel
theorem dX10_fault_12 : decode cX10_fault 12 = .ok (.aload_n 0, 1) := by decide +kernel
theorem dX10_fault_13 : decode cX10_fault 13 = .ok (.getfield 149, 3) := by decide +kernel
theorem dX10_fault_16 : decode cX10_fault 16 = .ok (.ireturn, 1) := by decide +kernel
theorem dX10_doDeed_0 : decode cX10_doDeed 0 = .ok (.aload_n 0, 1) := by decide +kernel
theorem dX10_doDeed_1 : decode cX10_doDeed 1 = .ok (.getfield 32, 3) := by decide +kernel
theorem dX10_doDeed_4 : decode cX10_doDeed 4 = .ok (.iconst 4, 1) := by decide +kernel
theorem dX10_doDeed_5 : decode cX10_doDeed 5 = .ok (.iload_n 1, 1) := by decide +kernel
theorem dX10_doDeed_6 : decode cX10_doDeed 6 = .ok (.imul, 1) := by decide +kernel
theorem dX10_doDeed_7 : decode cX10_doDeed 7 = .ok (.iconst 1, 1) := by decide +kernel
theorem dX10_doDeed_8 : decode cX10_doDeed 8 = .ok (.iadd, 1) := by decide +kernel
theorem dX10_doDeed_9 : decode cX10_doDeed 9 = .ok (.iaload, 1) := by decide +kernel
theorem dX10_doDeed_10 : decode cX10_doDeed 10 = .ok (.istore_n 2, 1) := by decide +kernel
theorem dX10_doDeed_11 : decode cX10_doDeed 11 = .ok (.aload_n 0, 1) := by decide +kernel
theorem dX10_doDeed_12 : decode cX10_doDeed 12 = .ok (.getfield 32, 3) := by decide +kernel
theorem dX10_doDeed_15 : decode cX10_doDeed 15 = .ok (.iconst 4, 1) := by decide +kernel
theorem dX10_doDeed_16 : decode cX10_doDeed 16 = .ok (.iload_n 1, 1) := by decide +kernel
theorem dX10_doDeed_17 : decode cX10_doDeed 17 = .ok (.imul, 1) := by decide +kernel
theorem dX10_doDeed_18 : decode cX10_doDeed 18 = .ok (.iconst 2, 1) := by decide +kernel
theorem dX10_doDeed_19 : decode cX10_doDeed 19 = .ok (.iadd, 1) := by decide +kernel
theorem dX10_doDeed_20 : decode cX10_doDeed 20 = .ok (.iaload, 1) := by decide +kernel
theorem dX10_doDeed_21 : decode cX10_doDeed 21 = .ok (.istore_n 3, 1) := by decide +kernel
theorem dX10_doDeed_22 : decode cX10_doDeed 22 = .ok (.aload_n 0, 1) := by decide +kernel
theorem dX10_doDeed_23 : decode cX10_doDeed 23 = .ok (.getfield 32, 3) := by decide +kernel
theorem dX10_doDeed_26 : decode cX10_doDeed 26 = .ok (.iconst 4, 1) := by decide +kernel
theorem dX10_doDeed_27 : decode cX10_doDeed 27 = .ok (.iload_n 1, 1) := by decide +kernel
theorem dX10_doDeed_28 : decode cX10_doDeed 28 = .ok (.imul, 1) := by decide +kernel
theorem dX10_doDeed_29 : decode cX10_doDeed 29 = .ok (.iconst 3, 1) := by decide +kernel
theorem dX10_doDeed_30 : decode cX10_doDeed 30 = .ok (.iadd, 1) := by decide +kernel
theorem dX10_doDeed_31 : decode cX10_doDeed 31 = .ok (.iaload, 1) := by decide +kernel
theorem dX10_doDeed_32 : decode cX10_doDeed 32 = .ok (.istore 4, 2) := by decide +kernel
theorem dX10_doDeed_34 : decode cX10_doDeed 34 = .ok (.aload_n 0, 1) := by decide +kernel
theorem dX10_doDeed_35 : decode cX10_doDeed 35 = .ok (.getfield 19, 3) := by decide +kernel
theorem dX10_doDeed_38 : decode cX10_doDeed 38 = .ok (.aload_n 0, 1) := by decide +kernel
theorem dX10_doDeed_39 : decode cX10_doDeed 39 = .ok (.getfield 32, 3) := by decide +kernel
theorem dX10_doDeed_42 : decode cX10_doDeed 42 = .ok (.iconst 4, 1) := by decide +kernel
theorem dX10_doDeed_43 : decode cX10_doDeed 43 = .ok (.iload_n 1, 1) := by decide +kernel
theorem dX10_doDeed_44 : decode cX10_doDeed 44 = .ok (.imul, 1) := by decide +kernel
theorem dX10_doDeed_45 : decode cX10_doDeed 45 = .ok (.iaload, 1) := by decide +kernel
theorem dX10_doDeed_46 : decode cX10_doDeed 46 = .ok (.iaload, 1) := by decide +kernel
theorem dX10_doDeed_47 : decode cX10_doDeed 47 = .ok (.lookupswitch 103 #[(100, 85), (102, 33), (115, 56)], 33) := by decide +kernel
theorem dX10_doDeed_80 : decode cX10_doDeed 80 = .ok (.aload_n 0, 1) := by decide +kernel
theorem dX10_doDeed_81 : decode cX10_doDeed 81 = .ok (.iload_n 2, 1) := by decide +kernel
theorem dX10_doDeed_82 : decode cX10_doDeed 82 = .ok (.invokevirtual 99, 3) := by decide +kernel
theorem dX10_doDeed_85 : decode cX10_doDeed 85 = .ok (.istore 5, 2) := by decide +kernel
theorem dX10_doDeed_87 : decode cX10_doDeed 87 = .ok (.iload 5, 2) := by decide +kernel
theorem dX10_doDeed_89 : decode cX10_doDeed 89 = .ok (.ifCond .ge 8, 3) := by decide +kernel
theorem dX10_doDeed_92 : decode cX10_doDeed 92 = .ok (.iload 5, 2) := by decide +kernel
theorem dX10_doDeed_94 : decode cX10_doDeed 94 = .ok (.goto 8, 3) := by decide +kernel
theorem dX10_doDeed_97 : decode cX10_doDeed 97 = .ok (.aload_n 0, 1) := by decide +kernel
theorem dX10_doDeed_98 : decode cX10_doDeed 98 = .ok (.iload_n 2, 1) := by decide +kernel
theorem dX10_doDeed_99 : decode cX10_doDeed 99 = .ok (.invokevirtual 102, 3) := by decide +kernel
theorem dX10_doDeed_102 : decode cX10_doDeed 102 = .ok (.ireturn, 1) := by decide +kernel
theorem dX10_doDeed_103 : decode cX10_doDeed 103 = .ok (.aload_n 0, 1) := by decide +kernel
theorem dX10_doDeed_104 : decode cX10_doDeed 104 = .ok (.iload_n 2, 1) := by decide +kernel
theorem dX10_doDeed_105 : decode cX10_doDeed 105 = .ok (.iload_n 3, 1) := by decide +kernel
theorem dX10_doDeed_106 : decode cX10_doDeed 106 = .ok (.iload 4, 2) := by decide +kernel
theorem dX10_doDeed_108 : decode cX10_doDeed 108 = .ok (.invokevirtual 125, 3) := by decide +kernel
theorem dX10_doDeed_111 : decode cX10_doDeed 111 = .ok (.istore 5, 2) := by decide +kernel
theorem dX10_doDeed_113 : decode cX10_doDeed 113 = .ok (.iload 5, 2) := by decide +kernel
theorem dX10_doDeed_115 : decode cX10_doDeed 115 = .ok (.ifCond .ge 8, 3) := by decide +kernel
theorem dX10_doDeed_118 : decode cX10_doDeed 118 = .ok (.iload 5, 2) := by decide +kernel
theorem dX10_doDeed_120 : decode cX10_doDeed 120 = .ok (.goto 11, 3) := by decide +kernel
theorem dX10_doDeed_123 : decode cX10_doDeed 123 = .ok (.aload_n 0, 1) := by decide +kernel
theorem dX10_doDeed_124 : decode cX10_doDeed 124 = .ok (.iload_n 2, 1) := by decide +kernel
theorem dX10_doDeed_125 : decode cX10_doDeed 125 = .ok (.iload_n 3, 1) := by decide +kernel
theorem dX10_doDeed_126 : decode cX10_doDeed 126 = .ok (.iload 4, 2) := by decide +kernel
theorem dX10_doDeed_128 : decode cX10_doDeed 128 = .ok (.invokevirtual 128, 3) := by decide +kernel
theorem dX10_doDeed_131 : decode cX10_doDeed 131 = .ok (.ireturn, 1) := by decide +kernel
theorem dX10_doDeed_132 : decode cX10_doDeed 132 = .ok (.aload_n 0, 1) := by decide +kernel
theorem dX10_doDeed_133 : decode cX10_doDeed 133 = .ok (.iload_n 2, 1) := by decide +kernel
theorem dX10_doDeed_134 : decode cX10_doDeed 134 = .ok (.invokevirtual 116, 3) := by decide +kernel
theorem dX10_doDeed_137 : decode cX10_doDeed 137 = .ok (.ifCond .eq 11, 3) := by decide +kernel
theorem dX10_doDeed_140 : decode cX10_doDeed 140 = .ok (.aload_n 0, 1) := by decide +kernel
theorem dX10_doDeed_141 : decode cX10_doDeed 141 = .ok (.iload_n 2, 1) := by decide +kernel
theorem dX10_doDeed_142 : decode cX10_doDeed 142 = .ok (.invokevirtual 131, 3) := by decide +kernel
theorem dX10_doDeed_145 : decode cX10_doDeed 145 = .ok (.goto 4, 3) := by decide +kernel
theorem dX10_doDeed_148 : decode cX10_doDeed 148 = .ok (.iconst (-1), 1) := by decide +kernel
theorem dX10_doDeed_149 : decode cX10_doDeed 149 = .ok (.ireturn, 1) := by decide +kernel
theorem dX10_doDeed_150 : decode cX10_doDeed 150 = .ok (.aload_n 0, 1) := by decide +kernel
theorem dX10_doDeed_151 : decode cX10_doDeed 151 = .ok (.iload_n 2, 1) := by decide +kernel
theorem dX10_doDeed_152 : decode cX10_doDeed 152 = .ok (.invokevirtual 140, 3) := by decide +kernel
theorem dX10_doDeed_155 : decode cX10_doDeed 155 = .ok (.istore 5, 2) := by decide +kernel
theorem dX10_doDeed_157 : decode cX10_doDeed 157 = .ok (.iload 5, 2) := by decide +kernel
theorem dX10_doDeed_159 : decode cX10_doDeed 159 = .ok (.ifCond .ge 8, 3) := by decide +kernel
theorem dX10_doDeed_162 : decode cX10_doDeed 162 = .ok (.iload 5, 2) := by decide +kernel
theorem dX10_doDeed_164 : decode cX10_doDeed 164 = .ok (.goto 8, 3) := by decide +kernel
theorem dX10_doDeed_167 : decode cX10_doDeed 167 = .ok (.aload_n 0, 1) := by decide +kernel
theorem dX10_doDeed_168 : decode cX10_doDeed 168 = .ok (.iload_n 2, 1) := by decide +kernel
theorem dX10_doDeed_169 : decode cX10_doDeed 169 = .ok (.invokevirtual 143, 3) := by decide +kernel
theorem dX10_doDeed_172 : decode cX10_doDeed 172 = .ok (.ireturn, 1) := by decide +kernel
theorem dX10_enrol_0 : decode cX10_enrol 0 = .ok (.aload_n 0, 1) := by decide +kernel
theorem dX10_enrol_1 : decode cX10_enrol 1 = .ok (.invokevirtual 174, 3) := by decide +kernel
theorem dX10_enrol_4 : decode cX10_enrol 4 = .ok (.ifCond .ne 6, 3) := by decide +kernel
theorem dX10_enrol_7 : decode cX10_enrol 7 = .ok (.bipush (-2), 2) := by decide +kernel
theorem dX10_enrol_9 : decode cX10_enrol 9 = .ok (.ireturn, 1) := by decide +kernel
theorem dX10_enrol_10 : decode cX10_enrol 10 = .ok (.aload_n 0, 1) := by decide +kernel
theorem dX10_enrol_11 : decode cX10_enrol 11 = .ok (.invokevirtual 75, 3) := by decide +kernel
theorem dX10_enrol_14 : decode cX10_enrol 14 = .ok (.aload_n 0, 1) := by decide +kernel
theorem dX10_enrol_15 : decode cX10_enrol 15 = .ok (.bipush (-4), 2) := by decide +kernel
theorem dX10_enrol_17 : decode cX10_enrol 17 = .ok (.putfield 22, 3) := by decide +kernel
theorem dX10_enrol_20 : decode cX10_enrol 20 = .ok (.aload_n 0, 1) := by decide +kernel
theorem dX10_enrol_21 : decode cX10_enrol 21 = .ok (.bipush (-4), 2) := by decide +kernel
theorem dX10_enrol_23 : decode cX10_enrol 23 = .ok (.putfield 26, 3) := by decide +kernel
theorem dX10_enrol_26 : decode cX10_enrol 26 = .ok (.aload_n 0, 1) := by decide +kernel
theorem dX10_enrol_27 : decode cX10_enrol 27 = .ok (.bipush (-4), 2) := by decide +kernel
theorem dX10_enrol_29 : decode cX10_enrol 29 = .ok (.putfield 29, 3) := by decide +kernel
theorem dX10_enrol_32 : decode cX10_enrol 32 = .ok (.iconst 0, 1) := by decide +kernel
theorem dX10_enrol_33 : decode cX10_enrol 33 = .ok (.istore_n 1, 1) := by decide +kernel
theorem dX10_enrol_34 : decode cX10_enrol 34 = .ok (.iconst 1, 1) := by decide +kernel
theorem dX10_enrol_35 : decode cX10_enrol 35 = .ok (.istore_n 2, 1) := by decide +kernel
theorem dX10_enrol_36 : decode cX10_enrol 36 = .ok (.iload_n 2, 1) := by decide +kernel
theorem dX10_enrol_37 : decode cX10_enrol 37 = .ok (.ifCond .eq 64, 3) := by decide +kernel
theorem dX10_enrol_40 : decode cX10_enrol 40 = .ok (.iload_n 1, 1) := by decide +kernel
theorem dX10_enrol_41 : decode cX10_enrol 41 = .ok (.aload_n 0, 1) := by decide +kernel
theorem dX10_enrol_42 : decode cX10_enrol 42 = .ok (.getfield 158, 3) := by decide +kernel
theorem dX10_enrol_45 : decode cX10_enrol 45 = .ok (.if_icmp .ge 56, 3) := by decide +kernel
theorem dX10_enrol_48 : decode cX10_enrol 48 = .ok (.aload_n 0, 1) := by decide +kernel
theorem dX10_enrol_49 : decode cX10_enrol 49 = .ok (.iload_n 1, 1) := by decide +kernel
theorem dX10_enrol_50 : decode cX10_enrol 50 = .ok (.invokevirtual 177, 3) := by decide +kernel
theorem dX10_enrol_53 : decode cX10_enrol 53 = .ok (.istore_n 3, 1) := by decide +kernel
theorem dX10_enrol_54 : decode cX10_enrol 54 = .ok (.iload_n 3, 1) := by decide +kernel
theorem dX10_enrol_55 : decode cX10_enrol 55 = .ok (.bipush 10, 2) := by decide +kernel
theorem dX10_enrol_57 : decode cX10_enrol 57 = .ok (.if_icmp .lt 7, 3) := by decide +kernel
theorem dX10_enrol_60 : decode cX10_enrol 60 = .ok (.iconst 1, 1) := by decide +kernel
theorem dX10_enrol_61 : decode cX10_enrol 61 = .ok (.goto 4, 3) := by decide +kernel
theorem dX10_enrol_64 : decode cX10_enrol 64 = .ok (.iconst 0, 1) := by decide +kernel
theorem dX10_enrol_65 : decode cX10_enrol 65 = .ok (.istore_n 2, 1) := by decide +kernel
theorem dX10_enrol_66 : decode cX10_enrol 66 = .ok (.iload_n 2, 1) := by decide +kernel
theorem dX10_enrol_67 : decode cX10_enrol 67 = .ok (.ifCond .eq 9, 3) := by decide +kernel
theorem dX10_enrol_70 : decode cX10_enrol 70 = .ok (.iinc 1 1, 3) := by decide +kernel
theorem dX10_enrol_73 : decode cX10_enrol 73 = .ok (.goto 25, 3) := by decide +kernel
theorem dX10_enrol_76 : decode cX10_enrol 76 = .ok (.aload_n 0, 1) := by decide +kernel
theorem dX10_enrol_77 : decode cX10_enrol 77 = .ok (.iload_n 3, 1) := by decide +kernel
theorem dX10_enrol_78 : decode cX10_enrol 78 = .ok (.putfield 22, 3) := by decide +kernel
theorem dX10_enrol_81 : decode cX10_enrol 81 = .ok (.aload_n 0, 1) := by decide +kernel
theorem dX10_enrol_82 : decode cX10_enrol 82 = .ok (.iload_n 1, 1) := by decide +kernel
theorem dX10_enrol_83 : decode cX10_enrol 83 = .ok (.putfield 26, 3) := by decide +kernel
theorem dX10_enrol_86 : decode cX10_enrol 86 = .ok (.aload_n 0, 1) := by decide +kernel
theorem dX10_enrol_87 : decode cX10_enrol 87 = .ok (.aload_n 0, 1) := by decide +kernel
theorem dX10_enrol_88 : decode cX10_enrol 88 = .ok (.getfield 32, 3) := by decide +kernel
theorem dX10_enrol_91 : decode cX10_enrol 91 = .ok (.iconst 4, 1) := by decide +kernel
theorem dX10_enrol_92 : decode cX10_enrol 92 = .ok (.iload_n 1, 1) := by decide +kernel
theorem dX10_enrol_93 : decode cX10_enrol 93 = .ok (.imul, 1) := by decide +kernel
theorem dX10_enrol_94 : decode cX10_enrol 94 = .ok (.iaload, 1) := by decide +kernel
theorem dX10_enrol_95 : decode cX10_enrol 95 = .ok (.putfield 29, 3) := by decide +kernel
theorem dX10_enrol_98 : decode cX10_enrol 98 = .ok (.goto (-62), 3) := by decide +kernel
theorem dX10_enrol_101 : decode cX10_enrol 101 = .ok (.aload_n 0, 1) := by decide +kernel
theorem dX10_enrol_102 : decode cX10_enrol 102 = .ok (.iconst 0, 1) := by decide +kernel
theorem dX10_enrol_103 : decode cX10_enrol 103 = .ok (.putfield 146, 3) := by decide +kernel
theorem dX10_enrol_106 : decode cX10_enrol 106 = .ok (.iload_n 1, 1) := by decide +kernel
theorem dX10_enrol_107 : decode cX10_enrol 107 = .ok (.ireturn, 1) := by decide +kernel
theorem dX10_why_0 : decode cX10_why 0 = .ok (.iload_n 1, 1) := by decide +kernel
theorem dX10_why_1 : decode cX10_why 1 = .ok (.ifCond .ne 10, 3) := by decide +kernel
theorem dX10_why_4 : decode cX10_why 4 = .ok (.aload_n 0, 1) := by decide +kernel
theorem dX10_why_5 : decode cX10_why 5 = .ok (.getfield 22, 3) := by decide +kernel
theorem dX10_why_8 : decode cX10_why 8 = .ok (.goto 28, 3) := by decide +kernel
theorem dX10_why_11 : decode cX10_why 11 = .ok (.iload_n 1, 1) := by decide +kernel
theorem dX10_why_12 : decode cX10_why 12 = .ok (.iconst 1, 1) := by decide +kernel
theorem dX10_why_13 : decode cX10_why 13 = .ok (.if_icmp .ne 10, 3) := by decide +kernel
theorem dX10_why_16 : decode cX10_why 16 = .ok (.aload_n 0, 1) := by decide +kernel
theorem dX10_why_17 : decode cX10_why 17 = .ok (.getfield 26, 3) := by decide +kernel
theorem dX10_why_20 : decode cX10_why 20 = .ok (.goto 16, 3) := by decide +kernel
theorem dX10_why_23 : decode cX10_why 23 = .ok (.iload_n 1, 1) := by decide +kernel
theorem dX10_why_24 : decode cX10_why 24 = .ok (.iconst 2, 1) := by decide +kernel
theorem dX10_why_25 : decode cX10_why 25 = .ok (.if_icmp .ne 10, 3) := by decide +kernel
theorem dX10_why_28 : decode cX10_why 28 = .ok (.aload_n 0, 1) := by decide +kernel
theorem dX10_why_29 : decode cX10_why 29 = .ok (.getfield 29, 3) := by decide +kernel
theorem dX10_why_32 : decode cX10_why 32 = .ok (.goto 4, 3) := by decide +kernel
theorem dX10_why_35 : decode cX10_why 35 = .ok (.iconst (-1), 1) := by decide +kernel
theorem dX10_why_36 : decode cX10_why 36 = .ok (.ireturn, 1) := by decide +kernel
theorem dX10_livingKin_0 : decode cX10_livingKin 0 = .ok (.iconst 0, 1) := by decide +kernel
theorem dX10_livingKin_1 : decode cX10_livingKin 1 = .ok (.istore_n 3, 1) := by decide +kernel
theorem dX10_livingKin_2 : decode cX10_livingKin 2 = .ok (.iconst 0, 1) := by decide +kernel
theorem dX10_livingKin_3 : decode cX10_livingKin 3 = .ok (.istore 4, 2) := by decide +kernel
theorem dX10_livingKin_5 : decode cX10_livingKin 5 = .ok (.iload 4, 2) := by decide +kernel
theorem dX10_livingKin_7 : decode cX10_livingKin 7 = .ok (.aload_n 0, 1) := by decide +kernel
theorem dX10_livingKin_8 : decode cX10_livingKin 8 = .ok (.getfield 7, 3) := by decide +kernel
theorem dX10_livingKin_11 : decode cX10_livingKin 11 = .ok (.iconst 0, 1) := by decide +kernel
theorem dX10_livingKin_12 : decode cX10_livingKin 12 = .ok (.iaload, 1) := by decide +kernel
theorem dX10_livingKin_13 : decode cX10_livingKin 13 = .ok (.if_icmp .ge 54, 3) := by decide +kernel
theorem dX10_livingKin_16 : decode cX10_livingKin 16 = .ok (.iload_n 2, 1) := by decide +kernel
theorem dX10_livingKin_17 : decode cX10_livingKin 17 = .ok (.ifCond .eq 13, 3) := by decide +kernel
theorem dX10_livingKin_20 : decode cX10_livingKin 20 = .ok (.aload_n 0, 1) := by decide +kernel
theorem dX10_livingKin_21 : decode cX10_livingKin 21 = .ok (.iload_n 1, 1) := by decide +kernel
theorem dX10_livingKin_22 : decode cX10_livingKin 22 = .ok (.iload 4, 2) := by decide +kernel
theorem dX10_livingKin_24 : decode cX10_livingKin 24 = .ok (.invokevirtual 180, 3) := by decide +kernel
theorem dX10_livingKin_27 : decode cX10_livingKin 27 = .ok (.goto 10, 3) := by decide +kernel
theorem dX10_livingKin_30 : decode cX10_livingKin 30 = .ok (.aload_n 0, 1) := by decide +kernel
theorem dX10_livingKin_31 : decode cX10_livingKin 31 = .ok (.iload_n 1, 1) := by decide +kernel
theorem dX10_livingKin_32 : decode cX10_livingKin 32 = .ok (.iload 4, 2) := by decide +kernel
theorem dX10_livingKin_34 : decode cX10_livingKin 34 = .ok (.invokevirtual 78, 3) := by decide +kernel
theorem dX10_livingKin_37 : decode cX10_livingKin 37 = .ok (.istore 5, 2) := by decide +kernel
theorem dX10_livingKin_39 : decode cX10_livingKin 39 = .ok (.iload_n 3, 1) := by decide +kernel
theorem dX10_livingKin_40 : decode cX10_livingKin 40 = .ok (.aload_n 0, 1) := by decide +kernel
theorem dX10_livingKin_41 : decode cX10_livingKin 41 = .ok (.iload 4, 2) := by decide +kernel
theorem dX10_livingKin_43 : decode cX10_livingKin 43 = .ok (.invokevirtual 56, 3) := by decide +kernel
theorem dX10_livingKin_46 : decode cX10_livingKin 46 = .ok (.ifCond .eq 12, 3) := by decide +kernel
theorem dX10_livingKin_49 : decode cX10_livingKin 49 = .ok (.iload 5, 2) := by decide +kernel
theorem dX10_livingKin_51 : decode cX10_livingKin 51 = .ok (.ifCond .eq 7, 3) := by decide +kernel
theorem dX10_livingKin_54 : decode cX10_livingKin 54 = .ok (.iconst 1, 1) := by decide +kernel
theorem dX10_livingKin_55 : decode cX10_livingKin 55 = .ok (.goto 4, 3) := by decide +kernel
theorem dX10_livingKin_58 : decode cX10_livingKin 58 = .ok (.iconst 0, 1) := by decide +kernel
theorem dX10_livingKin_59 : decode cX10_livingKin 59 = .ok (.iadd, 1) := by decide +kernel
theorem dX10_livingKin_60 : decode cX10_livingKin 60 = .ok (.istore_n 3, 1) := by decide +kernel
theorem dX10_livingKin_61 : decode cX10_livingKin 61 = .ok (.iinc 4 1, 3) := by decide +kernel
theorem dX10_livingKin_64 : decode cX10_livingKin 64 = .ok (.goto (-59), 3) := by decide +kernel
theorem dX10_livingKin_67 : decode cX10_livingKin 67 = .ok (.iload_n 3, 1) := by decide +kernel
theorem dX10_livingKin_68 : decode cX10_livingKin 68 = .ok (.ireturn, 1) := by decide +kernel
end
section
theorem dX10_comesFrom_0 : decode cX10_comesFrom 0 = .ok (.iconst 0, 1) := by decide +kernel
theorem dX10_comesFrom_1 : decode cX10_comesFrom 1 = .ok (.istore_n 3, 1) := by decide +kernel
theorem dX10_comesFrom_2 : decode cX10_comesFrom 2 = .ok (.aload_n 0, 1) := by decide +kernel
theorem dX10_comesFrom_3 : decode cX10_comesFrom 3 = .ok (.iload_n 1, 1) := by decide +kernel
theorem dX10_comesFrom_4 : decode cX10_comesFrom 4 = .ok (.iconst 2, 1) := by decide +kernel
theorem dX10_comesFrom_5 : decode cX10_comesFrom 5 = .ok (.invokevirtual 45, 3) := by decide +kernel
theorem dX10_comesFrom_8 : decode cX10_comesFrom 8 = .ok (.istore 4, 2) := by decide +kernel
theorem dX10_comesFrom_10 : decode cX10_comesFrom 10 = .ok (.iload 4, 2) := by decide +kernel
theorem dX10_comesFrom_12 : decode cX10_comesFrom 12 = .ok (.bipush (-4), 2) := by decide +kernel
theorem dX10_comesFrom_14 : decode cX10_comesFrom 14 = .ok (.if_icmp .eq 31, 3) := by decide +kernel
theorem dX10_comesFrom_17 : decode cX10_comesFrom 17 = .ok (.iload_n 3, 1) := by decide +kernel
theorem dX10_comesFrom_18 : decode cX10_comesFrom 18 = .ok (.ifCond .ne 9, 3) := by decide +kernel
theorem dX10_comesFrom_21 : decode cX10_comesFrom 21 = .ok (.iload 4, 2) := by decide +kernel
theorem dX10_comesFrom_23 : decode cX10_comesFrom 23 = .ok (.iload_n 2, 1) := by decide +kernel
theorem dX10_comesFrom_24 : decode cX10_comesFrom 24 = .ok (.if_icmp .ne 7, 3) := by decide +kernel
theorem dX10_comesFrom_27 : decode cX10_comesFrom 27 = .ok (.iconst 1, 1) := by decide +kernel
theorem dX10_comesFrom_28 : decode cX10_comesFrom 28 = .ok (.goto 4, 3) := by decide +kernel
theorem dX10_comesFrom_31 : decode cX10_comesFrom 31 = .ok (.iconst 0, 1) := by decide +kernel
theorem dX10_comesFrom_32 : decode cX10_comesFrom 32 = .ok (.istore_n 3, 1) := by decide +kernel
theorem dX10_comesFrom_33 : decode cX10_comesFrom 33 = .ok (.aload_n 0, 1) := by decide +kernel
theorem dX10_comesFrom_34 : decode cX10_comesFrom 34 = .ok (.iload 4, 2) := by decide +kernel
theorem dX10_comesFrom_36 : decode cX10_comesFrom 36 = .ok (.iconst 2, 1) := by decide +kernel
theorem dX10_comesFrom_37 : decode cX10_comesFrom 37 = .ok (.invokevirtual 45, 3) := by decide +kernel
theorem dX10_comesFrom_40 : decode cX10_comesFrom 40 = .ok (.istore 4, 2) := by decide +kernel
theorem dX10_comesFrom_42 : decode cX10_comesFrom 42 = .ok (.goto (-32), 3) := by decide +kernel
theorem dX10_comesFrom_45 : decode cX10_comesFrom 45 = .ok (.iload_n 3, 1) := by decide +kernel
theorem dX10_comesFrom_46 : decode cX10_comesFrom 46 = .ok (.ireturn, 1) := by decide +kernel
theorem dX10_allFrom_0 : decode cX10_allFrom 0 = .ok (.iconst 0, 1) := by decide +kernel
theorem dX10_allFrom_1 : decode cX10_allFrom 1 = .ok (.istore_n 2, 1) := by decide +kernel
theorem dX10_allFrom_2 : decode cX10_allFrom 2 = .ok (.iconst 0, 1) := by decide +kernel
theorem dX10_allFrom_3 : decode cX10_allFrom 3 = .ok (.istore_n 3, 1) := by decide +kernel
theorem dX10_allFrom_4 : decode cX10_allFrom 4 = .ok (.iload_n 3, 1) := by decide +kernel
theorem dX10_allFrom_5 : decode cX10_allFrom 5 = .ok (.aload_n 0, 1) := by decide +kernel
theorem dX10_allFrom_6 : decode cX10_allFrom 6 = .ok (.getfield 7, 3) := by decide +kernel
theorem dX10_allFrom_9 : decode cX10_allFrom 9 = .ok (.iconst 0, 1) := by decide +kernel
theorem dX10_allFrom_10 : decode cX10_allFrom 10 = .ok (.iaload, 1) := by decide +kernel
theorem dX10_allFrom_11 : decode cX10_allFrom 11 = .ok (.if_icmp .ge 26, 3) := by decide +kernel
theorem dX10_allFrom_14 : decode cX10_allFrom 14 = .ok (.iload_n 2, 1) := by decide +kernel
theorem dX10_allFrom_15 : decode cX10_allFrom 15 = .ok (.aload_n 0, 1) := by decide +kernel
theorem dX10_allFrom_16 : decode cX10_allFrom 16 = .ok (.iload_n 3, 1) := by decide +kernel
theorem dX10_allFrom_17 : decode cX10_allFrom 17 = .ok (.iload_n 1, 1) := by decide +kernel
theorem dX10_allFrom_18 : decode cX10_allFrom 18 = .ok (.invokevirtual 183, 3) := by decide +kernel
theorem dX10_allFrom_21 : decode cX10_allFrom 21 = .ok (.ifCond .eq 7, 3) := by decide +kernel
theorem dX10_allFrom_24 : decode cX10_allFrom 24 = .ok (.iconst 1, 1) := by decide +kernel
theorem dX10_allFrom_25 : decode cX10_allFrom 25 = .ok (.goto 4, 3) := by decide +kernel
theorem dX10_allFrom_28 : decode cX10_allFrom 28 = .ok (.iconst 0, 1) := by decide +kernel
theorem dX10_allFrom_29 : decode cX10_allFrom 29 = .ok (.iadd, 1) := by decide +kernel
theorem dX10_allFrom_30 : decode cX10_allFrom 30 = .ok (.istore_n 2, 1) := by decide +kernel
theorem dX10_allFrom_31 : decode cX10_allFrom 31 = .ok (.iinc 3 1, 3) := by decide +kernel
theorem dX10_allFrom_34 : decode cX10_allFrom 34 = .ok (.goto (-30), 3) := by decide +kernel
theorem dX10_allFrom_37 : decode cX10_allFrom 37 = .ok (.iload_n 2, 1) := by decide +kernel
theorem dX10_allFrom_38 : decode cX10_allFrom 38 = .ok (.ireturn, 1) := by decide +kernel
theorem dX10_farFromFather_0 : decode cX10_farFromFather 0 = .ok (.aload_n 0, 1) := by decide +kernel
theorem dX10_farFromFather_1 : decode cX10_farFromFather 1 = .ok (.iload_n 1, 1) := by decide +kernel
theorem dX10_farFromFather_2 : decode cX10_farFromFather 2 = .ok (.iconst 2, 1) := by decide +kernel
theorem dX10_farFromFather_3 : decode cX10_farFromFather 3 = .ok (.invokevirtual 45, 3) := by decide +kernel
theorem dX10_farFromFather_6 : decode cX10_farFromFather 6 = .ok (.istore_n 2, 1) := by decide +kernel
theorem dX10_farFromFather_7 : decode cX10_farFromFather 7 = .ok (.iload_n 2, 1) := by decide +kernel
theorem dX10_farFromFather_8 : decode cX10_farFromFather 8 = .ok (.bipush (-4), 2) := by decide +kernel
theorem dX10_farFromFather_10 : decode cX10_farFromFather 10 = .ok (.if_icmp .ne 8, 3) := by decide +kernel
theorem dX10_farFromFather_13 : decode cX10_farFromFather 13 = .ok (.bipush (-4), 2) := by decide +kernel
theorem dX10_farFromFather_15 : decode cX10_farFromFather 15 = .ok (.goto 18, 3) := by decide +kernel
theorem dX10_farFromFather_18 : decode cX10_farFromFather 18 = .ok (.aload_n 0, 1) := by decide +kernel
theorem dX10_farFromFather_19 : decode cX10_farFromFather 19 = .ok (.iload_n 1, 1) := by decide +kernel
theorem dX10_farFromFather_20 : decode cX10_farFromFather 20 = .ok (.iconst 0, 1) := by decide +kernel
theorem dX10_farFromFather_21 : decode cX10_farFromFather 21 = .ok (.invokevirtual 45, 3) := by decide +kernel
theorem dX10_farFromFather_24 : decode cX10_farFromFather 24 = .ok (.aload_n 0, 1) := by decide +kernel
theorem dX10_farFromFather_25 : decode cX10_farFromFather 25 = .ok (.iload_n 2, 1) := by decide +kernel
theorem dX10_farFromFather_26 : decode cX10_farFromFather 26 = .ok (.iconst 0, 1) := by decide +kernel
theorem dX10_farFromFather_27 : decode cX10_farFromFather 27 = .ok (.invokevirtual 45, 3) := by decide +kernel
theorem dX10_farFromFather_30 : decode cX10_farFromFather 30 = .ok (.invokestatic 137, 3) := by decide +kernel
theorem dX10_farFromFather_33 : decode cX10_farFromFather 33 = .ok (.ireturn, 1) := by decide +kernel
theorem dX10_person_0 : decode cX10_person 0 = .ok (.aload_n 0, 1) := by decide +kernel
theorem dX10_person_1 : decode cX10_person 1 = .ok (.iload_n 1, 1) := by decide +kernel
theorem dX10_person_2 : decode cX10_person 2 = .ok (.invokevirtual 116, 3) := by decide +kernel
theorem dX10_person_5 : decode cX10_person 5 = .ok (.ifCond .ne 5, 3) := by decide +kernel
theorem dX10_person_8 : decode cX10_person 8 = .ok (.iconst (-1), 1) := by decide +kernel
theorem dX10_person_9 : decode cX10_person 9 = .ok (.ireturn, 1) := by decide +kernel
theorem dX10_person_10 : decode cX10_person 10 = .ok (.iload_n 2, 1) := by decide +kernel
theorem dX10_person_11 : decode cX10_person 11 = .ok (.tableswitch 114 0 11 #[61, 61, 61, 61, 61, 68, 75, 82, 89, 96, 102, 108], 61) := by decide +kernel
theorem dX10_person_72 : decode cX10_person 72 = .ok (.aload_n 0, 1) := by decide +kernel
theorem dX10_person_73 : decode cX10_person 73 = .ok (.iload_n 1, 1) := by decide +kernel
theorem dX10_person_74 : decode cX10_person 74 = .ok (.iload_n 2, 1) := by decide +kernel
theorem dX10_person_75 : decode cX10_person 75 = .ok (.invokevirtual 45, 3) := by decide +kernel
theorem dX10_person_78 : decode cX10_person 78 = .ok (.ireturn, 1) := by decide +kernel
theorem dX10_person_79 : decode cX10_person 79 = .ok (.aload_n 0, 1) := by decide +kernel
theorem dX10_person_80 : decode cX10_person 80 = .ok (.iload_n 1, 1) := by decide +kernel
theorem dX10_person_81 : decode cX10_person 81 = .ok (.iconst 0, 1) := by decide +kernel
theorem dX10_person_82 : decode cX10_person 82 = .ok (.invokevirtual 112, 3) := by decide +kernel
theorem dX10_person_85 : decode cX10_person 85 = .ok (.ireturn, 1) := by decide +kernel
theorem dX10_person_86 : decode cX10_person 86 = .ok (.aload_n 0, 1) := by decide +kernel
theorem dX10_person_87 : decode cX10_person 87 = .ok (.iload_n 1, 1) := by decide +kernel
theorem dX10_person_88 : decode cX10_person 88 = .ok (.iconst 1, 1) := by decide +kernel
theorem dX10_person_89 : decode cX10_person 89 = .ok (.invokevirtual 112, 3) := by decide +kernel
theorem dX10_person_92 : decode cX10_person 92 = .ok (.ireturn, 1) := by decide +kernel
theorem dX10_person_93 : decode cX10_person 93 = .ok (.aload_n 0, 1) := by decide +kernel
theorem dX10_person_94 : decode cX10_person 94 = .ok (.iload_n 1, 1) := by decide +kernel
theorem dX10_person_95 : decode cX10_person 95 = .ok (.iconst 0, 1) := by decide +kernel
theorem dX10_person_96 : decode cX10_person 96 = .ok (.invokevirtual 186, 3) := by decide +kernel
theorem dX10_person_99 : decode cX10_person 99 = .ok (.ireturn, 1) := by decide +kernel
theorem dX10_person_100 : decode cX10_person 100 = .ok (.aload_n 0, 1) := by decide +kernel
theorem dX10_person_101 : decode cX10_person 101 = .ok (.iload_n 1, 1) := by decide +kernel
theorem dX10_person_102 : decode cX10_person 102 = .ok (.iconst 1, 1) := by decide +kernel
theorem dX10_person_103 : decode cX10_person 103 = .ok (.invokevirtual 186, 3) := by decide +kernel
theorem dX10_person_106 : decode cX10_person 106 = .ok (.ireturn, 1) := by decide +kernel
theorem dX10_person_107 : decode cX10_person 107 = .ok (.aload_n 0, 1) := by decide +kernel
theorem dX10_person_108 : decode cX10_person 108 = .ok (.iload_n 1, 1) := by decide +kernel
theorem dX10_person_109 : decode cX10_person 109 = .ok (.invokevirtual 189, 3) := by decide +kernel
theorem dX10_person_112 : decode cX10_person 112 = .ok (.ireturn, 1) := by decide +kernel
theorem dX10_person_113 : decode cX10_person 113 = .ok (.aload_n 0, 1) := by decide +kernel
theorem dX10_person_114 : decode cX10_person 114 = .ok (.iload_n 1, 1) := by decide +kernel
theorem dX10_person_115 : decode cX10_person 115 = .ok (.invokevirtual 192, 3) := by decide +kernel
theorem dX10_person_118 : decode cX10_person 118 = .ok (.ireturn, 1) := by decide +kernel
theorem dX10_person_119 : decode cX10_person 119 = .ok (.aload_n 0, 1) := by decide +kernel
theorem dX10_person_120 : decode cX10_person 120 = .ok (.iload_n 1, 1) := by decide +kernel
theorem dX10_person_121 : decode cX10_person 121 = .ok (.invokevirtual 195, 3) := by decide +kernel
theorem dX10_person_124 : decode cX10_person 124 = .ok (.ireturn, 1) := by decide +kernel
theorem dX10_person_125 : decode cX10_person 125 = .ok (.iconst (-1), 1) := by decide +kernel
theorem dX10_person_126 : decode cX10_person 126 = .ok (.ireturn, 1) := by decide +kernel
theorem dX10_mark_0 : decode cX10_mark 0 = .ok (.aload_n 0, 1) := by decide +kernel
theorem dX10_mark_1 : decode cX10_mark 1 = .ok (.iload_n 1, 1) := by decide +kernel
theorem dX10_mark_2 : decode cX10_mark 2 = .ok (.invokevirtual 116, 3) := by decide +kernel
theorem dX10_mark_5 : decode cX10_mark 5 = .ok (.ifCond .eq 25, 3) := by decide +kernel
theorem dX10_mark_8 : decode cX10_mark 8 = .ok (.iload_n 2, 1) := by decide +kernel
theorem dX10_mark_9 : decode cX10_mark 9 = .ok (.iconst 0, 1) := by decide +kernel
theorem dX10_mark_10 : decode cX10_mark 10 = .ok (.iconst 5, 1) := by decide +kernel
theorem dX10_mark_11 : decode cX10_mark 11 = .ok (.invokestatic 41, 3) := by decide +kernel
theorem dX10_mark_14 : decode cX10_mark 14 = .ok (.ifCond .eq 16, 3) := by decide +kernel
theorem dX10_mark_17 : decode cX10_mark 17 = .ok (.aload_n 0, 1) := by decide +kernel
theorem dX10_mark_18 : decode cX10_mark 18 = .ok (.iload_n 1, 1) := by decide +kernel
theorem dX10_mark_19 : decode cX10_mark 19 = .ok (.iconst 0, 1) := by decide +kernel
theorem dX10_mark_20 : decode cX10_mark 20 = .ok (.invokevirtual 45, 3) := by decide +kernel
theorem dX10_mark_23 : decode cX10_mark 23 = .ok (.iload_n 2, 1) := by decide +kernel
theorem dX10_mark_24 : decode cX10_mark 24 = .ok (.invokestatic 53, 3) := by decide +kernel
theorem dX10_mark_27 : decode cX10_mark 27 = .ok (.goto 4, 3) := by decide +kernel
theorem dX10_mark_30 : decode cX10_mark 30 = .ok (.iconst (-1), 1) := by decide +kernel
theorem dX10_mark_31 : decode cX10_mark 31 = .ok (.ireturn, 1) := by decide +kernel
theorem dX10_whyNot_0 : decode cX10_whyNot 0 = .ok (.aload_n 0, 1) := by decide +kernel
theorem dX10_whyNot_1 : decode cX10_whyNot 1 = .ok (.iload_n 1, 1) := by decide +kernel
theorem dX10_whyNot_2 : decode cX10_whyNot 2 = .ok (.invokevirtual 116, 3) := by decide +kernel
theorem dX10_whyNot_5 : decode cX10_whyNot 5 = .ok (.ifCond .eq 21, 3) := by decide +kernel
theorem dX10_whyNot_8 : decode cX10_whyNot 8 = .ok (.iload_n 2, 1) := by decide +kernel
theorem dX10_whyNot_9 : decode cX10_whyNot 9 = .ok (.iload_n 3, 1) := by decide +kernel
theorem dX10_whyNot_10 : decode cX10_whyNot 10 = .ok (.invokestatic 119, 3) := by decide +kernel
theorem dX10_whyNot_13 : decode cX10_whyNot 13 = .ok (.ifCond .eq 13, 3) := by decide +kernel
theorem dX10_whyNot_16 : decode cX10_whyNot 16 = .ok (.aload_n 0, 1) := by decide +kernel
theorem dX10_whyNot_17 : decode cX10_whyNot 17 = .ok (.iload_n 1, 1) := by decide +kernel
theorem dX10_whyNot_18 : decode cX10_whyNot 18 = .ok (.iload_n 2, 1) := by decide +kernel
theorem dX10_whyNot_19 : decode cX10_whyNot 19 = .ok (.iload_n 3, 1) := by decide +kernel
theorem dX10_whyNot_20 : decode cX10_whyNot 20 = .ok (.invokevirtual 122, 3) := by decide +kernel
theorem dX10_whyNot_23 : decode cX10_whyNot 23 = .ok (.goto 4, 3) := by decide +kernel
theorem dX10_whyNot_26 : decode cX10_whyNot 26 = .ok (.iconst (-1), 1) := by decide +kernel
theorem dX10_whyNot_27 : decode cX10_whyNot 27 = .ok (.ireturn, 1) := by decide +kernel
theorem dX10_choicesOf_0 : decode cX10_choicesOf 0 = .ok (.iconst 0, 1) := by decide +kernel
theorem dX10_choicesOf_1 : decode cX10_choicesOf 1 = .ok (.istore_n 2, 1) := by decide +kernel
theorem dX10_choicesOf_2 : decode cX10_choicesOf 2 = .ok (.iconst 0, 1) := by decide +kernel
theorem dX10_choicesOf_3 : decode cX10_choicesOf 3 = .ok (.istore_n 3, 1) := by decide +kernel
theorem dX10_choicesOf_4 : decode cX10_choicesOf 4 = .ok (.iload_n 3, 1) := by decide +kernel
theorem dX10_choicesOf_5 : decode cX10_choicesOf 5 = .ok (.bipush 30, 2) := by decide +kernel
theorem dX10_choicesOf_7 : decode cX10_choicesOf 7 = .ok (.if_icmp .ge 31, 3) := by decide +kernel
theorem dX10_choicesOf_10 : decode cX10_choicesOf 10 = .ok (.iload_n 2, 1) := by decide +kernel
theorem dX10_choicesOf_11 : decode cX10_choicesOf 11 = .ok (.aload_n 0, 1) := by decide +kernel
theorem dX10_choicesOf_12 : decode cX10_choicesOf 12 = .ok (.iload_n 1, 1) := by decide +kernel
theorem dX10_choicesOf_13 : decode cX10_choicesOf 13 = .ok (.iload_n 3, 1) := by decide +kernel
theorem dX10_choicesOf_14 : decode cX10_choicesOf 14 = .ok (.iconst 5, 1) := by decide +kernel
theorem dX10_choicesOf_15 : decode cX10_choicesOf 15 = .ok (.idiv, 1) := by decide +kernel
theorem dX10_choicesOf_16 : decode cX10_choicesOf 16 = .ok (.iload_n 3, 1) := by decide +kernel
theorem dX10_choicesOf_17 : decode cX10_choicesOf 17 = .ok (.iconst 5, 1) := by decide +kernel
theorem dX10_choicesOf_18 : decode cX10_choicesOf 18 = .ok (.irem, 1) := by decide +kernel
theorem dX10_choicesOf_19 : decode cX10_choicesOf 19 = .ok (.invokevirtual 122, 3) := by decide +kernel
theorem dX10_choicesOf_22 : decode cX10_choicesOf 22 = .ok (.ifCond .ne 7, 3) := by decide +kernel
theorem dX10_choicesOf_25 : decode cX10_choicesOf 25 = .ok (.iconst 1, 1) := by decide +kernel
theorem dX10_choicesOf_26 : decode cX10_choicesOf 26 = .ok (.goto 4, 3) := by decide +kernel
theorem dX10_choicesOf_29 : decode cX10_choicesOf 29 = .ok (.iconst 0, 1) := by decide +kernel
theorem dX10_choicesOf_30 : decode cX10_choicesOf 30 = .ok (.iadd, 1) := by decide +kernel
theorem dX10_choicesOf_31 : decode cX10_choicesOf 31 = .ok (.istore_n 2, 1) := by decide +kernel
theorem dX10_choicesOf_32 : decode cX10_choicesOf 32 = .ok (.iinc 3 1, 3) := by decide +kernel
theorem dX10_choicesOf_35 : decode cX10_choicesOf 35 = .ok (.goto (-31), 3) := by decide +kernel
theorem dX10_choicesOf_38 : decode cX10_choicesOf 38 = .ok (.iload_n 2, 1) := by decide +kernel
theorem dX10_choicesOf_39 : decode cX10_choicesOf 39 = .ok (.ireturn, 1) := by decide +kernel
theorem dX10_choices_0 : decode cX10_choices 0 = .ok (.aload_n 0, 1) := by decide +kernel
theorem dX10_choices_1 : decode cX10_choices 1 = .ok (.iload_n 1, 1) := by decide +kernel
theorem dX10_choices_2 : decode cX10_choices 2 = .ok (.invokevirtual 116, 3) := by decide +kernel
theorem dX10_choices_5 : decode cX10_choices 5 = .ok (.ifCond .eq 20, 3) := by decide +kernel
theorem dX10_choices_8 : decode cX10_choices 8 = .ok (.iload_n 2, 1) := by decide +kernel
theorem dX10_choices_9 : decode cX10_choices 9 = .ok (.iconst 0, 1) := by decide +kernel
theorem dX10_choices_10 : decode cX10_choices 10 = .ok (.iconst 1, 1) := by decide +kernel
theorem dX10_choices_11 : decode cX10_choices 11 = .ok (.invokestatic 41, 3) := by decide +kernel
theorem dX10_choices_14 : decode cX10_choices 14 = .ok (.ifCond .eq 11, 3) := by decide +kernel
theorem dX10_choices_17 : decode cX10_choices 17 = .ok (.aload_n 0, 1) := by decide +kernel
theorem dX10_choices_18 : decode cX10_choices 18 = .ok (.iload_n 1, 1) := by decide +kernel
theorem dX10_choices_19 : decode cX10_choices 19 = .ok (.invokevirtual 198, 3) := by decide +kernel
theorem dX10_choices_22 : decode cX10_choices 22 = .ok (.goto 4, 3) := by decide +kernel
theorem dX10_choices_25 : decode cX10_choices 25 = .ok (.iconst (-1), 1) := by decide +kernel
theorem dX10_choices_26 : decode cX10_choices 26 = .ok (.ireturn, 1) := by decide +kernel
theorem dX10_leastFar_0 : decode cX10_leastFar 0 = .ok (.bipush 6, 2) := by decide +kernel
theorem dX10_leastFar_2 : decode cX10_leastFar 2 = .ok (.istore_n 3, 1) := by decide +kernel
theorem dX10_leastFar_3 : decode cX10_leastFar 3 = .ok (.iconst 0, 1) := by decide +kernel
theorem dX10_leastFar_4 : decode cX10_leastFar 4 = .ok (.istore 4, 2) := by decide +kernel
theorem dX10_leastFar_6 : decode cX10_leastFar 6 = .ok (.iload 4, 2) := by decide +kernel
theorem dX10_leastFar_8 : decode cX10_leastFar 8 = .ok (.aload_n 0, 1) := by decide +kernel
theorem dX10_leastFar_9 : decode cX10_leastFar 9 = .ok (.getfield 7, 3) := by decide +kernel
theorem dX10_leastFar_12 : decode cX10_leastFar 12 = .ok (.iconst 0, 1) := by decide +kernel
theorem dX10_leastFar_13 : decode cX10_leastFar 13 = .ok (.iaload, 1) := by decide +kernel
theorem dX10_leastFar_14 : decode cX10_leastFar 14 = .ok (.if_icmp .ge 55, 3) := by decide +kernel
theorem dX10_leastFar_17 : decode cX10_leastFar 17 = .ok (.iload 4, 2) := by decide +kernel
theorem dX10_leastFar_19 : decode cX10_leastFar 19 = .ok (.iload_n 2, 1) := by decide +kernel
theorem dX10_leastFar_20 : decode cX10_leastFar 20 = .ok (.if_icmp .eq 26, 3) := by decide +kernel
theorem dX10_leastFar_23 : decode cX10_leastFar 23 = .ok (.aload_n 0, 1) := by decide +kernel
theorem dX10_leastFar_24 : decode cX10_leastFar 24 = .ok (.iload 4, 2) := by decide +kernel
theorem dX10_leastFar_26 : decode cX10_leastFar 26 = .ok (.invokevirtual 56, 3) := by decide +kernel
theorem dX10_leastFar_29 : decode cX10_leastFar 29 = .ok (.ifCond .eq 17, 3) := by decide +kernel
theorem dX10_leastFar_32 : decode cX10_leastFar 32 = .ok (.iload_n 1, 1) := by decide +kernel
theorem dX10_leastFar_33 : decode cX10_leastFar 33 = .ok (.aload_n 0, 1) := by decide +kernel
theorem dX10_leastFar_34 : decode cX10_leastFar 34 = .ok (.iload 4, 2) := by decide +kernel
theorem dX10_leastFar_36 : decode cX10_leastFar 36 = .ok (.iconst 0, 1) := by decide +kernel
theorem dX10_leastFar_37 : decode cX10_leastFar 37 = .ok (.invokevirtual 45, 3) := by decide +kernel
theorem dX10_leastFar_40 : decode cX10_leastFar 40 = .ok (.invokestatic 137, 3) := by decide +kernel
theorem dX10_leastFar_43 : decode cX10_leastFar 43 = .ok (.goto 5, 3) := by decide +kernel
theorem dX10_leastFar_46 : decode cX10_leastFar 46 = .ok (.bipush 6, 2) := by decide +kernel
theorem dX10_leastFar_48 : decode cX10_leastFar 48 = .ok (.istore 5, 2) := by decide +kernel
theorem dX10_leastFar_50 : decode cX10_leastFar 50 = .ok (.iload 5, 2) := by decide +kernel
theorem dX10_leastFar_52 : decode cX10_leastFar 52 = .ok (.iload_n 3, 1) := by decide +kernel
theorem dX10_leastFar_53 : decode cX10_leastFar 53 = .ok (.if_icmp .ge 8, 3) := by decide +kernel
theorem dX10_leastFar_56 : decode cX10_leastFar 56 = .ok (.iload 5, 2) := by decide +kernel
theorem dX10_leastFar_58 : decode cX10_leastFar 58 = .ok (.goto 4, 3) := by decide +kernel
theorem dX10_leastFar_61 : decode cX10_leastFar 61 = .ok (.iload_n 3, 1) := by decide +kernel
theorem dX10_leastFar_62 : decode cX10_leastFar 62 = .ok (.istore_n 3, 1) := by decide +kernel
theorem dX10_leastFar_63 : decode cX10_leastFar 63 = .ok (.iinc 4 1, 3) := by decide +kernel
theorem dX10_leastFar_66 : decode cX10_leastFar 66 = .ok (.goto (-60), 3) := by decide +kernel
theorem dX10_leastFar_69 : decode cX10_leastFar 69 = .ok (.iload_n 3, 1) := by decide +kernel
theorem dX10_leastFar_70 : decode cX10_leastFar 70 = .ok (.ireturn, 1) := by decide +kernel
theorem dX10_best_0 : decode cX10_best 0 = .ok (.aload_n 0, 1) := by decide +kernel
theorem dX10_best_1 : decode cX10_best 1 = .ok (.iload_n 1, 1) := by decide +kernel
theorem dX10_best_2 : decode cX10_best 2 = .ok (.invokevirtual 116, 3) := by decide +kernel
theorem dX10_best_5 : decode cX10_best 5 = .ok (.ifCond .ne 5, 3) := by decide +kernel
theorem dX10_best_8 : decode cX10_best 8 = .ok (.iconst (-1), 1) := by decide +kernel
theorem dX10_best_9 : decode cX10_best 9 = .ok (.ireturn, 1) := by decide +kernel
theorem dX10_best_10 : decode cX10_best 10 = .ok (.bipush (-4), 2) := by decide +kernel
theorem dX10_best_12 : decode cX10_best 12 = .ok (.istore_n 2, 1) := by decide +kernel
theorem dX10_best_13 : decode cX10_best 13 = .ok (.iconst (-1), 1) := by decide +kernel
theorem dX10_best_14 : decode cX10_best 14 = .ok (.istore_n 3, 1) := by decide +kernel
theorem dX10_best_15 : decode cX10_best 15 = .ok (.iconst 0, 1) := by decide +kernel
theorem dX10_best_16 : decode cX10_best 16 = .ok (.istore 4, 2) := by decide +kernel
theorem dX10_best_18 : decode cX10_best 18 = .ok (.iload 4, 2) := by decide +kernel
theorem dX10_best_20 : decode cX10_best 20 = .ok (.bipush 30, 2) := by decide +kernel
theorem dX10_best_22 : decode cX10_best 22 = .ok (.if_icmp .ge 91, 3) := by decide +kernel
theorem dX10_best_25 : decode cX10_best 25 = .ok (.aload_n 0, 1) := by decide +kernel
theorem dX10_best_26 : decode cX10_best 26 = .ok (.iload_n 1, 1) := by decide +kernel
theorem dX10_best_27 : decode cX10_best 27 = .ok (.iload 4, 2) := by decide +kernel
theorem dX10_best_29 : decode cX10_best 29 = .ok (.iconst 5, 1) := by decide +kernel
theorem dX10_best_30 : decode cX10_best 30 = .ok (.idiv, 1) := by decide +kernel
theorem dX10_best_31 : decode cX10_best 31 = .ok (.iload 4, 2) := by decide +kernel
theorem dX10_best_33 : decode cX10_best 33 = .ok (.iconst 5, 1) := by decide +kernel
theorem dX10_best_34 : decode cX10_best 34 = .ok (.irem, 1) := by decide +kernel
theorem dX10_best_35 : decode cX10_best 35 = .ok (.invokevirtual 122, 3) := by decide +kernel
theorem dX10_best_38 : decode cX10_best 38 = .ok (.ifCond .ne 7, 3) := by decide +kernel
theorem dX10_best_41 : decode cX10_best 41 = .ok (.iconst 1, 1) := by decide +kernel
theorem dX10_best_42 : decode cX10_best 42 = .ok (.goto 4, 3) := by decide +kernel
theorem dX10_best_45 : decode cX10_best 45 = .ok (.iconst 0, 1) := by decide +kernel
theorem dX10_best_46 : decode cX10_best 46 = .ok (.istore 5, 2) := by decide +kernel
theorem dX10_best_48 : decode cX10_best 48 = .ok (.iload 5, 2) := by decide +kernel
theorem dX10_best_50 : decode cX10_best 50 = .ok (.ifCond .eq 28, 3) := by decide +kernel
theorem dX10_best_53 : decode cX10_best 53 = .ok (.aload_n 0, 1) := by decide +kernel
theorem dX10_best_54 : decode cX10_best 54 = .ok (.aload_n 0, 1) := by decide +kernel
theorem dX10_best_55 : decode cX10_best 55 = .ok (.iload_n 1, 1) := by decide +kernel
theorem dX10_best_56 : decode cX10_best 56 = .ok (.iconst 0, 1) := by decide +kernel
theorem dX10_best_57 : decode cX10_best 57 = .ok (.invokevirtual 45, 3) := by decide +kernel
theorem dX10_best_60 : decode cX10_best 60 = .ok (.iload 4, 2) := by decide +kernel
theorem dX10_best_62 : decode cX10_best 62 = .ok (.iconst 5, 1) := by decide +kernel
theorem dX10_best_63 : decode cX10_best 63 = .ok (.idiv, 1) := by decide +kernel
theorem dX10_best_64 : decode cX10_best 64 = .ok (.iload 4, 2) := by decide +kernel
theorem dX10_best_66 : decode cX10_best 66 = .ok (.iconst 5, 1) := by decide +kernel
theorem dX10_best_67 : decode cX10_best 67 = .ok (.irem, 1) := by decide +kernel
theorem dX10_best_68 : decode cX10_best 68 = .ok (.invokestatic 105, 3) := by decide +kernel
theorem dX10_best_71 : decode cX10_best 71 = .ok (.iload_n 1, 1) := by decide +kernel
theorem dX10_best_72 : decode cX10_best 72 = .ok (.invokevirtual 201, 3) := by decide +kernel
theorem dX10_best_75 : decode cX10_best 75 = .ok (.goto 4, 3) := by decide +kernel
theorem dX10_best_78 : decode cX10_best 78 = .ok (.iconst (-1), 1) := by decide +kernel
theorem dX10_best_79 : decode cX10_best 79 = .ok (.istore 6, 2) := by decide +kernel
theorem dX10_best_81 : decode cX10_best 81 = .ok (.iload 6, 2) := by decide +kernel
theorem dX10_best_83 : decode cX10_best 83 = .ok (.iload_n 3, 1) := by decide +kernel
theorem dX10_best_84 : decode cX10_best 84 = .ok (.if_icmp .le 8, 3) := by decide +kernel
theorem dX10_best_87 : decode cX10_best 87 = .ok (.iload 4, 2) := by decide +kernel
theorem dX10_best_89 : decode cX10_best 89 = .ok (.goto 4, 3) := by decide +kernel
theorem dX10_best_92 : decode cX10_best 92 = .ok (.iload_n 2, 1) := by decide +kernel
theorem dX10_best_93 : decode cX10_best 93 = .ok (.istore_n 2, 1) := by decide +kernel
theorem dX10_best_94 : decode cX10_best 94 = .ok (.iload 6, 2) := by decide +kernel
theorem dX10_best_96 : decode cX10_best 96 = .ok (.iload_n 3, 1) := by decide +kernel
theorem dX10_best_97 : decode cX10_best 97 = .ok (.if_icmp .le 8, 3) := by decide +kernel
theorem dX10_best_100 : decode cX10_best 100 = .ok (.iload 6, 2) := by decide +kernel
theorem dX10_best_102 : decode cX10_best 102 = .ok (.goto 4, 3) := by decide +kernel
theorem dX10_best_105 : decode cX10_best 105 = .ok (.iload_n 3, 1) := by decide +kernel
theorem dX10_best_106 : decode cX10_best 106 = .ok (.istore_n 3, 1) := by decide +kernel
theorem dX10_best_107 : decode cX10_best 107 = .ok (.iinc 4 1, 3) := by decide +kernel
theorem dX10_best_110 : decode cX10_best 110 = .ok (.goto (-92), 3) := by decide +kernel
theorem dX10_best_113 : decode cX10_best 113 = .ok (.iload_n 2, 1) := by decide +kernel
theorem dX10_best_114 : decode cX10_best 114 = .ok (.ireturn, 1) := by decide +kernel
theorem dX10_differs_0 : decode cX10_differs 0 = .ok (.aload_n 0, 1) := by decide +kernel
theorem dX10_differs_1 : decode cX10_differs 1 = .ok (.iload_n 1, 1) := by decide +kernel
theorem dX10_differs_2 : decode cX10_differs 2 = .ok (.invokevirtual 116, 3) := by decide +kernel
theorem dX10_differs_5 : decode cX10_differs 5 = .ok (.ifCond .eq 29, 3) := by decide +kernel
theorem dX10_differs_8 : decode cX10_differs 8 = .ok (.aload_n 0, 1) := by decide +kernel
theorem dX10_differs_9 : decode cX10_differs 9 = .ok (.iload_n 2, 1) := by decide +kernel
theorem dX10_differs_10 : decode cX10_differs 10 = .ok (.invokevirtual 116, 3) := by decide +kernel
theorem dX10_differs_13 : decode cX10_differs 13 = .ok (.ifCond .eq 21, 3) := by decide +kernel
theorem dX10_differs_16 : decode cX10_differs 16 = .ok (.aload_n 0, 1) := by decide +kernel
theorem dX10_differs_17 : decode cX10_differs 17 = .ok (.iload_n 1, 1) := by decide +kernel
theorem dX10_differs_18 : decode cX10_differs 18 = .ok (.iconst 0, 1) := by decide +kernel
theorem dX10_differs_19 : decode cX10_differs 19 = .ok (.invokevirtual 45, 3) := by decide +kernel
theorem dX10_differs_22 : decode cX10_differs 22 = .ok (.aload_n 0, 1) := by decide +kernel
theorem dX10_differs_23 : decode cX10_differs 23 = .ok (.iload_n 2, 1) := by decide +kernel
theorem dX10_differs_24 : decode cX10_differs 24 = .ok (.iconst 0, 1) := by decide +kernel
theorem dX10_differs_25 : decode cX10_differs 25 = .ok (.invokevirtual 45, 3) := by decide +kernel
theorem dX10_differs_28 : decode cX10_differs 28 = .ok (.invokestatic 137, 3) := by decide +kernel
theorem dX10_differs_31 : decode cX10_differs 31 = .ok (.goto 4, 3) := by decide +kernel
theorem dX10_differs_34 : decode cX10_differs 34 = .ok (.iconst (-1), 1) := by decide +kernel
theorem dX10_differs_35 : decode cX10_differs 35 = .ok (.ireturn, 1) := by decide +kernel
theorem dX10_kin_0 : decode cX10_kin 0 = .ok (.aload_n 0, 1) := by decide +kernel
theorem dX10_kin_1 : decode cX10_kin 1 = .ok (.iload_n 1, 1) := by decide +kernel
theorem dX10_kin_2 : decode cX10_kin 2 = .ok (.invokevirtual 116, 3) := by decide +kernel
theorem dX10_kin_5 : decode cX10_kin 5 = .ok (.ifCond .eq 11, 3) := by decide +kernel
theorem dX10_kin_8 : decode cX10_kin 8 = .ok (.aload_n 0, 1) := by decide +kernel
theorem dX10_kin_9 : decode cX10_kin 9 = .ok (.iload_n 2, 1) := by decide +kernel
theorem dX10_kin_10 : decode cX10_kin 10 = .ok (.invokevirtual 116, 3) := by decide +kernel
theorem dX10_kin_13 : decode cX10_kin 13 = .ok (.ifCond .ne 5, 3) := by decide +kernel
theorem dX10_kin_16 : decode cX10_kin 16 = .ok (.iconst (-1), 1) := by decide +kernel
theorem dX10_kin_17 : decode cX10_kin 17 = .ok (.ireturn, 1) := by decide +kernel
theorem dX10_kin_18 : decode cX10_kin 18 = .ok (.iload_n 1, 1) := by decide +kernel
theorem dX10_kin_19 : decode cX10_kin 19 = .ok (.istore_n 3, 1) := by decide +kernel
theorem dX10_kin_20 : decode cX10_kin 20 = .ok (.iload_n 2, 1) := by decide +kernel
theorem dX10_kin_21 : decode cX10_kin 21 = .ok (.istore 4, 2) := by decide +kernel
theorem dX10_kin_23 : decode cX10_kin 23 = .ok (.iconst 0, 1) := by decide +kernel
theorem dX10_kin_24 : decode cX10_kin 24 = .ok (.istore 5, 2) := by decide +kernel
theorem dX10_kin_26 : decode cX10_kin 26 = .ok (.iload_n 3, 1) := by decide +kernel
theorem dX10_kin_27 : decode cX10_kin 27 = .ok (.iload 4, 2) := by decide +kernel
theorem dX10_kin_29 : decode cX10_kin 29 = .ok (.if_icmp .eq 61, 3) := by decide +kernel
theorem dX10_kin_32 : decode cX10_kin 32 = .ok (.iload_n 3, 1) := by decide +kernel
theorem dX10_kin_33 : decode cX10_kin 33 = .ok (.iload 4, 2) := by decide +kernel
theorem dX10_kin_35 : decode cX10_kin 35 = .ok (.if_icmp .le 12, 3) := by decide +kernel
theorem dX10_kin_38 : decode cX10_kin 38 = .ok (.aload_n 0, 1) := by decide +kernel
theorem dX10_kin_39 : decode cX10_kin 39 = .ok (.iload_n 3, 1) := by decide +kernel
theorem dX10_kin_40 : decode cX10_kin 40 = .ok (.iconst 2, 1) := by decide +kernel
theorem dX10_kin_41 : decode cX10_kin 41 = .ok (.invokevirtual 45, 3) := by decide +kernel
theorem dX10_kin_44 : decode cX10_kin 44 = .ok (.goto 10, 3) := by decide +kernel
theorem dX10_kin_47 : decode cX10_kin 47 = .ok (.aload_n 0, 1) := by decide +kernel
theorem dX10_kin_48 : decode cX10_kin 48 = .ok (.iload 4, 2) := by decide +kernel
theorem dX10_kin_50 : decode cX10_kin 50 = .ok (.iconst 2, 1) := by decide +kernel
theorem dX10_kin_51 : decode cX10_kin 51 = .ok (.invokevirtual 45, 3) := by decide +kernel
theorem dX10_kin_54 : decode cX10_kin 54 = .ok (.bipush (-4), 2) := by decide +kernel
theorem dX10_kin_56 : decode cX10_kin 56 = .ok (.if_icmp .eq 34, 3) := by decide +kernel
theorem dX10_kin_59 : decode cX10_kin 59 = .ok (.iload_n 3, 1) := by decide +kernel
theorem dX10_kin_60 : decode cX10_kin 60 = .ok (.iload 4, 2) := by decide +kernel
theorem dX10_kin_62 : decode cX10_kin 62 = .ok (.if_icmp .le 13, 3) := by decide +kernel
theorem dX10_kin_65 : decode cX10_kin 65 = .ok (.aload_n 0, 1) := by decide +kernel
theorem dX10_kin_66 : decode cX10_kin 66 = .ok (.iload_n 3, 1) := by decide +kernel
theorem dX10_kin_67 : decode cX10_kin 67 = .ok (.iconst 2, 1) := by decide +kernel
theorem dX10_kin_68 : decode cX10_kin 68 = .ok (.invokevirtual 45, 3) := by decide +kernel
theorem dX10_kin_71 : decode cX10_kin 71 = .ok (.istore_n 3, 1) := by decide +kernel
theorem dX10_kin_72 : decode cX10_kin 72 = .ok (.goto 12, 3) := by decide +kernel
theorem dX10_kin_75 : decode cX10_kin 75 = .ok (.aload_n 0, 1) := by decide +kernel
theorem dX10_kin_76 : decode cX10_kin 76 = .ok (.iload 4, 2) := by decide +kernel
theorem dX10_kin_78 : decode cX10_kin 78 = .ok (.iconst 2, 1) := by decide +kernel
theorem dX10_kin_79 : decode cX10_kin 79 = .ok (.invokevirtual 45, 3) := by decide +kernel
theorem dX10_kin_82 : decode cX10_kin 82 = .ok (.istore 4, 2) := by decide +kernel
theorem dX10_kin_84 : decode cX10_kin 84 = .ok (.iinc 5 1, 3) := by decide +kernel
theorem dX10_kin_87 : decode cX10_kin 87 = .ok (.goto (-61), 3) := by decide +kernel
theorem dX10_kin_90 : decode cX10_kin 90 = .ok (.iload_n 3, 1) := by decide +kernel
theorem dX10_kin_91 : decode cX10_kin 91 = .ok (.iload 4, 2) := by decide +kernel
theorem dX10_kin_93 : decode cX10_kin 93 = .ok (.if_icmp .ne 8, 3) := by decide +kernel
theorem dX10_kin_96 : decode cX10_kin 96 = .ok (.iload 5, 2) := by decide +kernel
theorem dX10_kin_98 : decode cX10_kin 98 = .ok (.goto 5, 3) := by decide +kernel
theorem dX10_kin_101 : decode cX10_kin 101 = .ok (.bipush (-4), 2) := by decide +kernel
theorem dX10_kin_103 : decode cX10_kin 103 = .ok (.ireturn, 1) := by decide +kernel
theorem dX10_bearer_0 : decode cX10_bearer 0 = .ok (.iload_n 1, 1) := by decide +kernel
theorem dX10_bearer_1 : decode cX10_bearer 1 = .ok (.invokestatic 86, 3) := by decide +kernel
theorem dX10_bearer_4 : decode cX10_bearer 4 = .ok (.ifCond .eq 11, 3) := by decide +kernel
theorem dX10_bearer_7 : decode cX10_bearer 7 = .ok (.aload_n 0, 1) := by decide +kernel
theorem dX10_bearer_8 : decode cX10_bearer 8 = .ok (.iload_n 1, 1) := by decide +kernel
theorem dX10_bearer_9 : decode cX10_bearer 9 = .ok (.invokevirtual 89, 3) := by decide +kernel
theorem dX10_bearer_12 : decode cX10_bearer 12 = .ok (.goto 4, 3) := by decide +kernel
theorem dX10_bearer_15 : decode cX10_bearer 15 = .ok (.iconst (-1), 1) := by decide +kernel
theorem dX10_bearer_16 : decode cX10_bearer 16 = .ok (.ireturn, 1) := by decide +kernel
theorem dX10_fewest_0 : decode cX10_fewest 0 = .ok (.iconst 0, 1) := by decide +kernel
theorem dX10_fewest_1 : decode cX10_fewest 1 = .ok (.istore_n 3, 1) := by decide +kernel
theorem dX10_fewest_2 : decode cX10_fewest 2 = .ok (.iload_n 3, 1) := by decide +kernel
theorem dX10_fewest_3 : decode cX10_fewest 3 = .ok (.sipush 15625, 3) := by decide +kernel
theorem dX10_fewest_6 : decode cX10_fewest 6 = .ok (.if_icmp .ge 16, 3) := by decide +kernel
theorem dX10_fewest_9 : decode cX10_fewest 9 = .ok (.aload_n 0, 1) := by decide +kernel
theorem dX10_fewest_10 : decode cX10_fewest 10 = .ok (.getfield 35, 3) := by decide +kernel
theorem dX10_fewest_13 : decode cX10_fewest 13 = .ok (.iload_n 3, 1) := by decide +kernel
theorem dX10_fewest_14 : decode cX10_fewest 14 = .ok (.iconst (-1), 1) := by decide +kernel
theorem dX10_fewest_15 : decode cX10_fewest 15 = .ok (.iastore, 1) := by decide +kernel
theorem dX10_fewest_16 : decode cX10_fewest 16 = .ok (.iinc 3 1, 3) := by decide +kernel
theorem dX10_fewest_19 : decode cX10_fewest 19 = .ok (.goto (-17), 3) := by decide +kernel
theorem dX10_fewest_22 : decode cX10_fewest 22 = .ok (.iconst 0, 1) := by decide +kernel
theorem dX10_fewest_23 : decode cX10_fewest 23 = .ok (.istore_n 3, 1) := by decide +kernel
theorem dX10_fewest_24 : decode cX10_fewest 24 = .ok (.iload_n 3, 1) := by decide +kernel
theorem dX10_fewest_25 : decode cX10_fewest 25 = .ok (.aload_n 0, 1) := by decide +kernel
theorem dX10_fewest_26 : decode cX10_fewest 26 = .ok (.getfield 7, 3) := by decide +kernel
theorem dX10_fewest_29 : decode cX10_fewest 29 = .ok (.iconst 0, 1) := by decide +kernel
theorem dX10_fewest_30 : decode cX10_fewest 30 = .ok (.iaload, 1) := by decide +kernel
theorem dX10_fewest_31 : decode cX10_fewest 31 = .ok (.if_icmp .ge 44, 3) := by decide +kernel
theorem dX10_fewest_34 : decode cX10_fewest 34 = .ok (.aload_n 0, 1) := by decide +kernel
theorem dX10_fewest_35 : decode cX10_fewest 35 = .ok (.getfield 35, 3) := by decide +kernel
theorem dX10_fewest_38 : decode cX10_fewest 38 = .ok (.aload_n 0, 1) := by decide +kernel
theorem dX10_fewest_39 : decode cX10_fewest 39 = .ok (.iload_n 3, 1) := by decide +kernel
theorem dX10_fewest_40 : decode cX10_fewest 40 = .ok (.iconst 0, 1) := by decide +kernel
theorem dX10_fewest_41 : decode cX10_fewest 41 = .ok (.invokevirtual 45, 3) := by decide +kernel
theorem dX10_fewest_44 : decode cX10_fewest 44 = .ok (.aload_n 0, 1) := by decide +kernel
theorem dX10_fewest_45 : decode cX10_fewest 45 = .ok (.iload_n 3, 1) := by decide +kernel
theorem dX10_fewest_46 : decode cX10_fewest 46 = .ok (.invokevirtual 56, 3) := by decide +kernel
theorem dX10_fewest_49 : decode cX10_fewest 49 = .ok (.ifCond .eq 8, 3) := by decide +kernel
theorem dX10_fewest_52 : decode cX10_fewest 52 = .ok (.bipush (-2), 2) := by decide +kernel
theorem dX10_fewest_54 : decode cX10_fewest 54 = .ok (.goto 14, 3) := by decide +kernel
theorem dX10_fewest_57 : decode cX10_fewest 57 = .ok (.aload_n 0, 1) := by decide +kernel
theorem dX10_fewest_58 : decode cX10_fewest 58 = .ok (.getfield 35, 3) := by decide +kernel
theorem dX10_fewest_61 : decode cX10_fewest 61 = .ok (.aload_n 0, 1) := by decide +kernel
theorem dX10_fewest_62 : decode cX10_fewest 62 = .ok (.iload_n 3, 1) := by decide +kernel
theorem dX10_fewest_63 : decode cX10_fewest 63 = .ok (.iconst 0, 1) := by decide +kernel
theorem dX10_fewest_64 : decode cX10_fewest 64 = .ok (.invokevirtual 45, 3) := by decide +kernel
theorem dX10_fewest_67 : decode cX10_fewest 67 = .ok (.iaload, 1) := by decide +kernel
theorem dX10_fewest_68 : decode cX10_fewest 68 = .ok (.iastore, 1) := by decide +kernel
theorem dX10_fewest_69 : decode cX10_fewest 69 = .ok (.iinc 3 1, 3) := by decide +kernel
theorem dX10_fewest_72 : decode cX10_fewest 72 = .ok (.goto (-48), 3) := by decide +kernel
theorem dX10_fewest_75 : decode cX10_fewest 75 = .ok (.iconst 1, 1) := by decide +kernel
theorem dX10_fewest_76 : decode cX10_fewest 76 = .ok (.istore_n 3, 1) := by decide +kernel
theorem dX10_fewest_77 : decode cX10_fewest 77 = .ok (.aload_n 0, 1) := by decide +kernel
theorem dX10_fewest_78 : decode cX10_fewest 78 = .ok (.getfield 35, 3) := by decide +kernel
theorem dX10_fewest_81 : decode cX10_fewest 81 = .ok (.iload_n 1, 1) := by decide +kernel
theorem dX10_fewest_82 : decode cX10_fewest 82 = .ok (.iconst 0, 1) := by decide +kernel
theorem dX10_fewest_83 : decode cX10_fewest 83 = .ok (.iastore, 1) := by decide +kernel
theorem dX10_fewest_84 : decode cX10_fewest 84 = .ok (.aload_n 0, 1) := by decide +kernel
theorem dX10_fewest_85 : decode cX10_fewest 85 = .ok (.getfield 38, 3) := by decide +kernel
theorem dX10_fewest_88 : decode cX10_fewest 88 = .ok (.iconst 0, 1) := by decide +kernel
theorem dX10_fewest_89 : decode cX10_fewest 89 = .ok (.iload_n 1, 1) := by decide +kernel
theorem dX10_fewest_90 : decode cX10_fewest 90 = .ok (.iastore, 1) := by decide +kernel
theorem dX10_fewest_91 : decode cX10_fewest 91 = .ok (.iconst 0, 1) := by decide +kernel
theorem dX10_fewest_92 : decode cX10_fewest 92 = .ok (.istore 4, 2) := by decide +kernel
theorem dX10_fewest_94 : decode cX10_fewest 94 = .ok (.iload 4, 2) := by decide +kernel
theorem dX10_fewest_96 : decode cX10_fewest 96 = .ok (.iload_n 3, 1) := by decide +kernel
theorem dX10_fewest_97 : decode cX10_fewest 97 = .ok (.if_icmp .ge 98, 3) := by decide +kernel
theorem dX10_fewest_100 : decode cX10_fewest 100 = .ok (.aload_n 0, 1) := by decide +kernel
theorem dX10_fewest_101 : decode cX10_fewest 101 = .ok (.getfield 35, 3) := by decide +kernel
theorem dX10_fewest_104 : decode cX10_fewest 104 = .ok (.iload_n 2, 1) := by decide +kernel
theorem dX10_fewest_105 : decode cX10_fewest 105 = .ok (.iaload, 1) := by decide +kernel
theorem dX10_fewest_106 : decode cX10_fewest 106 = .ok (.iconst (-1), 1) := by decide +kernel
theorem dX10_fewest_107 : decode cX10_fewest 107 = .ok (.if_icmp .ne 88, 3) := by decide +kernel
theorem dX10_fewest_110 : decode cX10_fewest 110 = .ok (.iconst 0, 1) := by decide +kernel
theorem dX10_fewest_111 : decode cX10_fewest 111 = .ok (.istore 5, 2) := by decide +kernel
theorem dX10_fewest_113 : decode cX10_fewest 113 = .ok (.iload 5, 2) := by decide +kernel
theorem dX10_fewest_115 : decode cX10_fewest 115 = .ok (.bipush 30, 2) := by decide +kernel
theorem dX10_fewest_117 : decode cX10_fewest 117 = .ok (.if_icmp .ge 72, 3) := by decide +kernel
theorem dX10_fewest_120 : decode cX10_fewest 120 = .ok (.aload_n 0, 1) := by decide +kernel
theorem dX10_fewest_121 : decode cX10_fewest 121 = .ok (.getfield 38, 3) := by decide +kernel
theorem dX10_fewest_124 : decode cX10_fewest 124 = .ok (.iload 4, 2) := by decide +kernel
theorem dX10_fewest_126 : decode cX10_fewest 126 = .ok (.iaload, 1) := by decide +kernel
theorem dX10_fewest_127 : decode cX10_fewest 127 = .ok (.iload 5, 2) := by decide +kernel
theorem dX10_fewest_129 : decode cX10_fewest 129 = .ok (.iconst 5, 1) := by decide +kernel
theorem dX10_fewest_130 : decode cX10_fewest 130 = .ok (.idiv, 1) := by decide +kernel
theorem dX10_fewest_131 : decode cX10_fewest 131 = .ok (.iload 5, 2) := by decide +kernel
theorem dX10_fewest_133 : decode cX10_fewest 133 = .ok (.iconst 5, 1) := by decide +kernel
theorem dX10_fewest_134 : decode cX10_fewest 134 = .ok (.irem, 1) := by decide +kernel
theorem dX10_fewest_135 : decode cX10_fewest 135 = .ok (.invokestatic 105, 3) := by decide +kernel
theorem dX10_fewest_138 : decode cX10_fewest 138 = .ok (.istore 6, 2) := by decide +kernel
theorem dX10_fewest_140 : decode cX10_fewest 140 = .ok (.aload_n 0, 1) := by decide +kernel
theorem dX10_fewest_141 : decode cX10_fewest 141 = .ok (.getfield 35, 3) := by decide +kernel
theorem dX10_fewest_144 : decode cX10_fewest 144 = .ok (.iload 6, 2) := by decide +kernel
theorem dX10_fewest_146 : decode cX10_fewest 146 = .ok (.iaload, 1) := by decide +kernel
theorem dX10_fewest_147 : decode cX10_fewest 147 = .ok (.iconst (-1), 1) := by decide +kernel
theorem dX10_fewest_148 : decode cX10_fewest 148 = .ok (.if_icmp .ne 35, 3) := by decide +kernel
theorem dX10_fewest_151 : decode cX10_fewest 151 = .ok (.aload_n 0, 1) := by decide +kernel
theorem dX10_fewest_152 : decode cX10_fewest 152 = .ok (.getfield 35, 3) := by decide +kernel
theorem dX10_fewest_155 : decode cX10_fewest 155 = .ok (.iload 6, 2) := by decide +kernel
theorem dX10_fewest_157 : decode cX10_fewest 157 = .ok (.aload_n 0, 1) := by decide +kernel
theorem dX10_fewest_158 : decode cX10_fewest 158 = .ok (.getfield 35, 3) := by decide +kernel
theorem dX10_fewest_161 : decode cX10_fewest 161 = .ok (.aload_n 0, 1) := by decide +kernel
theorem dX10_fewest_162 : decode cX10_fewest 162 = .ok (.getfield 38, 3) := by decide +kernel
theorem dX10_fewest_165 : decode cX10_fewest 165 = .ok (.iload 4, 2) := by decide +kernel
theorem dX10_fewest_167 : decode cX10_fewest 167 = .ok (.iaload, 1) := by decide +kernel
theorem dX10_fewest_168 : decode cX10_fewest 168 = .ok (.iaload, 1) := by decide +kernel
theorem dX10_fewest_169 : decode cX10_fewest 169 = .ok (.iconst 1, 1) := by decide +kernel
theorem dX10_fewest_170 : decode cX10_fewest 170 = .ok (.iadd, 1) := by decide +kernel
theorem dX10_fewest_171 : decode cX10_fewest 171 = .ok (.iastore, 1) := by decide +kernel
theorem dX10_fewest_172 : decode cX10_fewest 172 = .ok (.aload_n 0, 1) := by decide +kernel
theorem dX10_fewest_173 : decode cX10_fewest 173 = .ok (.getfield 38, 3) := by decide +kernel
theorem dX10_fewest_176 : decode cX10_fewest 176 = .ok (.iload_n 3, 1) := by decide +kernel
theorem dX10_fewest_177 : decode cX10_fewest 177 = .ok (.iload 6, 2) := by decide +kernel
theorem dX10_fewest_179 : decode cX10_fewest 179 = .ok (.iastore, 1) := by decide +kernel
theorem dX10_fewest_180 : decode cX10_fewest 180 = .ok (.iinc 3 1, 3) := by decide +kernel
theorem dX10_fewest_183 : decode cX10_fewest 183 = .ok (.iinc 5 1, 3) := by decide +kernel
theorem dX10_fewest_186 : decode cX10_fewest 186 = .ok (.goto (-73), 3) := by decide +kernel
theorem dX10_fewest_189 : decode cX10_fewest 189 = .ok (.iinc 4 1, 3) := by decide +kernel
theorem dX10_fewest_192 : decode cX10_fewest 192 = .ok (.goto (-98), 3) := by decide +kernel
theorem dX10_fewest_195 : decode cX10_fewest 195 = .ok (.aload_n 0, 1) := by decide +kernel
theorem dX10_fewest_196 : decode cX10_fewest 196 = .ok (.getfield 35, 3) := by decide +kernel
theorem dX10_fewest_199 : decode cX10_fewest 199 = .ok (.iload_n 2, 1) := by decide +kernel
theorem dX10_fewest_200 : decode cX10_fewest 200 = .ok (.iaload, 1) := by decide +kernel
theorem dX10_fewest_201 : decode cX10_fewest 201 = .ok (.ifCond .ge 8, 3) := by decide +kernel
theorem dX10_fewest_204 : decode cX10_fewest 204 = .ok (.bipush (-4), 2) := by decide +kernel
theorem dX10_fewest_206 : decode cX10_fewest 206 = .ok (.goto 9, 3) := by decide +kernel
theorem dX10_fewest_209 : decode cX10_fewest 209 = .ok (.aload_n 0, 1) := by decide +kernel
theorem dX10_fewest_210 : decode cX10_fewest 210 = .ok (.getfield 35, 3) := by decide +kernel
theorem dX10_fewest_213 : decode cX10_fewest 213 = .ok (.iload_n 2, 1) := by decide +kernel
theorem dX10_fewest_214 : decode cX10_fewest 214 = .ok (.iaload, 1) := by decide +kernel
theorem dX10_fewest_215 : decode cX10_fewest 215 = .ok (.ireturn, 1) := by decide +kernel
theorem dX10_line_0 : decode cX10_line 0 = .ok (.aload_n 0, 1) := by decide +kernel
theorem dX10_line_1 : decode cX10_line 1 = .ok (.iload_n 1, 1) := by decide +kernel
theorem dX10_line_2 : decode cX10_line 2 = .ok (.invokevirtual 116, 3) := by decide +kernel
theorem dX10_line_5 : decode cX10_line 5 = .ok (.ifCond .eq 19, 3) := by decide +kernel
theorem dX10_line_8 : decode cX10_line 8 = .ok (.iload_n 2, 1) := by decide +kernel
theorem dX10_line_9 : decode cX10_line 9 = .ok (.invokestatic 86, 3) := by decide +kernel
theorem dX10_line_12 : decode cX10_line 12 = .ok (.ifCond .eq 12, 3) := by decide +kernel
theorem dX10_line_15 : decode cX10_line 15 = .ok (.iload_n 3, 1) := by decide +kernel
theorem dX10_line_16 : decode cX10_line 16 = .ok (.iconst 0, 1) := by decide +kernel
theorem dX10_line_17 : decode cX10_line 17 = .ok (.iconst 1, 1) := by decide +kernel
theorem dX10_line_18 : decode cX10_line 18 = .ok (.invokestatic 41, 3) := by decide +kernel
theorem dX10_line_21 : decode cX10_line 21 = .ok (.ifCond .ne 5, 3) := by decide +kernel
theorem dX10_line_24 : decode cX10_line 24 = .ok (.iconst (-1), 1) := by decide +kernel
theorem dX10_line_25 : decode cX10_line 25 = .ok (.ireturn, 1) := by decide +kernel
theorem dX10_line_26 : decode cX10_line 26 = .ok (.aload_n 0, 1) := by decide +kernel
theorem dX10_line_27 : decode cX10_line 27 = .ok (.iload_n 1, 1) := by decide +kernel
theorem dX10_line_28 : decode cX10_line 28 = .ok (.invokevirtual 56, 3) := by decide +kernel
theorem dX10_line_31 : decode cX10_line 31 = .ok (.ifCond .eq 17, 3) := by decide +kernel
theorem dX10_line_34 : decode cX10_line 34 = .ok (.aload_n 0, 1) := by decide +kernel
theorem dX10_line_35 : decode cX10_line 35 = .ok (.aload_n 0, 1) := by decide +kernel
theorem dX10_line_36 : decode cX10_line 36 = .ok (.iload_n 1, 1) := by decide +kernel
theorem dX10_line_37 : decode cX10_line 37 = .ok (.iconst 0, 1) := by decide +kernel
theorem dX10_line_38 : decode cX10_line 38 = .ok (.invokevirtual 45, 3) := by decide +kernel
theorem dX10_line_41 : decode cX10_line 41 = .ok (.iload_n 2, 1) := by decide +kernel
theorem dX10_line_42 : decode cX10_line 42 = .ok (.invokevirtual 204, 3) := by decide +kernel
theorem dX10_line_45 : decode cX10_line 45 = .ok (.goto 5, 3) := by decide +kernel
theorem dX10_line_48 : decode cX10_line 48 = .ok (.bipush (-2), 2) := by decide +kernel
theorem dX10_line_50 : decode cX10_line 50 = .ok (.ireturn, 1) := by decide +kernel
theorem dX10_isConfused_0 : decode cX10_isConfused 0 = .ok (.aload_n 0, 1) := by decide +kernel
theorem dX10_isConfused_1 : decode cX10_isConfused 1 = .ok (.iload_n 1, 1) := by decide +kernel
theorem dX10_isConfused_2 : decode cX10_isConfused 2 = .ok (.iconst 2, 1) := by decide +kernel
theorem dX10_isConfused_3 : decode cX10_isConfused 3 = .ok (.invokevirtual 45, 3) := by decide +kernel
theorem dX10_isConfused_6 : decode cX10_isConfused 6 = .ok (.iload_n 2, 1) := by decide +kernel
theorem dX10_isConfused_7 : decode cX10_isConfused 7 = .ok (.if_icmp .eq 13, 3) := by decide +kernel
theorem dX10_isConfused_10 : decode cX10_isConfused 10 = .ok (.aload_n 0, 1) := by decide +kernel
theorem dX10_isConfused_11 : decode cX10_isConfused 11 = .ok (.iload_n 2, 1) := by decide +kernel
theorem dX10_isConfused_12 : decode cX10_isConfused 12 = .ok (.iconst 2, 1) := by decide +kernel
theorem dX10_isConfused_13 : decode cX10_isConfused 13 = .ok (.invokevirtual 45, 3) := by decide +kernel
theorem dX10_isConfused_16 : decode cX10_isConfused 16 = .ok (.iload_n 1, 1) := by decide +kernel
theorem dX10_isConfused_17 : decode cX10_isConfused 17 = .ok (.if_icmp .ne 7, 3) := by decide +kernel
theorem dX10_isConfused_20 : decode cX10_isConfused 20 = .ok (.iconst 1, 1) := by decide +kernel
theorem dX10_isConfused_21 : decode cX10_isConfused 21 = .ok (.goto 4, 3) := by decide +kernel
theorem dX10_isConfused_24 : decode cX10_isConfused 24 = .ok (.iconst 0, 1) := by decide +kernel
theorem dX10_isConfused_25 : decode cX10_isConfused 25 = .ok (.istore_n 3, 1) := by decide +kernel
theorem dX10_isConfused_26 : decode cX10_isConfused 26 = .ok (.aload_n 0, 1) := by decide +kernel
theorem dX10_isConfused_27 : decode cX10_isConfused 27 = .ok (.iload_n 1, 1) := by decide +kernel
theorem dX10_isConfused_28 : decode cX10_isConfused 28 = .ok (.invokevirtual 56, 3) := by decide +kernel
theorem dX10_isConfused_31 : decode cX10_isConfused 31 = .ok (.ifCond .eq 38, 3) := by decide +kernel
theorem dX10_isConfused_34 : decode cX10_isConfused 34 = .ok (.aload_n 0, 1) := by decide +kernel
theorem dX10_isConfused_35 : decode cX10_isConfused 35 = .ok (.iload_n 2, 1) := by decide +kernel
theorem dX10_isConfused_36 : decode cX10_isConfused 36 = .ok (.invokevirtual 56, 3) := by decide +kernel
theorem dX10_isConfused_39 : decode cX10_isConfused 39 = .ok (.ifCond .eq 30, 3) := by decide +kernel
theorem dX10_isConfused_42 : decode cX10_isConfused 42 = .ok (.iload_n 3, 1) := by decide +kernel
theorem dX10_isConfused_43 : decode cX10_isConfused 43 = .ok (.ifCond .ne 26, 3) := by decide +kernel
theorem dX10_isConfused_46 : decode cX10_isConfused 46 = .ok (.aload_n 0, 1) := by decide +kernel
theorem dX10_isConfused_47 : decode cX10_isConfused 47 = .ok (.iload_n 1, 1) := by decide +kernel
theorem dX10_isConfused_48 : decode cX10_isConfused 48 = .ok (.iconst 0, 1) := by decide +kernel
theorem dX10_isConfused_49 : decode cX10_isConfused 49 = .ok (.invokevirtual 45, 3) := by decide +kernel
theorem dX10_isConfused_52 : decode cX10_isConfused 52 = .ok (.aload_n 0, 1) := by decide +kernel
theorem dX10_isConfused_53 : decode cX10_isConfused 53 = .ok (.iload_n 2, 1) := by decide +kernel
theorem dX10_isConfused_54 : decode cX10_isConfused 54 = .ok (.iconst 0, 1) := by decide +kernel
theorem dX10_isConfused_55 : decode cX10_isConfused 55 = .ok (.invokevirtual 45, 3) := by decide +kernel
theorem dX10_isConfused_58 : decode cX10_isConfused 58 = .ok (.invokestatic 137, 3) := by decide +kernel
theorem dX10_isConfused_61 : decode cX10_isConfused 61 = .ok (.iconst 1, 1) := by decide +kernel
theorem dX10_isConfused_62 : decode cX10_isConfused 62 = .ok (.if_icmp .ne 7, 3) := by decide +kernel
theorem dX10_isConfused_65 : decode cX10_isConfused 65 = .ok (.iconst 1, 1) := by decide +kernel
theorem dX10_isConfused_66 : decode cX10_isConfused 66 = .ok (.goto 4, 3) := by decide +kernel
theorem dX10_isConfused_69 : decode cX10_isConfused 69 = .ok (.iconst 0, 1) := by decide +kernel
theorem dX10_isConfused_70 : decode cX10_isConfused 70 = .ok (.ireturn, 1) := by decide +kernel
theorem dX10_confused_0 : decode cX10_confused 0 = .ok (.iconst 0, 1) := by decide +kernel
theorem dX10_confused_1 : decode cX10_confused 1 = .ok (.istore_n 1, 1) := by decide +kernel
theorem dX10_confused_2 : decode cX10_confused 2 = .ok (.iconst 0, 1) := by decide +kernel
theorem dX10_confused_3 : decode cX10_confused 3 = .ok (.istore_n 2, 1) := by decide +kernel
theorem dX10_confused_4 : decode cX10_confused 4 = .ok (.iload_n 2, 1) := by decide +kernel
theorem dX10_confused_5 : decode cX10_confused 5 = .ok (.aload_n 0, 1) := by decide +kernel
theorem dX10_confused_6 : decode cX10_confused 6 = .ok (.getfield 7, 3) := by decide +kernel
theorem dX10_confused_9 : decode cX10_confused 9 = .ok (.iconst 0, 1) := by decide +kernel
theorem dX10_confused_10 : decode cX10_confused 10 = .ok (.iaload, 1) := by decide +kernel
theorem dX10_confused_11 : decode cX10_confused 11 = .ok (.if_icmp .ge 46, 3) := by decide +kernel
theorem dX10_confused_14 : decode cX10_confused 14 = .ok (.iload_n 2, 1) := by decide +kernel
theorem dX10_confused_15 : decode cX10_confused 15 = .ok (.iconst 1, 1) := by decide +kernel
theorem dX10_confused_16 : decode cX10_confused 16 = .ok (.iadd, 1) := by decide +kernel
theorem dX10_confused_17 : decode cX10_confused 17 = .ok (.istore_n 3, 1) := by decide +kernel
theorem dX10_confused_18 : decode cX10_confused 18 = .ok (.iload_n 3, 1) := by decide +kernel
theorem dX10_confused_19 : decode cX10_confused 19 = .ok (.aload_n 0, 1) := by decide +kernel
theorem dX10_confused_20 : decode cX10_confused 20 = .ok (.getfield 7, 3) := by decide +kernel
theorem dX10_confused_23 : decode cX10_confused 23 = .ok (.iconst 0, 1) := by decide +kernel
theorem dX10_confused_24 : decode cX10_confused 24 = .ok (.iaload, 1) := by decide +kernel
theorem dX10_confused_25 : decode cX10_confused 25 = .ok (.if_icmp .ge 26, 3) := by decide +kernel
theorem dX10_confused_28 : decode cX10_confused 28 = .ok (.iload_n 1, 1) := by decide +kernel
theorem dX10_confused_29 : decode cX10_confused 29 = .ok (.aload_n 0, 1) := by decide +kernel
theorem dX10_confused_30 : decode cX10_confused 30 = .ok (.iload_n 2, 1) := by decide +kernel
theorem dX10_confused_31 : decode cX10_confused 31 = .ok (.iload_n 3, 1) := by decide +kernel
theorem dX10_confused_32 : decode cX10_confused 32 = .ok (.invokevirtual 207, 3) := by decide +kernel
theorem dX10_confused_35 : decode cX10_confused 35 = .ok (.ifCond .eq 7, 3) := by decide +kernel
theorem dX10_confused_38 : decode cX10_confused 38 = .ok (.iconst 1, 1) := by decide +kernel
theorem dX10_confused_39 : decode cX10_confused 39 = .ok (.goto 4, 3) := by decide +kernel
theorem dX10_confused_42 : decode cX10_confused 42 = .ok (.iconst 0, 1) := by decide +kernel
theorem dX10_confused_43 : decode cX10_confused 43 = .ok (.iadd, 1) := by decide +kernel
theorem dX10_confused_44 : decode cX10_confused 44 = .ok (.istore_n 1, 1) := by decide +kernel
theorem dX10_confused_45 : decode cX10_confused 45 = .ok (.iinc 3 1, 3) := by decide +kernel
theorem dX10_confused_48 : decode cX10_confused 48 = .ok (.goto (-30), 3) := by decide +kernel
theorem dX10_confused_51 : decode cX10_confused 51 = .ok (.iinc 2 1, 3) := by decide +kernel
theorem dX10_confused_54 : decode cX10_confused 54 = .ok (.goto (-50), 3) := by decide +kernel
theorem dX10_confused_57 : decode cX10_confused 57 = .ok (.iload_n 1, 1) := by decide +kernel
theorem dX10_confused_58 : decode cX10_confused 58 = .ok (.ireturn, 1) := by decide +kernel
theorem dX10_founders_0 : decode cX10_founders 0 = .ok (.iconst 0, 1) := by decide +kernel
theorem dX10_founders_1 : decode cX10_founders 1 = .ok (.istore_n 1, 1) := by decide +kernel
theorem dX10_founders_2 : decode cX10_founders 2 = .ok (.iconst 0, 1) := by decide +kernel
theorem dX10_founders_3 : decode cX10_founders 3 = .ok (.istore_n 2, 1) := by decide +kernel
theorem dX10_founders_4 : decode cX10_founders 4 = .ok (.iload_n 2, 1) := by decide +kernel
theorem dX10_founders_5 : decode cX10_founders 5 = .ok (.aload_n 0, 1) := by decide +kernel
theorem dX10_founders_6 : decode cX10_founders 6 = .ok (.getfield 7, 3) := by decide +kernel
theorem dX10_founders_9 : decode cX10_founders 9 = .ok (.iconst 0, 1) := by decide +kernel
theorem dX10_founders_10 : decode cX10_founders 10 = .ok (.iaload, 1) := by decide +kernel
theorem dX10_founders_11 : decode cX10_founders 11 = .ok (.if_icmp .ge 28, 3) := by decide +kernel
theorem dX10_founders_14 : decode cX10_founders 14 = .ok (.iload_n 1, 1) := by decide +kernel
theorem dX10_founders_15 : decode cX10_founders 15 = .ok (.aload_n 0, 1) := by decide +kernel
theorem dX10_founders_16 : decode cX10_founders 16 = .ok (.iload_n 2, 1) := by decide +kernel
theorem dX10_founders_17 : decode cX10_founders 17 = .ok (.iconst 2, 1) := by decide +kernel
theorem dX10_founders_18 : decode cX10_founders 18 = .ok (.invokevirtual 45, 3) := by decide +kernel
theorem dX10_founders_21 : decode cX10_founders 21 = .ok (.bipush (-4), 2) := by decide +kernel
theorem dX10_founders_23 : decode cX10_founders 23 = .ok (.if_icmp .ne 7, 3) := by decide +kernel
theorem dX10_founders_26 : decode cX10_founders 26 = .ok (.iconst 1, 1) := by decide +kernel
theorem dX10_founders_27 : decode cX10_founders 27 = .ok (.goto 4, 3) := by decide +kernel
theorem dX10_founders_30 : decode cX10_founders 30 = .ok (.iconst 0, 1) := by decide +kernel
theorem dX10_founders_31 : decode cX10_founders 31 = .ok (.iadd, 1) := by decide +kernel
theorem dX10_founders_32 : decode cX10_founders 32 = .ok (.istore_n 1, 1) := by decide +kernel
theorem dX10_founders_33 : decode cX10_founders 33 = .ok (.iinc 2 1, 3) := by decide +kernel
theorem dX10_founders_36 : decode cX10_founders 36 = .ok (.goto (-32), 3) := by decide +kernel
theorem dX10_founders_39 : decode cX10_founders 39 = .ok (.iload_n 1, 1) := by decide +kernel
theorem dX10_founders_40 : decode cX10_founders 40 = .ok (.ireturn, 1) := by decide +kernel
theorem dX10_deepest_0 : decode cX10_deepest 0 = .ok (.iconst 0, 1) := by decide +kernel
theorem dX10_deepest_1 : decode cX10_deepest 1 = .ok (.istore_n 1, 1) := by decide +kernel
theorem dX10_deepest_2 : decode cX10_deepest 2 = .ok (.iconst 0, 1) := by decide +kernel
theorem dX10_deepest_3 : decode cX10_deepest 3 = .ok (.istore_n 2, 1) := by decide +kernel
theorem dX10_deepest_4 : decode cX10_deepest 4 = .ok (.iload_n 2, 1) := by decide +kernel
theorem dX10_deepest_5 : decode cX10_deepest 5 = .ok (.aload_n 0, 1) := by decide +kernel
theorem dX10_deepest_6 : decode cX10_deepest 6 = .ok (.getfield 7, 3) := by decide +kernel
theorem dX10_deepest_9 : decode cX10_deepest 9 = .ok (.iconst 0, 1) := by decide +kernel
theorem dX10_deepest_10 : decode cX10_deepest 10 = .ok (.iaload, 1) := by decide +kernel
theorem dX10_deepest_11 : decode cX10_deepest 11 = .ok (.if_icmp .ge 28, 3) := by decide +kernel
theorem dX10_deepest_14 : decode cX10_deepest 14 = .ok (.aload_n 0, 1) := by decide +kernel
theorem dX10_deepest_15 : decode cX10_deepest 15 = .ok (.iload_n 2, 1) := by decide +kernel
theorem dX10_deepest_16 : decode cX10_deepest 16 = .ok (.invokevirtual 192, 3) := by decide +kernel
theorem dX10_deepest_19 : decode cX10_deepest 19 = .ok (.iload_n 1, 1) := by decide +kernel
theorem dX10_deepest_20 : decode cX10_deepest 20 = .ok (.if_icmp .le 11, 3) := by decide +kernel
theorem dX10_deepest_23 : decode cX10_deepest 23 = .ok (.aload_n 0, 1) := by decide +kernel
theorem dX10_deepest_24 : decode cX10_deepest 24 = .ok (.iload_n 2, 1) := by decide +kernel
theorem dX10_deepest_25 : decode cX10_deepest 25 = .ok (.invokevirtual 192, 3) := by decide +kernel
theorem dX10_deepest_28 : decode cX10_deepest 28 = .ok (.goto 4, 3) := by decide +kernel
theorem dX10_deepest_31 : decode cX10_deepest 31 = .ok (.iload_n 1, 1) := by decide +kernel
theorem dX10_deepest_32 : decode cX10_deepest 32 = .ok (.istore_n 1, 1) := by decide +kernel
theorem dX10_deepest_33 : decode cX10_deepest 33 = .ok (.iinc 2 1, 3) := by decide +kernel
theorem dX10_deepest_36 : decode cX10_deepest 36 = .ok (.goto (-32), 3) := by decide +kernel
theorem dX10_deepest_39 : decode cX10_deepest 39 = .ok (.iload_n 1, 1) := by decide +kernel
theorem dX10_deepest_40 : decode cX10_deepest 40 = .ok (.ireturn, 1) := by decide +kernel
theorem dX10_differentShields_0 : decode cX10_differentShields 0 = .ok (.iconst 0, 1) := by decide +kernel
theorem dX10_differentShields_1 : decode cX10_differentShields 1 = .ok (.istore_n 1, 1) := by decide +kernel
theorem dX10_differentShields_2 : decode cX10_differentShields 2 = .ok (.iconst 0, 1) := by decide +kernel
theorem dX10_differentShields_3 : decode cX10_differentShields 3 = .ok (.istore_n 2, 1) := by decide +kernel
theorem dX10_differentShields_4 : decode cX10_differentShields 4 = .ok (.iload_n 2, 1) := by decide +kernel
theorem dX10_differentShields_5 : decode cX10_differentShields 5 = .ok (.aload_n 0, 1) := by decide +kernel
theorem dX10_differentShields_6 : decode cX10_differentShields 6 = .ok (.getfield 7, 3) := by decide +kernel
theorem dX10_differentShields_9 : decode cX10_differentShields 9 = .ok (.iconst 0, 1) := by decide +kernel
theorem dX10_differentShields_10 : decode cX10_differentShields 10 = .ok (.iaload, 1) := by decide +kernel
theorem dX10_differentShields_11 : decode cX10_differentShields 11 = .ok (.if_icmp .ge 64, 3) := by decide +kernel
theorem dX10_differentShields_14 : decode cX10_differentShields 14 = .ok (.iconst 1, 1) := by decide +kernel
theorem dX10_differentShields_15 : decode cX10_differentShields 15 = .ok (.istore_n 3, 1) := by decide +kernel
theorem dX10_differentShields_16 : decode cX10_differentShields 16 = .ok (.iconst 0, 1) := by decide +kernel
theorem dX10_differentShields_17 : decode cX10_differentShields 17 = .ok (.istore 4, 2) := by decide +kernel
theorem dX10_differentShields_19 : decode cX10_differentShields 19 = .ok (.iload 4, 2) := by decide +kernel
theorem dX10_differentShields_21 : decode cX10_differentShields 21 = .ok (.iload_n 2, 1) := by decide +kernel
theorem dX10_differentShields_22 : decode cX10_differentShields 22 = .ok (.if_icmp .ge 35, 3) := by decide +kernel
theorem dX10_differentShields_25 : decode cX10_differentShields 25 = .ok (.iload_n 3, 1) := by decide +kernel
theorem dX10_differentShields_26 : decode cX10_differentShields 26 = .ok (.ifCond .eq 23, 3) := by decide +kernel
theorem dX10_differentShields_29 : decode cX10_differentShields 29 = .ok (.aload_n 0, 1) := by decide +kernel
theorem dX10_differentShields_30 : decode cX10_differentShields 30 = .ok (.iload 4, 2) := by decide +kernel
theorem dX10_differentShields_32 : decode cX10_differentShields 32 = .ok (.iconst 0, 1) := by decide +kernel
theorem dX10_differentShields_33 : decode cX10_differentShields 33 = .ok (.invokevirtual 45, 3) := by decide +kernel
theorem dX10_differentShields_36 : decode cX10_differentShields 36 = .ok (.aload_n 0, 1) := by decide +kernel
theorem dX10_differentShields_37 : decode cX10_differentShields 37 = .ok (.iload_n 2, 1) := by decide +kernel
theorem dX10_differentShields_38 : decode cX10_differentShields 38 = .ok (.iconst 0, 1) := by decide +kernel
theorem dX10_differentShields_39 : decode cX10_differentShields 39 = .ok (.invokevirtual 45, 3) := by decide +kernel
theorem dX10_differentShields_42 : decode cX10_differentShields 42 = .ok (.if_icmp .eq 7, 3) := by decide +kernel
theorem dX10_differentShields_45 : decode cX10_differentShields 45 = .ok (.iconst 1, 1) := by decide +kernel
theorem dX10_differentShields_46 : decode cX10_differentShields 46 = .ok (.goto 4, 3) := by decide +kernel
theorem dX10_differentShields_49 : decode cX10_differentShields 49 = .ok (.iconst 0, 1) := by decide +kernel
theorem dX10_differentShields_50 : decode cX10_differentShields 50 = .ok (.istore_n 3, 1) := by decide +kernel
theorem dX10_differentShields_51 : decode cX10_differentShields 51 = .ok (.iinc 4 1, 3) := by decide +kernel
theorem dX10_differentShields_54 : decode cX10_differentShields 54 = .ok (.goto (-35), 3) := by decide +kernel
theorem dX10_differentShields_57 : decode cX10_differentShields 57 = .ok (.iload_n 1, 1) := by decide +kernel
theorem dX10_differentShields_58 : decode cX10_differentShields 58 = .ok (.iload_n 3, 1) := by decide +kernel
theorem dX10_differentShields_59 : decode cX10_differentShields 59 = .ok (.ifCond .eq 7, 3) := by decide +kernel
theorem dX10_differentShields_62 : decode cX10_differentShields 62 = .ok (.iconst 1, 1) := by decide +kernel
theorem dX10_differentShields_63 : decode cX10_differentShields 63 = .ok (.goto 4, 3) := by decide +kernel
theorem dX10_differentShields_66 : decode cX10_differentShields 66 = .ok (.iconst 0, 1) := by decide +kernel
theorem dX10_differentShields_67 : decode cX10_differentShields 67 = .ok (.iadd, 1) := by decide +kernel
theorem dX10_differentShields_68 : decode cX10_differentShields 68 = .ok (.istore_n 1, 1) := by decide +kernel
theorem dX10_differentShields_69 : decode cX10_differentShields 69 = .ok (.iinc 2 1, 3) := by decide +kernel
theorem dX10_differentShields_72 : decode cX10_differentShields 72 = .ok (.goto (-68), 3) := by decide +kernel
theorem dX10_differentShields_75 : decode cX10_differentShields 75 = .ok (.iload_n 1, 1) := by decide +kernel
theorem dX10_differentShields_76 : decode cX10_differentShields 76 = .ok (.ireturn, 1) := by decide +kernel
theorem dX10_livingBy_0 : decode cX10_livingBy 0 = .ok (.iconst 0, 1) := by decide +kernel
theorem dX10_livingBy_1 : decode cX10_livingBy 1 = .ok (.istore_n 2, 1) := by decide +kernel
theorem dX10_livingBy_2 : decode cX10_livingBy 2 = .ok (.iconst 0, 1) := by decide +kernel
theorem dX10_livingBy_3 : decode cX10_livingBy 3 = .ok (.istore_n 3, 1) := by decide +kernel
theorem dX10_livingBy_4 : decode cX10_livingBy 4 = .ok (.iload_n 3, 1) := by decide +kernel
theorem dX10_livingBy_5 : decode cX10_livingBy 5 = .ok (.aload_n 0, 1) := by decide +kernel
theorem dX10_livingBy_6 : decode cX10_livingBy 6 = .ok (.getfield 7, 3) := by decide +kernel
theorem dX10_livingBy_9 : decode cX10_livingBy 9 = .ok (.iconst 0, 1) := by decide +kernel
theorem dX10_livingBy_10 : decode cX10_livingBy 10 = .ok (.iaload, 1) := by decide +kernel
theorem dX10_livingBy_11 : decode cX10_livingBy 11 = .ok (.if_icmp .ge 69, 3) := by decide +kernel
theorem dX10_livingBy_14 : decode cX10_livingBy 14 = .ok (.iload_n 1, 1) := by decide +kernel
theorem dX10_livingBy_15 : decode cX10_livingBy 15 = .ok (.bipush 6, 2) := by decide +kernel
theorem dX10_livingBy_17 : decode cX10_livingBy 17 = .ok (.if_icmp .ne 20, 3) := by decide +kernel
theorem dX10_livingBy_20 : decode cX10_livingBy 20 = .ok (.aload_n 0, 1) := by decide +kernel
theorem dX10_livingBy_21 : decode cX10_livingBy 21 = .ok (.iload_n 3, 1) := by decide +kernel
theorem dX10_livingBy_22 : decode cX10_livingBy 22 = .ok (.invokevirtual 195, 3) := by decide +kernel
theorem dX10_livingBy_25 : decode cX10_livingBy 25 = .ok (.iconst 1, 1) := by decide +kernel
theorem dX10_livingBy_26 : decode cX10_livingBy 26 = .ok (.if_icmp .le 7, 3) := by decide +kernel
theorem dX10_livingBy_29 : decode cX10_livingBy 29 = .ok (.iconst 1, 1) := by decide +kernel
theorem dX10_livingBy_30 : decode cX10_livingBy 30 = .ok (.goto 21, 3) := by decide +kernel
theorem dX10_livingBy_33 : decode cX10_livingBy 33 = .ok (.iconst 0, 1) := by decide +kernel
theorem dX10_livingBy_34 : decode cX10_livingBy 34 = .ok (.goto 17, 3) := by decide +kernel
theorem dX10_livingBy_37 : decode cX10_livingBy 37 = .ok (.aload_n 0, 1) := by decide +kernel
theorem dX10_livingBy_38 : decode cX10_livingBy 38 = .ok (.iload_n 3, 1) := by decide +kernel
theorem dX10_livingBy_39 : decode cX10_livingBy 39 = .ok (.iconst 0, 1) := by decide +kernel
theorem dX10_livingBy_40 : decode cX10_livingBy 40 = .ok (.invokevirtual 112, 3) := by decide +kernel
theorem dX10_livingBy_43 : decode cX10_livingBy 43 = .ok (.ifCond .ne 7, 3) := by decide +kernel
theorem dX10_livingBy_46 : decode cX10_livingBy 46 = .ok (.iconst 1, 1) := by decide +kernel
theorem dX10_livingBy_47 : decode cX10_livingBy 47 = .ok (.goto 4, 3) := by decide +kernel
theorem dX10_livingBy_50 : decode cX10_livingBy 50 = .ok (.iconst 0, 1) := by decide +kernel
theorem dX10_livingBy_51 : decode cX10_livingBy 51 = .ok (.istore 4, 2) := by decide +kernel
theorem dX10_livingBy_53 : decode cX10_livingBy 53 = .ok (.iload_n 2, 1) := by decide +kernel
theorem dX10_livingBy_54 : decode cX10_livingBy 54 = .ok (.aload_n 0, 1) := by decide +kernel
theorem dX10_livingBy_55 : decode cX10_livingBy 55 = .ok (.iload_n 3, 1) := by decide +kernel
theorem dX10_livingBy_56 : decode cX10_livingBy 56 = .ok (.invokevirtual 56, 3) := by decide +kernel
theorem dX10_livingBy_59 : decode cX10_livingBy 59 = .ok (.ifCond .eq 12, 3) := by decide +kernel
theorem dX10_livingBy_62 : decode cX10_livingBy 62 = .ok (.iload 4, 2) := by decide +kernel
theorem dX10_livingBy_64 : decode cX10_livingBy 64 = .ok (.ifCond .eq 7, 3) := by decide +kernel
theorem dX10_livingBy_67 : decode cX10_livingBy 67 = .ok (.iconst 1, 1) := by decide +kernel
theorem dX10_livingBy_68 : decode cX10_livingBy 68 = .ok (.goto 4, 3) := by decide +kernel
theorem dX10_livingBy_71 : decode cX10_livingBy 71 = .ok (.iconst 0, 1) := by decide +kernel
theorem dX10_livingBy_72 : decode cX10_livingBy 72 = .ok (.iadd, 1) := by decide +kernel
theorem dX10_livingBy_73 : decode cX10_livingBy 73 = .ok (.istore_n 2, 1) := by decide +kernel
theorem dX10_livingBy_74 : decode cX10_livingBy 74 = .ok (.iinc 3 1, 3) := by decide +kernel
theorem dX10_livingBy_77 : decode cX10_livingBy 77 = .ok (.goto (-73), 3) := by decide +kernel
theorem dX10_livingBy_80 : decode cX10_livingBy 80 = .ok (.iload_n 2, 1) := by decide +kernel
theorem dX10_livingBy_81 : decode cX10_livingBy 81 = .ok (.ireturn, 1) := by decide +kernel
theorem dX10_count_0 : decode cX10_count 0 = .ok (.iload_n 1, 1) := by decide +kernel
theorem dX10_count_1 : decode cX10_count 1 = .ok (.tableswitch 125 0 11 #[63, 70, 75, 80, 85, 90, 95, 95, 101, 108, 115, 120], 63) := by decide +kernel
theorem dX10_count_64 : decode cX10_count 64 = .ok (.aload_n 0, 1) := by decide +kernel
theorem dX10_count_65 : decode cX10_count 65 = .ok (.getfield 7, 3) := by decide +kernel
theorem dX10_count_68 : decode cX10_count 68 = .ok (.iconst 0, 1) := by decide +kernel
theorem dX10_count_69 : decode cX10_count 69 = .ok (.iaload, 1) := by decide +kernel
theorem dX10_count_70 : decode cX10_count 70 = .ok (.ireturn, 1) := by decide +kernel
theorem dX10_count_71 : decode cX10_count 71 = .ok (.aload_n 0, 1) := by decide +kernel
theorem dX10_count_72 : decode cX10_count 72 = .ok (.invokevirtual 71, 3) := by decide +kernel
theorem dX10_count_75 : decode cX10_count 75 = .ok (.ireturn, 1) := by decide +kernel
theorem dX10_count_76 : decode cX10_count 76 = .ok (.aload_n 0, 1) := by decide +kernel
theorem dX10_count_77 : decode cX10_count 77 = .ok (.invokevirtual 210, 3) := by decide +kernel
theorem dX10_count_80 : decode cX10_count 80 = .ok (.ireturn, 1) := by decide +kernel
theorem dX10_count_81 : decode cX10_count 81 = .ok (.aload_n 0, 1) := by decide +kernel
theorem dX10_count_82 : decode cX10_count 82 = .ok (.invokevirtual 213, 3) := by decide +kernel
theorem dX10_count_85 : decode cX10_count 85 = .ok (.ireturn, 1) := by decide +kernel
theorem dX10_count_86 : decode cX10_count 86 = .ok (.aload_n 0, 1) := by decide +kernel
theorem dX10_count_87 : decode cX10_count 87 = .ok (.invokevirtual 216, 3) := by decide +kernel
theorem dX10_count_90 : decode cX10_count 90 = .ok (.ireturn, 1) := by decide +kernel
theorem dX10_count_91 : decode cX10_count 91 = .ok (.aload_n 0, 1) := by decide +kernel
theorem dX10_count_92 : decode cX10_count 92 = .ok (.invokevirtual 219, 3) := by decide +kernel
theorem dX10_count_95 : decode cX10_count 95 = .ok (.ireturn, 1) := by decide +kernel
theorem dX10_count_96 : decode cX10_count 96 = .ok (.aload_n 0, 1) := by decide +kernel
theorem dX10_count_97 : decode cX10_count 97 = .ok (.iload_n 1, 1) := by decide +kernel
theorem dX10_count_98 : decode cX10_count 98 = .ok (.invokevirtual 222, 3) := by decide +kernel
theorem dX10_count_101 : decode cX10_count 101 = .ok (.ireturn, 1) := by decide +kernel
theorem dX10_count_102 : decode cX10_count 102 = .ok (.aload_n 0, 1) := by decide +kernel
theorem dX10_count_103 : decode cX10_count 103 = .ok (.getfield 7, 3) := by decide +kernel
theorem dX10_count_106 : decode cX10_count 106 = .ok (.iconst 2, 1) := by decide +kernel
theorem dX10_count_107 : decode cX10_count 107 = .ok (.iaload, 1) := by decide +kernel
theorem dX10_count_108 : decode cX10_count 108 = .ok (.ireturn, 1) := by decide +kernel
theorem dX10_count_109 : decode cX10_count 109 = .ok (.aload_n 0, 1) := by decide +kernel
theorem dX10_count_110 : decode cX10_count 110 = .ok (.getfield 7, 3) := by decide +kernel
theorem dX10_count_113 : decode cX10_count 113 = .ok (.iconst 1, 1) := by decide +kernel
theorem dX10_count_114 : decode cX10_count 114 = .ok (.iaload, 1) := by decide +kernel
theorem dX10_count_115 : decode cX10_count 115 = .ok (.ireturn, 1) := by decide +kernel
theorem dX10_count_116 : decode cX10_count 116 = .ok (.aload_n 0, 1) := by decide +kernel
theorem dX10_count_117 : decode cX10_count 117 = .ok (.getfield 146, 3) := by decide +kernel
theorem dX10_count_120 : decode cX10_count 120 = .ok (.ireturn, 1) := by decide +kernel
theorem dX10_count_121 : decode cX10_count 121 = .ok (.aload_n 0, 1) := by decide +kernel
theorem dX10_count_122 : decode cX10_count 122 = .ok (.getfield 60, 3) := by decide +kernel
theorem dX10_count_125 : decode cX10_count 125 = .ok (.ireturn, 1) := by decide +kernel
theorem dX10_count_126 : decode cX10_count 126 = .ok (.iconst (-1), 1) := by decide +kernel
theorem dX10_count_127 : decode cX10_count 127 = .ok (.ireturn, 1) := by decide +kernel
theorem dX10_borne_0 : decode cX10_borne 0 = .ok (.iload_n 1, 1) := by decide +kernel
theorem dX10_borne_1 : decode cX10_borne 1 = .ok (.iload_n 2, 1) := by decide +kernel
theorem dX10_borne_2 : decode cX10_borne 2 = .ok (.invokestatic 119, 3) := by decide +kernel
theorem dX10_borne_5 : decode cX10_borne 5 = .ok (.ifCond .ne 5, 3) := by decide +kernel
theorem dX10_borne_8 : decode cX10_borne 8 = .ok (.iconst (-1), 1) := by decide +kernel
theorem dX10_borne_9 : decode cX10_borne 9 = .ok (.ireturn, 1) := by decide +kernel
theorem dX10_borne_10 : decode cX10_borne 10 = .ok (.iconst 0, 1) := by decide +kernel
theorem dX10_borne_11 : decode cX10_borne 11 = .ok (.istore_n 3, 1) := by decide +kernel
theorem dX10_borne_12 : decode cX10_borne 12 = .ok (.iconst 0, 1) := by decide +kernel
theorem dX10_borne_13 : decode cX10_borne 13 = .ok (.istore 4, 2) := by decide +kernel
theorem dX10_borne_15 : decode cX10_borne 15 = .ok (.iload 4, 2) := by decide +kernel
theorem dX10_borne_17 : decode cX10_borne 17 = .ok (.aload_n 0, 1) := by decide +kernel
theorem dX10_borne_18 : decode cX10_borne 18 = .ok (.getfield 7, 3) := by decide +kernel
theorem dX10_borne_21 : decode cX10_borne 21 = .ok (.iconst 0, 1) := by decide +kernel
theorem dX10_borne_22 : decode cX10_borne 22 = .ok (.iaload, 1) := by decide +kernel
theorem dX10_borne_23 : decode cX10_borne 23 = .ok (.if_icmp .ge 41, 3) := by decide +kernel
theorem dX10_borne_26 : decode cX10_borne 26 = .ok (.iload_n 3, 1) := by decide +kernel
theorem dX10_borne_27 : decode cX10_borne 27 = .ok (.aload_n 0, 1) := by decide +kernel
theorem dX10_borne_28 : decode cX10_borne 28 = .ok (.iload 4, 2) := by decide +kernel
theorem dX10_borne_30 : decode cX10_borne 30 = .ok (.invokevirtual 56, 3) := by decide +kernel
theorem dX10_borne_33 : decode cX10_borne 33 = .ok (.ifCond .eq 22, 3) := by decide +kernel
theorem dX10_borne_36 : decode cX10_borne 36 = .ok (.aload_n 0, 1) := by decide +kernel
theorem dX10_borne_37 : decode cX10_borne 37 = .ok (.iload 4, 2) := by decide +kernel
theorem dX10_borne_39 : decode cX10_borne 39 = .ok (.iconst 0, 1) := by decide +kernel
theorem dX10_borne_40 : decode cX10_borne 40 = .ok (.invokevirtual 45, 3) := by decide +kernel
theorem dX10_borne_43 : decode cX10_borne 43 = .ok (.iload_n 1, 1) := by decide +kernel
theorem dX10_borne_44 : decode cX10_borne 44 = .ok (.invokestatic 53, 3) := by decide +kernel
theorem dX10_borne_47 : decode cX10_borne 47 = .ok (.iload_n 2, 1) := by decide +kernel
theorem dX10_borne_48 : decode cX10_borne 48 = .ok (.if_icmp .ne 7, 3) := by decide +kernel
theorem dX10_borne_51 : decode cX10_borne 51 = .ok (.iconst 1, 1) := by decide +kernel
theorem dX10_borne_52 : decode cX10_borne 52 = .ok (.goto 4, 3) := by decide +kernel
theorem dX10_borne_55 : decode cX10_borne 55 = .ok (.iconst 0, 1) := by decide +kernel
theorem dX10_borne_56 : decode cX10_borne 56 = .ok (.iadd, 1) := by decide +kernel
theorem dX10_borne_57 : decode cX10_borne 57 = .ok (.istore_n 3, 1) := by decide +kernel
theorem dX10_borne_58 : decode cX10_borne 58 = .ok (.iinc 4 1, 3) := by decide +kernel
theorem dX10_borne_61 : decode cX10_borne 61 = .ok (.goto (-46), 3) := by decide +kernel
theorem dX10_borne_64 : decode cX10_borne 64 = .ok (.iload_n 3, 1) := by decide +kernel
theorem dX10_borne_65 : decode cX10_borne 65 = .ok (.ireturn, 1) := by decide +kernel
theorem dX10_unlike_0 : decode cX10_unlike 0 = .ok (.iconst 0, 1) := by decide +kernel
theorem dX10_unlike_1 : decode cX10_unlike 1 = .ok (.istore_n 1, 1) := by decide +kernel
theorem dX10_unlike_2 : decode cX10_unlike 2 = .ok (.iconst 0, 1) := by decide +kernel
theorem dX10_unlike_3 : decode cX10_unlike 3 = .ok (.istore_n 2, 1) := by decide +kernel
theorem dX10_unlike_4 : decode cX10_unlike 4 = .ok (.iconst 0, 1) := by decide +kernel
theorem dX10_unlike_5 : decode cX10_unlike 5 = .ok (.istore_n 3, 1) := by decide +kernel
theorem dX10_unlike_6 : decode cX10_unlike 6 = .ok (.iload_n 3, 1) := by decide +kernel
theorem dX10_unlike_7 : decode cX10_unlike 7 = .ok (.aload_n 0, 1) := by decide +kernel
theorem dX10_unlike_8 : decode cX10_unlike 8 = .ok (.getfield 7, 3) := by decide +kernel
theorem dX10_unlike_11 : decode cX10_unlike 11 = .ok (.iconst 0, 1) := by decide +kernel
theorem dX10_unlike_12 : decode cX10_unlike 12 = .ok (.iaload, 1) := by decide +kernel
theorem dX10_unlike_13 : decode cX10_unlike 13 = .ok (.if_icmp .ge 70, 3) := by decide +kernel
theorem dX10_unlike_16 : decode cX10_unlike 16 = .ok (.iload_n 3, 1) := by decide +kernel
theorem dX10_unlike_17 : decode cX10_unlike 17 = .ok (.iconst 1, 1) := by decide +kernel
theorem dX10_unlike_18 : decode cX10_unlike 18 = .ok (.iadd, 1) := by decide +kernel
theorem dX10_unlike_19 : decode cX10_unlike 19 = .ok (.istore 4, 2) := by decide +kernel
theorem dX10_unlike_21 : decode cX10_unlike 21 = .ok (.iload 4, 2) := by decide +kernel
theorem dX10_unlike_23 : decode cX10_unlike 23 = .ok (.aload_n 0, 1) := by decide +kernel
theorem dX10_unlike_24 : decode cX10_unlike 24 = .ok (.getfield 7, 3) := by decide +kernel
theorem dX10_unlike_27 : decode cX10_unlike 27 = .ok (.iconst 0, 1) := by decide +kernel
theorem dX10_unlike_28 : decode cX10_unlike 28 = .ok (.iaload, 1) := by decide +kernel
theorem dX10_unlike_29 : decode cX10_unlike 29 = .ok (.if_icmp .ge 48, 3) := by decide +kernel
theorem dX10_unlike_32 : decode cX10_unlike 32 = .ok (.aload_n 0, 1) := by decide +kernel
theorem dX10_unlike_33 : decode cX10_unlike 33 = .ok (.iload_n 3, 1) := by decide +kernel
theorem dX10_unlike_34 : decode cX10_unlike 34 = .ok (.invokevirtual 56, 3) := by decide +kernel
theorem dX10_unlike_37 : decode cX10_unlike 37 = .ok (.ifCond .eq 34, 3) := by decide +kernel
theorem dX10_unlike_40 : decode cX10_unlike 40 = .ok (.aload_n 0, 1) := by decide +kernel
theorem dX10_unlike_41 : decode cX10_unlike 41 = .ok (.iload 4, 2) := by decide +kernel
theorem dX10_unlike_43 : decode cX10_unlike 43 = .ok (.invokevirtual 56, 3) := by decide +kernel
theorem dX10_unlike_46 : decode cX10_unlike 46 = .ok (.ifCond .eq 25, 3) := by decide +kernel
theorem dX10_unlike_49 : decode cX10_unlike 49 = .ok (.iload_n 1, 1) := by decide +kernel
theorem dX10_unlike_50 : decode cX10_unlike 50 = .ok (.aload_n 0, 1) := by decide +kernel
theorem dX10_unlike_51 : decode cX10_unlike 51 = .ok (.iload_n 3, 1) := by decide +kernel
theorem dX10_unlike_52 : decode cX10_unlike 52 = .ok (.iconst 0, 1) := by decide +kernel
theorem dX10_unlike_53 : decode cX10_unlike 53 = .ok (.invokevirtual 45, 3) := by decide +kernel
theorem dX10_unlike_56 : decode cX10_unlike 56 = .ok (.aload_n 0, 1) := by decide +kernel
theorem dX10_unlike_57 : decode cX10_unlike 57 = .ok (.iload 4, 2) := by decide +kernel
theorem dX10_unlike_59 : decode cX10_unlike 59 = .ok (.iconst 0, 1) := by decide +kernel
theorem dX10_unlike_60 : decode cX10_unlike 60 = .ok (.invokevirtual 45, 3) := by decide +kernel
theorem dX10_unlike_63 : decode cX10_unlike 63 = .ok (.invokestatic 137, 3) := by decide +kernel
theorem dX10_unlike_66 : decode cX10_unlike 66 = .ok (.iadd, 1) := by decide +kernel
theorem dX10_unlike_67 : decode cX10_unlike 67 = .ok (.istore_n 1, 1) := by decide +kernel
theorem dX10_unlike_68 : decode cX10_unlike 68 = .ok (.iinc 2 1, 3) := by decide +kernel
theorem dX10_unlike_71 : decode cX10_unlike 71 = .ok (.iinc 4 1, 3) := by decide +kernel
theorem dX10_unlike_74 : decode cX10_unlike 74 = .ok (.goto (-53), 3) := by decide +kernel
theorem dX10_unlike_77 : decode cX10_unlike 77 = .ok (.iinc 3 1, 3) := by decide +kernel
theorem dX10_unlike_80 : decode cX10_unlike 80 = .ok (.goto (-74), 3) := by decide +kernel
theorem dX10_unlike_83 : decode cX10_unlike 83 = .ok (.iload_n 1, 1) := by decide +kernel
theorem dX10_unlike_84 : decode cX10_unlike 84 = .ok (.i2d, 1) := by decide +kernel
theorem dX10_unlike_85 : decode cX10_unlike 85 = .ok (.dstore_n 3, 1) := by decide +kernel
theorem dX10_unlike_86 : decode cX10_unlike 86 = .ok (.iload_n 2, 1) := by decide +kernel
theorem dX10_unlike_87 : decode cX10_unlike 87 = .ok (.i2d, 1) := by decide +kernel
theorem dX10_unlike_88 : decode cX10_unlike 88 = .ok (.dstore 5, 2) := by decide +kernel
theorem dX10_unlike_90 : decode cX10_unlike 90 = .ok (.iload_n 2, 1) := by decide +kernel
theorem dX10_unlike_91 : decode cX10_unlike 91 = .ok (.ifCond .ne 7, 3) := by decide +kernel
theorem dX10_unlike_94 : decode cX10_unlike 94 = .ok (.dconst 0, 1) := by decide +kernel
theorem dX10_unlike_95 : decode cX10_unlike 95 = .ok (.goto 7, 3) := by decide +kernel
theorem dX10_unlike_98 : decode cX10_unlike 98 = .ok (.dload_n 3, 1) := by decide +kernel
theorem dX10_unlike_99 : decode cX10_unlike 99 = .ok (.dload 5, 2) := by decide +kernel
theorem dX10_unlike_101 : decode cX10_unlike 101 = .ok (.ddiv, 1) := by decide +kernel
theorem dX10_unlike_102 : decode cX10_unlike 102 = .ok (.dreturn, 1) := by decide +kernel
theorem dX10_allChoices_0 : decode cX10_allChoices 0 = .ok (.iconst 0, 1) := by decide +kernel
theorem dX10_allChoices_1 : decode cX10_allChoices 1 = .ok (.istore_n 1, 1) := by decide +kernel
theorem dX10_allChoices_2 : decode cX10_allChoices 2 = .ok (.iconst 0, 1) := by decide +kernel
theorem dX10_allChoices_3 : decode cX10_allChoices 3 = .ok (.istore_n 2, 1) := by decide +kernel
theorem dX10_allChoices_4 : decode cX10_allChoices 4 = .ok (.iload_n 2, 1) := by decide +kernel
theorem dX10_allChoices_5 : decode cX10_allChoices 5 = .ok (.aload_n 0, 1) := by decide +kernel
theorem dX10_allChoices_6 : decode cX10_allChoices 6 = .ok (.getfield 7, 3) := by decide +kernel
theorem dX10_allChoices_9 : decode cX10_allChoices 9 = .ok (.iconst 0, 1) := by decide +kernel
theorem dX10_allChoices_10 : decode cX10_allChoices 10 = .ok (.iaload, 1) := by decide +kernel
theorem dX10_allChoices_11 : decode cX10_allChoices 11 = .ok (.if_icmp .ge 29, 3) := by decide +kernel
theorem dX10_allChoices_14 : decode cX10_allChoices 14 = .ok (.iload_n 1, 1) := by decide +kernel
theorem dX10_allChoices_15 : decode cX10_allChoices 15 = .ok (.aload_n 0, 1) := by decide +kernel
theorem dX10_allChoices_16 : decode cX10_allChoices 16 = .ok (.iload_n 2, 1) := by decide +kernel
theorem dX10_allChoices_17 : decode cX10_allChoices 17 = .ok (.invokevirtual 56, 3) := by decide +kernel
theorem dX10_allChoices_20 : decode cX10_allChoices 20 = .ok (.ifCond .eq 11, 3) := by decide +kernel
theorem dX10_allChoices_23 : decode cX10_allChoices 23 = .ok (.aload_n 0, 1) := by decide +kernel
theorem dX10_allChoices_24 : decode cX10_allChoices 24 = .ok (.iload_n 2, 1) := by decide +kernel
theorem dX10_allChoices_25 : decode cX10_allChoices 25 = .ok (.invokevirtual 198, 3) := by decide +kernel
theorem dX10_allChoices_28 : decode cX10_allChoices 28 = .ok (.goto 4, 3) := by decide +kernel
theorem dX10_allChoices_31 : decode cX10_allChoices 31 = .ok (.iconst 0, 1) := by decide +kernel
theorem dX10_allChoices_32 : decode cX10_allChoices 32 = .ok (.iadd, 1) := by decide +kernel
theorem dX10_allChoices_33 : decode cX10_allChoices 33 = .ok (.istore_n 1, 1) := by decide +kernel
theorem dX10_allChoices_34 : decode cX10_allChoices 34 = .ok (.iinc 2 1, 3) := by decide +kernel
theorem dX10_allChoices_37 : decode cX10_allChoices 37 = .ok (.goto (-33), 3) := by decide +kernel
theorem dX10_allChoices_40 : decode cX10_allChoices 40 = .ok (.iload_n 1, 1) := by decide +kernel
theorem dX10_allChoices_41 : decode cX10_allChoices 41 = .ok (.ireturn, 1) := by decide +kernel
theorem dX10_ifDead_0 : decode cX10_ifDead 0 = .ok (.aload_n 0, 1) := by decide +kernel
theorem dX10_ifDead_1 : decode cX10_ifDead 1 = .ok (.iload_n 1, 1) := by decide +kernel
theorem dX10_ifDead_2 : decode cX10_ifDead 2 = .ok (.invokevirtual 116, 3) := by decide +kernel
theorem dX10_ifDead_5 : decode cX10_ifDead 5 = .ok (.ifCond .eq 12, 3) := by decide +kernel
theorem dX10_ifDead_8 : decode cX10_ifDead 8 = .ok (.iload_n 2, 1) := by decide +kernel
theorem dX10_ifDead_9 : decode cX10_ifDead 9 = .ok (.iconst 0, 1) := by decide +kernel
theorem dX10_ifDead_10 : decode cX10_ifDead 10 = .ok (.iconst 2, 1) := by decide +kernel
theorem dX10_ifDead_11 : decode cX10_ifDead 11 = .ok (.invokestatic 41, 3) := by decide +kernel
theorem dX10_ifDead_14 : decode cX10_ifDead 14 = .ok (.ifCond .ne 5, 3) := by decide +kernel
theorem dX10_ifDead_17 : decode cX10_ifDead 17 = .ok (.iconst (-1), 1) := by decide +kernel
theorem dX10_ifDead_18 : decode cX10_ifDead 18 = .ok (.ireturn, 1) := by decide +kernel
theorem dX10_ifDead_19 : decode cX10_ifDead 19 = .ok (.aload_n 0, 1) := by decide +kernel
theorem dX10_ifDead_20 : decode cX10_ifDead 20 = .ok (.iload_n 1, 1) := by decide +kernel
theorem dX10_ifDead_21 : decode cX10_ifDead 21 = .ok (.invokevirtual 56, 3) := by decide +kernel
theorem dX10_ifDead_24 : decode cX10_ifDead 24 = .ok (.ifCond .ne 6, 3) := by decide +kernel
theorem dX10_ifDead_27 : decode cX10_ifDead 27 = .ok (.bipush (-2), 2) := by decide +kernel
theorem dX10_ifDead_29 : decode cX10_ifDead 29 = .ok (.ireturn, 1) := by decide +kernel
theorem dX10_ifDead_30 : decode cX10_ifDead 30 = .ok (.aload_n 0, 1) := by decide +kernel
theorem dX10_ifDead_31 : decode cX10_ifDead 31 = .ok (.iload_n 1, 1) := by decide +kernel
theorem dX10_ifDead_32 : decode cX10_ifDead 32 = .ok (.iconst 1, 1) := by decide +kernel
theorem dX10_ifDead_33 : decode cX10_ifDead 33 = .ok (.iconst 0, 1) := by decide +kernel
theorem dX10_ifDead_34 : decode cX10_ifDead 34 = .ok (.invokevirtual 82, 3) := by decide +kernel
theorem dX10_ifDead_37 : decode cX10_ifDead 37 = .ok (.iload_n 2, 1) := by decide +kernel
theorem dX10_ifDead_38 : decode cX10_ifDead 38 = .ok (.ifCond .ne 11, 3) := by decide +kernel
theorem dX10_ifDead_41 : decode cX10_ifDead 41 = .ok (.aload_n 0, 1) := by decide +kernel
theorem dX10_ifDead_42 : decode cX10_ifDead 42 = .ok (.iload_n 1, 1) := by decide +kernel
theorem dX10_ifDead_43 : decode cX10_ifDead 43 = .ok (.invokevirtual 134, 3) := by decide +kernel
theorem dX10_ifDead_46 : decode cX10_ifDead 46 = .ok (.goto 19, 3) := by decide +kernel
theorem dX10_ifDead_49 : decode cX10_ifDead 49 = .ok (.iload_n 2, 1) := by decide +kernel
theorem dX10_ifDead_50 : decode cX10_ifDead 50 = .ok (.iconst 1, 1) := by decide +kernel
theorem dX10_ifDead_51 : decode cX10_ifDead 51 = .ok (.if_icmp .ne 10, 3) := by decide +kernel
theorem dX10_ifDead_54 : decode cX10_ifDead 54 = .ok (.aload_n 0, 1) := by decide +kernel
theorem dX10_ifDead_55 : decode cX10_ifDead 55 = .ok (.invokevirtual 213, 3) := by decide +kernel
theorem dX10_ifDead_58 : decode cX10_ifDead 58 = .ok (.goto 7, 3) := by decide +kernel
theorem dX10_ifDead_61 : decode cX10_ifDead 61 = .ok (.aload_n 0, 1) := by decide +kernel
theorem dX10_ifDead_62 : decode cX10_ifDead 62 = .ok (.invokevirtual 225, 3) := by decide +kernel
theorem dX10_ifDead_65 : decode cX10_ifDead 65 = .ok (.istore_n 3, 1) := by decide +kernel
theorem dX10_ifDead_66 : decode cX10_ifDead 66 = .ok (.aload_n 0, 1) := by decide +kernel
theorem dX10_ifDead_67 : decode cX10_ifDead 67 = .ok (.iload_n 1, 1) := by decide +kernel
theorem dX10_ifDead_68 : decode cX10_ifDead 68 = .ok (.iconst 1, 1) := by decide +kernel
theorem dX10_ifDead_69 : decode cX10_ifDead 69 = .ok (.iconst 1, 1) := by decide +kernel
theorem dX10_ifDead_70 : decode cX10_ifDead 70 = .ok (.invokevirtual 82, 3) := by decide +kernel
theorem dX10_ifDead_73 : decode cX10_ifDead 73 = .ok (.iload_n 3, 1) := by decide +kernel
theorem dX10_ifDead_74 : decode cX10_ifDead 74 = .ok (.ireturn, 1) := by decide +kernel
theorem dL_law_0 : decode cL_law 0 = .ok (.new 7, 3) := by decide +kernel
theorem dL_law_3 : decode cL_law 3 = .ok (.dup, 1) := by decide +kernel
theorem dL_law_4 : decode cL_law 4 = .ok (.invokespecial 9, 3) := by decide +kernel
theorem dL_law_7 : decode cL_law 7 = .ok (.astore_n 1, 1) := by decide +kernel
theorem dL_law_8 : decode cL_law 8 = .ok (.new 10, 3) := by decide +kernel
theorem dL_law_11 : decode cL_law 11 = .ok (.dup, 1) := by decide +kernel
theorem dL_law_12 : decode cL_law 12 = .ok (.invokespecial 12, 3) := by decide +kernel
theorem dL_law_15 : decode cL_law 15 = .ok (.astore_n 2, 1) := by decide +kernel
theorem dL_law_16 : decode cL_law 16 = .ok (.iconst 0, 1) := by decide +kernel
theorem dL_law_17 : decode cL_law 17 = .ok (.istore_n 3, 1) := by decide +kernel
theorem dL_law_18 : decode cL_law 18 = .ok (.iload_n 3, 1) := by decide +kernel
theorem dL_law_19 : decode cL_law 19 = .ok (.aload_n 0, 1) := by decide +kernel
theorem dL_law_20 : decode cL_law 20 = .ok (.arraylength, 1) := by decide +kernel
theorem dL_law_21 : decode cL_law 21 = .ok (.iconst 4, 1) := by decide +kernel
theorem dL_law_22 : decode cL_law 22 = .ok (.isub, 1) := by decide +kernel
theorem dL_law_23 : decode cL_law 23 = .ok (.if_icmp .gt 794, 3) := by decide +kernel
theorem dL_law_26 : decode cL_law 26 = .ok (.aload_n 0, 1) := by decide +kernel
theorem dL_law_27 : decode cL_law 27 = .ok (.iload_n 3, 1) := by decide +kernel
theorem dL_law_28 : decode cL_law 28 = .ok (.iaload, 1) := by decide +kernel
theorem dL_law_29 : decode cL_law 29 = .ok (.bipush 31, 2) := by decide +kernel
theorem dL_law_31 : decode cL_law 31 = .ok (.iand, 1) := by decide +kernel
theorem dL_law_32 : decode cL_law 32 = .ok (.tableswitch 779 0 24 #[116, 139, 182, 205, 228, 251, 264, 277, 290, 313, 346, 379, 422, 455, 478, 511, 544, 567, 610, 633, 666, 707, 740, 753, 766], 116) := by decide +kernel
theorem dL_law_148 : decode cL_law 148 = .ok (.aload_n 1, 1) := by decide +kernel
theorem dL_law_149 : decode cL_law 149 = .ok (.aload_n 0, 1) := by decide +kernel
theorem dL_law_150 : decode cL_law 150 = .ok (.iload_n 3, 1) := by decide +kernel
theorem dL_law_151 : decode cL_law 151 = .ok (.iconst 1, 1) := by decide +kernel
theorem dL_law_152 : decode cL_law 152 = .ok (.iadd, 1) := by decide +kernel
theorem dL_law_153 : decode cL_law 153 = .ok (.iaload, 1) := by decide +kernel
theorem dL_law_154 : decode cL_law 154 = .ok (.invokevirtual 13, 3) := by decide +kernel
theorem dL_law_157 : decode cL_law 157 = .ok (.aload_n 2, 1) := by decide +kernel
theorem dL_law_158 : decode cL_law 158 = .ok (.aload_n 0, 1) := by decide +kernel
theorem dL_law_159 : decode cL_law 159 = .ok (.iload_n 3, 1) := by decide +kernel
theorem dL_law_160 : decode cL_law 160 = .ok (.iconst 1, 1) := by decide +kernel
theorem dL_law_161 : decode cL_law 161 = .ok (.iadd, 1) := by decide +kernel
theorem dL_law_162 : decode cL_law 162 = .ok (.iaload, 1) := by decide +kernel
theorem dL_law_163 : decode cL_law 163 = .ok (.invokevirtual 17, 3) := by decide +kernel
theorem dL_law_166 : decode cL_law 166 = .ok (.if_icmp .eq 645, 3) := by decide +kernel
theorem dL_law_169 : decode cL_law 169 = .ok (.iconst 0, 1) := by decide +kernel
theorem dL_law_170 : decode cL_law 170 = .ok (.ireturn, 1) := by decide +kernel
theorem dL_law_171 : decode cL_law 171 = .ok (.aload_n 1, 1) := by decide +kernel
theorem dL_law_172 : decode cL_law 172 = .ok (.aload_n 0, 1) := by decide +kernel
theorem dL_law_173 : decode cL_law 173 = .ok (.iload_n 3, 1) := by decide +kernel
theorem dL_law_174 : decode cL_law 174 = .ok (.iconst 1, 1) := by decide +kernel
theorem dL_law_175 : decode cL_law 175 = .ok (.iadd, 1) := by decide +kernel
theorem dL_law_176 : decode cL_law 176 = .ok (.iaload, 1) := by decide +kernel
theorem dL_law_177 : decode cL_law 177 = .ok (.aload_n 0, 1) := by decide +kernel
theorem dL_law_178 : decode cL_law 178 = .ok (.iload_n 3, 1) := by decide +kernel
theorem dL_law_179 : decode cL_law 179 = .ok (.iconst 2, 1) := by decide +kernel
theorem dL_law_180 : decode cL_law 180 = .ok (.iadd, 1) := by decide +kernel
theorem dL_law_181 : decode cL_law 181 = .ok (.iaload, 1) := by decide +kernel
theorem dL_law_182 : decode cL_law 182 = .ok (.aload_n 0, 1) := by decide +kernel
theorem dL_law_183 : decode cL_law 183 = .ok (.iload_n 3, 1) := by decide +kernel
theorem dL_law_184 : decode cL_law 184 = .ok (.iconst 3, 1) := by decide +kernel
theorem dL_law_185 : decode cL_law 185 = .ok (.iadd, 1) := by decide +kernel
theorem dL_law_186 : decode cL_law 186 = .ok (.iaload, 1) := by decide +kernel
theorem dL_law_187 : decode cL_law 187 = .ok (.invokevirtual 18, 3) := by decide +kernel
theorem dL_law_190 : decode cL_law 190 = .ok (.aload_n 2, 1) := by decide +kernel
theorem dL_law_191 : decode cL_law 191 = .ok (.aload_n 0, 1) := by decide +kernel
theorem dL_law_192 : decode cL_law 192 = .ok (.iload_n 3, 1) := by decide +kernel
theorem dL_law_193 : decode cL_law 193 = .ok (.iconst 1, 1) := by decide +kernel
theorem dL_law_194 : decode cL_law 194 = .ok (.iadd, 1) := by decide +kernel
theorem dL_law_195 : decode cL_law 195 = .ok (.iaload, 1) := by decide +kernel
theorem dL_law_196 : decode cL_law 196 = .ok (.aload_n 0, 1) := by decide +kernel
theorem dL_law_197 : decode cL_law 197 = .ok (.iload_n 3, 1) := by decide +kernel
theorem dL_law_198 : decode cL_law 198 = .ok (.iconst 2, 1) := by decide +kernel
theorem dL_law_199 : decode cL_law 199 = .ok (.iadd, 1) := by decide +kernel
theorem dL_law_200 : decode cL_law 200 = .ok (.iaload, 1) := by decide +kernel
theorem dL_law_201 : decode cL_law 201 = .ok (.aload_n 0, 1) := by decide +kernel
theorem dL_law_202 : decode cL_law 202 = .ok (.iload_n 3, 1) := by decide +kernel
theorem dL_law_203 : decode cL_law 203 = .ok (.iconst 3, 1) := by decide +kernel
theorem dL_law_204 : decode cL_law 204 = .ok (.iadd, 1) := by decide +kernel
theorem dL_law_205 : decode cL_law 205 = .ok (.iaload, 1) := by decide +kernel
theorem dL_law_206 : decode cL_law 206 = .ok (.invokevirtual 22, 3) := by decide +kernel
theorem dL_law_209 : decode cL_law 209 = .ok (.if_icmp .eq 602, 3) := by decide +kernel
theorem dL_law_212 : decode cL_law 212 = .ok (.iconst 0, 1) := by decide +kernel
theorem dL_law_213 : decode cL_law 213 = .ok (.ireturn, 1) := by decide +kernel
theorem dL_law_214 : decode cL_law 214 = .ok (.aload_n 1, 1) := by decide +kernel
theorem dL_law_215 : decode cL_law 215 = .ok (.aload_n 0, 1) := by decide +kernel
theorem dL_law_216 : decode cL_law 216 = .ok (.iload_n 3, 1) := by decide +kernel
theorem dL_law_217 : decode cL_law 217 = .ok (.iconst 1, 1) := by decide +kernel
theorem dL_law_218 : decode cL_law 218 = .ok (.iadd, 1) := by decide +kernel
theorem dL_law_219 : decode cL_law 219 = .ok (.iaload, 1) := by decide +kernel
theorem dL_law_220 : decode cL_law 220 = .ok (.invokevirtual 23, 3) := by decide +kernel
theorem dL_law_223 : decode cL_law 223 = .ok (.aload_n 2, 1) := by decide +kernel
theorem dL_law_224 : decode cL_law 224 = .ok (.aload_n 0, 1) := by decide +kernel
theorem dL_law_225 : decode cL_law 225 = .ok (.iload_n 3, 1) := by decide +kernel
theorem dL_law_226 : decode cL_law 226 = .ok (.iconst 1, 1) := by decide +kernel
theorem dL_law_227 : decode cL_law 227 = .ok (.iadd, 1) := by decide +kernel
theorem dL_law_228 : decode cL_law 228 = .ok (.iaload, 1) := by decide +kernel
theorem dL_law_229 : decode cL_law 229 = .ok (.invokevirtual 26, 3) := by decide +kernel
theorem dL_law_232 : decode cL_law 232 = .ok (.if_icmp .eq 579, 3) := by decide +kernel
theorem dL_law_235 : decode cL_law 235 = .ok (.iconst 0, 1) := by decide +kernel
theorem dL_law_236 : decode cL_law 236 = .ok (.ireturn, 1) := by decide +kernel
theorem dL_law_237 : decode cL_law 237 = .ok (.aload_n 1, 1) := by decide +kernel
theorem dL_law_238 : decode cL_law 238 = .ok (.aload_n 0, 1) := by decide +kernel
theorem dL_law_239 : decode cL_law 239 = .ok (.iload_n 3, 1) := by decide +kernel
theorem dL_law_240 : decode cL_law 240 = .ok (.iconst 1, 1) := by decide +kernel
theorem dL_law_241 : decode cL_law 241 = .ok (.iadd, 1) := by decide +kernel
theorem dL_law_242 : decode cL_law 242 = .ok (.iaload, 1) := by decide +kernel
theorem dL_law_243 : decode cL_law 243 = .ok (.invokevirtual 27, 3) := by decide +kernel
theorem dL_law_246 : decode cL_law 246 = .ok (.aload_n 2, 1) := by decide +kernel
theorem dL_law_247 : decode cL_law 247 = .ok (.aload_n 0, 1) := by decide +kernel
theorem dL_law_248 : decode cL_law 248 = .ok (.iload_n 3, 1) := by decide +kernel
theorem dL_law_249 : decode cL_law 249 = .ok (.iconst 1, 1) := by decide +kernel
theorem dL_law_250 : decode cL_law 250 = .ok (.iadd, 1) := by decide +kernel
theorem dL_law_251 : decode cL_law 251 = .ok (.iaload, 1) := by decide +kernel
theorem dL_law_252 : decode cL_law 252 = .ok (.invokevirtual 30, 3) := by decide +kernel
theorem dL_law_255 : decode cL_law 255 = .ok (.if_icmp .eq 556, 3) := by decide +kernel
theorem dL_law_258 : decode cL_law 258 = .ok (.iconst 0, 1) := by decide +kernel
theorem dL_law_259 : decode cL_law 259 = .ok (.ireturn, 1) := by decide +kernel
theorem dL_law_260 : decode cL_law 260 = .ok (.aload_n 1, 1) := by decide +kernel
theorem dL_law_261 : decode cL_law 261 = .ok (.aload_n 0, 1) := by decide +kernel
theorem dL_law_262 : decode cL_law 262 = .ok (.iload_n 3, 1) := by decide +kernel
theorem dL_law_263 : decode cL_law 263 = .ok (.iconst 1, 1) := by decide +kernel
theorem dL_law_264 : decode cL_law 264 = .ok (.iadd, 1) := by decide +kernel
theorem dL_law_265 : decode cL_law 265 = .ok (.iaload, 1) := by decide +kernel
theorem dL_law_266 : decode cL_law 266 = .ok (.invokevirtual 31, 3) := by decide +kernel
theorem dL_law_269 : decode cL_law 269 = .ok (.aload_n 2, 1) := by decide +kernel
theorem dL_law_270 : decode cL_law 270 = .ok (.aload_n 0, 1) := by decide +kernel
theorem dL_law_271 : decode cL_law 271 = .ok (.iload_n 3, 1) := by decide +kernel
theorem dL_law_272 : decode cL_law 272 = .ok (.iconst 1, 1) := by decide +kernel
theorem dL_law_273 : decode cL_law 273 = .ok (.iadd, 1) := by decide +kernel
theorem dL_law_274 : decode cL_law 274 = .ok (.iaload, 1) := by decide +kernel
theorem dL_law_275 : decode cL_law 275 = .ok (.invokevirtual 34, 3) := by decide +kernel
theorem dL_law_278 : decode cL_law 278 = .ok (.if_icmp .eq 533, 3) := by decide +kernel
theorem dL_law_281 : decode cL_law 281 = .ok (.iconst 0, 1) := by decide +kernel
theorem dL_law_282 : decode cL_law 282 = .ok (.ireturn, 1) := by decide +kernel
theorem dL_law_283 : decode cL_law 283 = .ok (.aload_n 1, 1) := by decide +kernel
theorem dL_law_284 : decode cL_law 284 = .ok (.invokevirtual 35, 3) := by decide +kernel
theorem dL_law_287 : decode cL_law 287 = .ok (.aload_n 2, 1) := by decide +kernel
theorem dL_law_288 : decode cL_law 288 = .ok (.invokevirtual 39, 3) := by decide +kernel
theorem dL_law_291 : decode cL_law 291 = .ok (.if_icmp .eq 520, 3) := by decide +kernel
theorem dL_law_294 : decode cL_law 294 = .ok (.iconst 0, 1) := by decide +kernel
theorem dL_law_295 : decode cL_law 295 = .ok (.ireturn, 1) := by decide +kernel
theorem dL_law_296 : decode cL_law 296 = .ok (.aload_n 1, 1) := by decide +kernel
theorem dL_law_297 : decode cL_law 297 = .ok (.invokevirtual 40, 3) := by decide +kernel
theorem dL_law_300 : decode cL_law 300 = .ok (.aload_n 2, 1) := by decide +kernel
theorem dL_law_301 : decode cL_law 301 = .ok (.invokevirtual 43, 3) := by decide +kernel
theorem dL_law_304 : decode cL_law 304 = .ok (.if_icmp .eq 507, 3) := by decide +kernel
theorem dL_law_307 : decode cL_law 307 = .ok (.iconst 0, 1) := by decide +kernel
theorem dL_law_308 : decode cL_law 308 = .ok (.ireturn, 1) := by decide +kernel
theorem dL_law_309 : decode cL_law 309 = .ok (.aload_n 1, 1) := by decide +kernel
theorem dL_law_310 : decode cL_law 310 = .ok (.invokevirtual 44, 3) := by decide +kernel
theorem dL_law_313 : decode cL_law 313 = .ok (.aload_n 2, 1) := by decide +kernel
theorem dL_law_314 : decode cL_law 314 = .ok (.invokevirtual 47, 3) := by decide +kernel
theorem dL_law_317 : decode cL_law 317 = .ok (.if_icmp .eq 494, 3) := by decide +kernel
theorem dL_law_320 : decode cL_law 320 = .ok (.iconst 0, 1) := by decide +kernel
theorem dL_law_321 : decode cL_law 321 = .ok (.ireturn, 1) := by decide +kernel
theorem dL_law_322 : decode cL_law 322 = .ok (.aload_n 1, 1) := by decide +kernel
theorem dL_law_323 : decode cL_law 323 = .ok (.aload_n 0, 1) := by decide +kernel
theorem dL_law_324 : decode cL_law 324 = .ok (.iload_n 3, 1) := by decide +kernel
theorem dL_law_325 : decode cL_law 325 = .ok (.iconst 1, 1) := by decide +kernel
theorem dL_law_326 : decode cL_law 326 = .ok (.iadd, 1) := by decide +kernel
theorem dL_law_327 : decode cL_law 327 = .ok (.iaload, 1) := by decide +kernel
theorem dL_law_328 : decode cL_law 328 = .ok (.invokevirtual 48, 3) := by decide +kernel
theorem dL_law_331 : decode cL_law 331 = .ok (.aload_n 2, 1) := by decide +kernel
theorem dL_law_332 : decode cL_law 332 = .ok (.aload_n 0, 1) := by decide +kernel
theorem dL_law_333 : decode cL_law 333 = .ok (.iload_n 3, 1) := by decide +kernel
theorem dL_law_334 : decode cL_law 334 = .ok (.iconst 1, 1) := by decide +kernel
theorem dL_law_335 : decode cL_law 335 = .ok (.iadd, 1) := by decide +kernel
theorem dL_law_336 : decode cL_law 336 = .ok (.iaload, 1) := by decide +kernel
theorem dL_law_337 : decode cL_law 337 = .ok (.invokevirtual 51, 3) := by decide +kernel
theorem dL_law_340 : decode cL_law 340 = .ok (.if_icmp .eq 471, 3) := by decide +kernel
theorem dL_law_343 : decode cL_law 343 = .ok (.iconst 0, 1) := by decide +kernel
theorem dL_law_344 : decode cL_law 344 = .ok (.ireturn, 1) := by decide +kernel
theorem dL_law_345 : decode cL_law 345 = .ok (.aload_n 1, 1) := by decide +kernel
theorem dL_law_346 : decode cL_law 346 = .ok (.aload_n 0, 1) := by decide +kernel
theorem dL_law_347 : decode cL_law 347 = .ok (.iload_n 3, 1) := by decide +kernel
theorem dL_law_348 : decode cL_law 348 = .ok (.iconst 1, 1) := by decide +kernel
theorem dL_law_349 : decode cL_law 349 = .ok (.iadd, 1) := by decide +kernel
theorem dL_law_350 : decode cL_law 350 = .ok (.iaload, 1) := by decide +kernel
theorem dL_law_351 : decode cL_law 351 = .ok (.aload_n 0, 1) := by decide +kernel
theorem dL_law_352 : decode cL_law 352 = .ok (.iload_n 3, 1) := by decide +kernel
theorem dL_law_353 : decode cL_law 353 = .ok (.iconst 2, 1) := by decide +kernel
theorem dL_law_354 : decode cL_law 354 = .ok (.iadd, 1) := by decide +kernel
theorem dL_law_355 : decode cL_law 355 = .ok (.iaload, 1) := by decide +kernel
theorem dL_law_356 : decode cL_law 356 = .ok (.invokevirtual 52, 3) := by decide +kernel
theorem dL_law_359 : decode cL_law 359 = .ok (.aload_n 2, 1) := by decide +kernel
theorem dL_law_360 : decode cL_law 360 = .ok (.aload_n 0, 1) := by decide +kernel
theorem dL_law_361 : decode cL_law 361 = .ok (.iload_n 3, 1) := by decide +kernel
theorem dL_law_362 : decode cL_law 362 = .ok (.iconst 1, 1) := by decide +kernel
theorem dL_law_363 : decode cL_law 363 = .ok (.iadd, 1) := by decide +kernel
theorem dL_law_364 : decode cL_law 364 = .ok (.iaload, 1) := by decide +kernel
theorem dL_law_365 : decode cL_law 365 = .ok (.aload_n 0, 1) := by decide +kernel
theorem dL_law_366 : decode cL_law 366 = .ok (.iload_n 3, 1) := by decide +kernel
theorem dL_law_367 : decode cL_law 367 = .ok (.iconst 2, 1) := by decide +kernel
theorem dL_law_368 : decode cL_law 368 = .ok (.iadd, 1) := by decide +kernel
theorem dL_law_369 : decode cL_law 369 = .ok (.iaload, 1) := by decide +kernel
theorem dL_law_370 : decode cL_law 370 = .ok (.invokevirtual 56, 3) := by decide +kernel
theorem dL_law_373 : decode cL_law 373 = .ok (.if_icmp .eq 438, 3) := by decide +kernel
theorem dL_law_376 : decode cL_law 376 = .ok (.iconst 0, 1) := by decide +kernel
theorem dL_law_377 : decode cL_law 377 = .ok (.ireturn, 1) := by decide +kernel
theorem dL_law_378 : decode cL_law 378 = .ok (.aload_n 1, 1) := by decide +kernel
theorem dL_law_379 : decode cL_law 379 = .ok (.aload_n 0, 1) := by decide +kernel
theorem dL_law_380 : decode cL_law 380 = .ok (.iload_n 3, 1) := by decide +kernel
theorem dL_law_381 : decode cL_law 381 = .ok (.iconst 1, 1) := by decide +kernel
theorem dL_law_382 : decode cL_law 382 = .ok (.iadd, 1) := by decide +kernel
theorem dL_law_383 : decode cL_law 383 = .ok (.iaload, 1) := by decide +kernel
theorem dL_law_384 : decode cL_law 384 = .ok (.aload_n 0, 1) := by decide +kernel
theorem dL_law_385 : decode cL_law 385 = .ok (.iload_n 3, 1) := by decide +kernel
theorem dL_law_386 : decode cL_law 386 = .ok (.iconst 2, 1) := by decide +kernel
theorem dL_law_387 : decode cL_law 387 = .ok (.iadd, 1) := by decide +kernel
theorem dL_law_388 : decode cL_law 388 = .ok (.iaload, 1) := by decide +kernel
theorem dL_law_389 : decode cL_law 389 = .ok (.invokevirtual 57, 3) := by decide +kernel
theorem dL_law_392 : decode cL_law 392 = .ok (.aload_n 2, 1) := by decide +kernel
theorem dL_law_393 : decode cL_law 393 = .ok (.aload_n 0, 1) := by decide +kernel
theorem dL_law_394 : decode cL_law 394 = .ok (.iload_n 3, 1) := by decide +kernel
theorem dL_law_395 : decode cL_law 395 = .ok (.iconst 1, 1) := by decide +kernel
theorem dL_law_396 : decode cL_law 396 = .ok (.iadd, 1) := by decide +kernel
theorem dL_law_397 : decode cL_law 397 = .ok (.iaload, 1) := by decide +kernel
theorem dL_law_398 : decode cL_law 398 = .ok (.aload_n 0, 1) := by decide +kernel
theorem dL_law_399 : decode cL_law 399 = .ok (.iload_n 3, 1) := by decide +kernel
theorem dL_law_400 : decode cL_law 400 = .ok (.iconst 2, 1) := by decide +kernel
theorem dL_law_401 : decode cL_law 401 = .ok (.iadd, 1) := by decide +kernel
theorem dL_law_402 : decode cL_law 402 = .ok (.iaload, 1) := by decide +kernel
theorem dL_law_403 : decode cL_law 403 = .ok (.invokevirtual 60, 3) := by decide +kernel
theorem dL_law_406 : decode cL_law 406 = .ok (.if_icmp .eq 405, 3) := by decide +kernel
theorem dL_law_409 : decode cL_law 409 = .ok (.iconst 0, 1) := by decide +kernel
theorem dL_law_410 : decode cL_law 410 = .ok (.ireturn, 1) := by decide +kernel
theorem dL_law_411 : decode cL_law 411 = .ok (.aload_n 1, 1) := by decide +kernel
theorem dL_law_412 : decode cL_law 412 = .ok (.aload_n 0, 1) := by decide +kernel
theorem dL_law_413 : decode cL_law 413 = .ok (.iload_n 3, 1) := by decide +kernel
theorem dL_law_414 : decode cL_law 414 = .ok (.iconst 1, 1) := by decide +kernel
theorem dL_law_415 : decode cL_law 415 = .ok (.iadd, 1) := by decide +kernel
theorem dL_law_416 : decode cL_law 416 = .ok (.iaload, 1) := by decide +kernel
theorem dL_law_417 : decode cL_law 417 = .ok (.aload_n 0, 1) := by decide +kernel
theorem dL_law_418 : decode cL_law 418 = .ok (.iload_n 3, 1) := by decide +kernel
theorem dL_law_419 : decode cL_law 419 = .ok (.iconst 2, 1) := by decide +kernel
theorem dL_law_420 : decode cL_law 420 = .ok (.iadd, 1) := by decide +kernel
theorem dL_law_421 : decode cL_law 421 = .ok (.iaload, 1) := by decide +kernel
theorem dL_law_422 : decode cL_law 422 = .ok (.aload_n 0, 1) := by decide +kernel
theorem dL_law_423 : decode cL_law 423 = .ok (.iload_n 3, 1) := by decide +kernel
theorem dL_law_424 : decode cL_law 424 = .ok (.iconst 3, 1) := by decide +kernel
theorem dL_law_425 : decode cL_law 425 = .ok (.iadd, 1) := by decide +kernel
theorem dL_law_426 : decode cL_law 426 = .ok (.iaload, 1) := by decide +kernel
theorem dL_law_427 : decode cL_law 427 = .ok (.invokevirtual 61, 3) := by decide +kernel
theorem dL_law_430 : decode cL_law 430 = .ok (.aload_n 2, 1) := by decide +kernel
theorem dL_law_431 : decode cL_law 431 = .ok (.aload_n 0, 1) := by decide +kernel
theorem dL_law_432 : decode cL_law 432 = .ok (.iload_n 3, 1) := by decide +kernel
theorem dL_law_433 : decode cL_law 433 = .ok (.iconst 1, 1) := by decide +kernel
theorem dL_law_434 : decode cL_law 434 = .ok (.iadd, 1) := by decide +kernel
theorem dL_law_435 : decode cL_law 435 = .ok (.iaload, 1) := by decide +kernel
theorem dL_law_436 : decode cL_law 436 = .ok (.aload_n 0, 1) := by decide +kernel
theorem dL_law_437 : decode cL_law 437 = .ok (.iload_n 3, 1) := by decide +kernel
theorem dL_law_438 : decode cL_law 438 = .ok (.iconst 2, 1) := by decide +kernel
theorem dL_law_439 : decode cL_law 439 = .ok (.iadd, 1) := by decide +kernel
theorem dL_law_440 : decode cL_law 440 = .ok (.iaload, 1) := by decide +kernel
theorem dL_law_441 : decode cL_law 441 = .ok (.aload_n 0, 1) := by decide +kernel
theorem dL_law_442 : decode cL_law 442 = .ok (.iload_n 3, 1) := by decide +kernel
theorem dL_law_443 : decode cL_law 443 = .ok (.iconst 3, 1) := by decide +kernel
theorem dL_law_444 : decode cL_law 444 = .ok (.iadd, 1) := by decide +kernel
theorem dL_law_445 : decode cL_law 445 = .ok (.iaload, 1) := by decide +kernel
theorem dL_law_446 : decode cL_law 446 = .ok (.invokevirtual 64, 3) := by decide +kernel
theorem dL_law_449 : decode cL_law 449 = .ok (.if_icmp .eq 362, 3) := by decide +kernel
theorem dL_law_452 : decode cL_law 452 = .ok (.iconst 0, 1) := by decide +kernel
theorem dL_law_453 : decode cL_law 453 = .ok (.ireturn, 1) := by decide +kernel
theorem dL_law_454 : decode cL_law 454 = .ok (.aload_n 1, 1) := by decide +kernel
theorem dL_law_455 : decode cL_law 455 = .ok (.aload_n 0, 1) := by decide +kernel
theorem dL_law_456 : decode cL_law 456 = .ok (.iload_n 3, 1) := by decide +kernel
theorem dL_law_457 : decode cL_law 457 = .ok (.iconst 1, 1) := by decide +kernel
theorem dL_law_458 : decode cL_law 458 = .ok (.iadd, 1) := by decide +kernel
theorem dL_law_459 : decode cL_law 459 = .ok (.iaload, 1) := by decide +kernel
theorem dL_law_460 : decode cL_law 460 = .ok (.aload_n 0, 1) := by decide +kernel
theorem dL_law_461 : decode cL_law 461 = .ok (.iload_n 3, 1) := by decide +kernel
theorem dL_law_462 : decode cL_law 462 = .ok (.iconst 2, 1) := by decide +kernel
theorem dL_law_463 : decode cL_law 463 = .ok (.iadd, 1) := by decide +kernel
theorem dL_law_464 : decode cL_law 464 = .ok (.iaload, 1) := by decide +kernel
theorem dL_law_465 : decode cL_law 465 = .ok (.invokevirtual 65, 3) := by decide +kernel
theorem dL_law_468 : decode cL_law 468 = .ok (.aload_n 2, 1) := by decide +kernel
theorem dL_law_469 : decode cL_law 469 = .ok (.aload_n 0, 1) := by decide +kernel
theorem dL_law_470 : decode cL_law 470 = .ok (.iload_n 3, 1) := by decide +kernel
theorem dL_law_471 : decode cL_law 471 = .ok (.iconst 1, 1) := by decide +kernel
theorem dL_law_472 : decode cL_law 472 = .ok (.iadd, 1) := by decide +kernel
theorem dL_law_473 : decode cL_law 473 = .ok (.iaload, 1) := by decide +kernel
theorem dL_law_474 : decode cL_law 474 = .ok (.aload_n 0, 1) := by decide +kernel
theorem dL_law_475 : decode cL_law 475 = .ok (.iload_n 3, 1) := by decide +kernel
theorem dL_law_476 : decode cL_law 476 = .ok (.iconst 2, 1) := by decide +kernel
theorem dL_law_477 : decode cL_law 477 = .ok (.iadd, 1) := by decide +kernel
theorem dL_law_478 : decode cL_law 478 = .ok (.iaload, 1) := by decide +kernel
theorem dL_law_479 : decode cL_law 479 = .ok (.invokevirtual 68, 3) := by decide +kernel
theorem dL_law_482 : decode cL_law 482 = .ok (.if_icmp .eq 329, 3) := by decide +kernel
theorem dL_law_485 : decode cL_law 485 = .ok (.iconst 0, 1) := by decide +kernel
theorem dL_law_486 : decode cL_law 486 = .ok (.ireturn, 1) := by decide +kernel
theorem dL_law_487 : decode cL_law 487 = .ok (.aload_n 1, 1) := by decide +kernel
theorem dL_law_488 : decode cL_law 488 = .ok (.aload_n 0, 1) := by decide +kernel
theorem dL_law_489 : decode cL_law 489 = .ok (.iload_n 3, 1) := by decide +kernel
theorem dL_law_490 : decode cL_law 490 = .ok (.iconst 1, 1) := by decide +kernel
theorem dL_law_491 : decode cL_law 491 = .ok (.iadd, 1) := by decide +kernel
theorem dL_law_492 : decode cL_law 492 = .ok (.iaload, 1) := by decide +kernel
theorem dL_law_493 : decode cL_law 493 = .ok (.invokevirtual 69, 3) := by decide +kernel
theorem dL_law_496 : decode cL_law 496 = .ok (.aload_n 2, 1) := by decide +kernel
theorem dL_law_497 : decode cL_law 497 = .ok (.aload_n 0, 1) := by decide +kernel
theorem dL_law_498 : decode cL_law 498 = .ok (.iload_n 3, 1) := by decide +kernel
theorem dL_law_499 : decode cL_law 499 = .ok (.iconst 1, 1) := by decide +kernel
theorem dL_law_500 : decode cL_law 500 = .ok (.iadd, 1) := by decide +kernel
theorem dL_law_501 : decode cL_law 501 = .ok (.iaload, 1) := by decide +kernel
theorem dL_law_502 : decode cL_law 502 = .ok (.invokevirtual 72, 3) := by decide +kernel
theorem dL_law_505 : decode cL_law 505 = .ok (.if_icmp .eq 306, 3) := by decide +kernel
theorem dL_law_508 : decode cL_law 508 = .ok (.iconst 0, 1) := by decide +kernel
theorem dL_law_509 : decode cL_law 509 = .ok (.ireturn, 1) := by decide +kernel
theorem dL_law_510 : decode cL_law 510 = .ok (.aload_n 1, 1) := by decide +kernel
theorem dL_law_511 : decode cL_law 511 = .ok (.aload_n 0, 1) := by decide +kernel
theorem dL_law_512 : decode cL_law 512 = .ok (.iload_n 3, 1) := by decide +kernel
theorem dL_law_513 : decode cL_law 513 = .ok (.iconst 1, 1) := by decide +kernel
theorem dL_law_514 : decode cL_law 514 = .ok (.iadd, 1) := by decide +kernel
theorem dL_law_515 : decode cL_law 515 = .ok (.iaload, 1) := by decide +kernel
theorem dL_law_516 : decode cL_law 516 = .ok (.aload_n 0, 1) := by decide +kernel
theorem dL_law_517 : decode cL_law 517 = .ok (.iload_n 3, 1) := by decide +kernel
theorem dL_law_518 : decode cL_law 518 = .ok (.iconst 2, 1) := by decide +kernel
theorem dL_law_519 : decode cL_law 519 = .ok (.iadd, 1) := by decide +kernel
theorem dL_law_520 : decode cL_law 520 = .ok (.iaload, 1) := by decide +kernel
theorem dL_law_521 : decode cL_law 521 = .ok (.invokevirtual 73, 3) := by decide +kernel
theorem dL_law_524 : decode cL_law 524 = .ok (.aload_n 2, 1) := by decide +kernel
theorem dL_law_525 : decode cL_law 525 = .ok (.aload_n 0, 1) := by decide +kernel
theorem dL_law_526 : decode cL_law 526 = .ok (.iload_n 3, 1) := by decide +kernel
theorem dL_law_527 : decode cL_law 527 = .ok (.iconst 1, 1) := by decide +kernel
theorem dL_law_528 : decode cL_law 528 = .ok (.iadd, 1) := by decide +kernel
theorem dL_law_529 : decode cL_law 529 = .ok (.iaload, 1) := by decide +kernel
theorem dL_law_530 : decode cL_law 530 = .ok (.aload_n 0, 1) := by decide +kernel
theorem dL_law_531 : decode cL_law 531 = .ok (.iload_n 3, 1) := by decide +kernel
theorem dL_law_532 : decode cL_law 532 = .ok (.iconst 2, 1) := by decide +kernel
theorem dL_law_533 : decode cL_law 533 = .ok (.iadd, 1) := by decide +kernel
theorem dL_law_534 : decode cL_law 534 = .ok (.iaload, 1) := by decide +kernel
theorem dL_law_535 : decode cL_law 535 = .ok (.invokevirtual 76, 3) := by decide +kernel
theorem dL_law_538 : decode cL_law 538 = .ok (.if_icmp .eq 273, 3) := by decide +kernel
theorem dL_law_541 : decode cL_law 541 = .ok (.iconst 0, 1) := by decide +kernel
theorem dL_law_542 : decode cL_law 542 = .ok (.ireturn, 1) := by decide +kernel
theorem dL_law_543 : decode cL_law 543 = .ok (.aload_n 1, 1) := by decide +kernel
theorem dL_law_544 : decode cL_law 544 = .ok (.aload_n 0, 1) := by decide +kernel
theorem dL_law_545 : decode cL_law 545 = .ok (.iload_n 3, 1) := by decide +kernel
theorem dL_law_546 : decode cL_law 546 = .ok (.iconst 1, 1) := by decide +kernel
theorem dL_law_547 : decode cL_law 547 = .ok (.iadd, 1) := by decide +kernel
theorem dL_law_548 : decode cL_law 548 = .ok (.iaload, 1) := by decide +kernel
theorem dL_law_549 : decode cL_law 549 = .ok (.aload_n 0, 1) := by decide +kernel
theorem dL_law_550 : decode cL_law 550 = .ok (.iload_n 3, 1) := by decide +kernel
theorem dL_law_551 : decode cL_law 551 = .ok (.iconst 2, 1) := by decide +kernel
theorem dL_law_552 : decode cL_law 552 = .ok (.iadd, 1) := by decide +kernel
theorem dL_law_553 : decode cL_law 553 = .ok (.iaload, 1) := by decide +kernel
theorem dL_law_554 : decode cL_law 554 = .ok (.invokevirtual 77, 3) := by decide +kernel
theorem dL_law_557 : decode cL_law 557 = .ok (.aload_n 2, 1) := by decide +kernel
theorem dL_law_558 : decode cL_law 558 = .ok (.aload_n 0, 1) := by decide +kernel
theorem dL_law_559 : decode cL_law 559 = .ok (.iload_n 3, 1) := by decide +kernel
theorem dL_law_560 : decode cL_law 560 = .ok (.iconst 1, 1) := by decide +kernel
theorem dL_law_561 : decode cL_law 561 = .ok (.iadd, 1) := by decide +kernel
theorem dL_law_562 : decode cL_law 562 = .ok (.iaload, 1) := by decide +kernel
theorem dL_law_563 : decode cL_law 563 = .ok (.aload_n 0, 1) := by decide +kernel
theorem dL_law_564 : decode cL_law 564 = .ok (.iload_n 3, 1) := by decide +kernel
theorem dL_law_565 : decode cL_law 565 = .ok (.iconst 2, 1) := by decide +kernel
theorem dL_law_566 : decode cL_law 566 = .ok (.iadd, 1) := by decide +kernel
theorem dL_law_567 : decode cL_law 567 = .ok (.iaload, 1) := by decide +kernel
theorem dL_law_568 : decode cL_law 568 = .ok (.invokevirtual 80, 3) := by decide +kernel
theorem dL_law_571 : decode cL_law 571 = .ok (.if_icmp .eq 240, 3) := by decide +kernel
theorem dL_law_574 : decode cL_law 574 = .ok (.iconst 0, 1) := by decide +kernel
theorem dL_law_575 : decode cL_law 575 = .ok (.ireturn, 1) := by decide +kernel
theorem dL_law_576 : decode cL_law 576 = .ok (.aload_n 1, 1) := by decide +kernel
theorem dL_law_577 : decode cL_law 577 = .ok (.aload_n 0, 1) := by decide +kernel
theorem dL_law_578 : decode cL_law 578 = .ok (.iload_n 3, 1) := by decide +kernel
theorem dL_law_579 : decode cL_law 579 = .ok (.iconst 1, 1) := by decide +kernel
theorem dL_law_580 : decode cL_law 580 = .ok (.iadd, 1) := by decide +kernel
theorem dL_law_581 : decode cL_law 581 = .ok (.iaload, 1) := by decide +kernel
theorem dL_law_582 : decode cL_law 582 = .ok (.invokevirtual 81, 3) := by decide +kernel
theorem dL_law_585 : decode cL_law 585 = .ok (.aload_n 2, 1) := by decide +kernel
theorem dL_law_586 : decode cL_law 586 = .ok (.aload_n 0, 1) := by decide +kernel
theorem dL_law_587 : decode cL_law 587 = .ok (.iload_n 3, 1) := by decide +kernel
theorem dL_law_588 : decode cL_law 588 = .ok (.iconst 1, 1) := by decide +kernel
theorem dL_law_589 : decode cL_law 589 = .ok (.iadd, 1) := by decide +kernel
theorem dL_law_590 : decode cL_law 590 = .ok (.iaload, 1) := by decide +kernel
theorem dL_law_591 : decode cL_law 591 = .ok (.invokevirtual 84, 3) := by decide +kernel
theorem dL_law_594 : decode cL_law 594 = .ok (.if_icmp .eq 217, 3) := by decide +kernel
theorem dL_law_597 : decode cL_law 597 = .ok (.iconst 0, 1) := by decide +kernel
theorem dL_law_598 : decode cL_law 598 = .ok (.ireturn, 1) := by decide +kernel
theorem dL_law_599 : decode cL_law 599 = .ok (.aload_n 1, 1) := by decide +kernel
theorem dL_law_600 : decode cL_law 600 = .ok (.aload_n 0, 1) := by decide +kernel
theorem dL_law_601 : decode cL_law 601 = .ok (.iload_n 3, 1) := by decide +kernel
theorem dL_law_602 : decode cL_law 602 = .ok (.iconst 1, 1) := by decide +kernel
theorem dL_law_603 : decode cL_law 603 = .ok (.iadd, 1) := by decide +kernel
theorem dL_law_604 : decode cL_law 604 = .ok (.iaload, 1) := by decide +kernel
theorem dL_law_605 : decode cL_law 605 = .ok (.aload_n 0, 1) := by decide +kernel
theorem dL_law_606 : decode cL_law 606 = .ok (.iload_n 3, 1) := by decide +kernel
theorem dL_law_607 : decode cL_law 607 = .ok (.iconst 2, 1) := by decide +kernel
theorem dL_law_608 : decode cL_law 608 = .ok (.iadd, 1) := by decide +kernel
theorem dL_law_609 : decode cL_law 609 = .ok (.iaload, 1) := by decide +kernel
theorem dL_law_610 : decode cL_law 610 = .ok (.aload_n 0, 1) := by decide +kernel
theorem dL_law_611 : decode cL_law 611 = .ok (.iload_n 3, 1) := by decide +kernel
theorem dL_law_612 : decode cL_law 612 = .ok (.iconst 3, 1) := by decide +kernel
theorem dL_law_613 : decode cL_law 613 = .ok (.iadd, 1) := by decide +kernel
theorem dL_law_614 : decode cL_law 614 = .ok (.iaload, 1) := by decide +kernel
theorem dL_law_615 : decode cL_law 615 = .ok (.invokevirtual 85, 3) := by decide +kernel
theorem dL_law_618 : decode cL_law 618 = .ok (.aload_n 2, 1) := by decide +kernel
theorem dL_law_619 : decode cL_law 619 = .ok (.aload_n 0, 1) := by decide +kernel
theorem dL_law_620 : decode cL_law 620 = .ok (.iload_n 3, 1) := by decide +kernel
theorem dL_law_621 : decode cL_law 621 = .ok (.iconst 1, 1) := by decide +kernel
theorem dL_law_622 : decode cL_law 622 = .ok (.iadd, 1) := by decide +kernel
theorem dL_law_623 : decode cL_law 623 = .ok (.iaload, 1) := by decide +kernel
theorem dL_law_624 : decode cL_law 624 = .ok (.aload_n 0, 1) := by decide +kernel
theorem dL_law_625 : decode cL_law 625 = .ok (.iload_n 3, 1) := by decide +kernel
theorem dL_law_626 : decode cL_law 626 = .ok (.iconst 2, 1) := by decide +kernel
theorem dL_law_627 : decode cL_law 627 = .ok (.iadd, 1) := by decide +kernel
theorem dL_law_628 : decode cL_law 628 = .ok (.iaload, 1) := by decide +kernel
theorem dL_law_629 : decode cL_law 629 = .ok (.aload_n 0, 1) := by decide +kernel
theorem dL_law_630 : decode cL_law 630 = .ok (.iload_n 3, 1) := by decide +kernel
theorem dL_law_631 : decode cL_law 631 = .ok (.iconst 3, 1) := by decide +kernel
theorem dL_law_632 : decode cL_law 632 = .ok (.iadd, 1) := by decide +kernel
theorem dL_law_633 : decode cL_law 633 = .ok (.iaload, 1) := by decide +kernel
theorem dL_law_634 : decode cL_law 634 = .ok (.invokevirtual 88, 3) := by decide +kernel
theorem dL_law_637 : decode cL_law 637 = .ok (.if_icmp .eq 174, 3) := by decide +kernel
theorem dL_law_640 : decode cL_law 640 = .ok (.iconst 0, 1) := by decide +kernel
theorem dL_law_641 : decode cL_law 641 = .ok (.ireturn, 1) := by decide +kernel
theorem dL_law_642 : decode cL_law 642 = .ok (.aload_n 1, 1) := by decide +kernel
theorem dL_law_643 : decode cL_law 643 = .ok (.aload_n 0, 1) := by decide +kernel
theorem dL_law_644 : decode cL_law 644 = .ok (.iload_n 3, 1) := by decide +kernel
theorem dL_law_645 : decode cL_law 645 = .ok (.iconst 1, 1) := by decide +kernel
theorem dL_law_646 : decode cL_law 646 = .ok (.iadd, 1) := by decide +kernel
theorem dL_law_647 : decode cL_law 647 = .ok (.iaload, 1) := by decide +kernel
theorem dL_law_648 : decode cL_law 648 = .ok (.invokevirtual 89, 3) := by decide +kernel
theorem dL_law_651 : decode cL_law 651 = .ok (.aload_n 2, 1) := by decide +kernel
theorem dL_law_652 : decode cL_law 652 = .ok (.aload_n 0, 1) := by decide +kernel
theorem dL_law_653 : decode cL_law 653 = .ok (.iload_n 3, 1) := by decide +kernel
theorem dL_law_654 : decode cL_law 654 = .ok (.iconst 1, 1) := by decide +kernel
theorem dL_law_655 : decode cL_law 655 = .ok (.iadd, 1) := by decide +kernel
theorem dL_law_656 : decode cL_law 656 = .ok (.iaload, 1) := by decide +kernel
theorem dL_law_657 : decode cL_law 657 = .ok (.invokevirtual 92, 3) := by decide +kernel
theorem dL_law_660 : decode cL_law 660 = .ok (.if_icmp .eq 151, 3) := by decide +kernel
theorem dL_law_663 : decode cL_law 663 = .ok (.iconst 0, 1) := by decide +kernel
theorem dL_law_664 : decode cL_law 664 = .ok (.ireturn, 1) := by decide +kernel
theorem dL_law_665 : decode cL_law 665 = .ok (.aload_n 1, 1) := by decide +kernel
theorem dL_law_666 : decode cL_law 666 = .ok (.aload_n 0, 1) := by decide +kernel
theorem dL_law_667 : decode cL_law 667 = .ok (.iload_n 3, 1) := by decide +kernel
theorem dL_law_668 : decode cL_law 668 = .ok (.iconst 1, 1) := by decide +kernel
theorem dL_law_669 : decode cL_law 669 = .ok (.iadd, 1) := by decide +kernel
theorem dL_law_670 : decode cL_law 670 = .ok (.iaload, 1) := by decide +kernel
theorem dL_law_671 : decode cL_law 671 = .ok (.aload_n 0, 1) := by decide +kernel
theorem dL_law_672 : decode cL_law 672 = .ok (.iload_n 3, 1) := by decide +kernel
theorem dL_law_673 : decode cL_law 673 = .ok (.iconst 2, 1) := by decide +kernel
theorem dL_law_674 : decode cL_law 674 = .ok (.iadd, 1) := by decide +kernel
theorem dL_law_675 : decode cL_law 675 = .ok (.iaload, 1) := by decide +kernel
theorem dL_law_676 : decode cL_law 676 = .ok (.invokevirtual 93, 3) := by decide +kernel
theorem dL_law_679 : decode cL_law 679 = .ok (.aload_n 2, 1) := by decide +kernel
theorem dL_law_680 : decode cL_law 680 = .ok (.aload_n 0, 1) := by decide +kernel
theorem dL_law_681 : decode cL_law 681 = .ok (.iload_n 3, 1) := by decide +kernel
theorem dL_law_682 : decode cL_law 682 = .ok (.iconst 1, 1) := by decide +kernel
theorem dL_law_683 : decode cL_law 683 = .ok (.iadd, 1) := by decide +kernel
theorem dL_law_684 : decode cL_law 684 = .ok (.iaload, 1) := by decide +kernel
theorem dL_law_685 : decode cL_law 685 = .ok (.aload_n 0, 1) := by decide +kernel
theorem dL_law_686 : decode cL_law 686 = .ok (.iload_n 3, 1) := by decide +kernel
theorem dL_law_687 : decode cL_law 687 = .ok (.iconst 2, 1) := by decide +kernel
theorem dL_law_688 : decode cL_law 688 = .ok (.iadd, 1) := by decide +kernel
theorem dL_law_689 : decode cL_law 689 = .ok (.iaload, 1) := by decide +kernel
theorem dL_law_690 : decode cL_law 690 = .ok (.invokevirtual 96, 3) := by decide +kernel
theorem dL_law_693 : decode cL_law 693 = .ok (.if_icmp .eq 118, 3) := by decide +kernel
theorem dL_law_696 : decode cL_law 696 = .ok (.iconst 0, 1) := by decide +kernel
theorem dL_law_697 : decode cL_law 697 = .ok (.ireturn, 1) := by decide +kernel
theorem dL_law_698 : decode cL_law 698 = .ok (.aload_n 1, 1) := by decide +kernel
theorem dL_law_699 : decode cL_law 699 = .ok (.invokevirtual 97, 3) := by decide +kernel
theorem dL_law_702 : decode cL_law 702 = .ok (.dstore 4, 2) := by decide +kernel
theorem dL_law_704 : decode cL_law 704 = .ok (.aload_n 2, 1) := by decide +kernel
theorem dL_law_705 : decode cL_law 705 = .ok (.invokevirtual 101, 3) := by decide +kernel
theorem dL_law_708 : decode cL_law 708 = .ok (.dstore 6, 2) := by decide +kernel
theorem dL_law_710 : decode cL_law 710 = .ok (.dload 4, 2) := by decide +kernel
theorem dL_law_712 : decode cL_law 712 = .ok (.dload 6, 2) := by decide +kernel
theorem dL_law_714 : decode cL_law 714 = .ok (.dcmp .l, 1) := by decide +kernel
theorem dL_law_715 : decode cL_law 715 = .ok (.ifCond .eq 21, 3) := by decide +kernel
theorem dL_law_718 : decode cL_law 718 = .ok (.dload 4, 2) := by decide +kernel
theorem dL_law_720 : decode cL_law 720 = .ok (.dload 4, 2) := by decide +kernel
theorem dL_law_722 : decode cL_law 722 = .ok (.dcmp .l, 1) := by decide +kernel
theorem dL_law_723 : decode cL_law 723 = .ok (.ifCond .eq 11, 3) := by decide +kernel
theorem dL_law_726 : decode cL_law 726 = .ok (.dload 6, 2) := by decide +kernel
theorem dL_law_728 : decode cL_law 728 = .ok (.dload 6, 2) := by decide +kernel
theorem dL_law_730 : decode cL_law 730 = .ok (.dcmp .l, 1) := by decide +kernel
theorem dL_law_731 : decode cL_law 731 = .ok (.ifCond .ne 5, 3) := by decide +kernel
theorem dL_law_734 : decode cL_law 734 = .ok (.iconst 0, 1) := by decide +kernel
theorem dL_law_735 : decode cL_law 735 = .ok (.ireturn, 1) := by decide +kernel
theorem dL_law_736 : decode cL_law 736 = .ok (.goto 75, 3) := by decide +kernel
theorem dL_law_739 : decode cL_law 739 = .ok (.aload_n 1, 1) := by decide +kernel
theorem dL_law_740 : decode cL_law 740 = .ok (.aload_n 0, 1) := by decide +kernel
theorem dL_law_741 : decode cL_law 741 = .ok (.iload_n 3, 1) := by decide +kernel
theorem dL_law_742 : decode cL_law 742 = .ok (.iconst 1, 1) := by decide +kernel
theorem dL_law_743 : decode cL_law 743 = .ok (.iadd, 1) := by decide +kernel
theorem dL_law_744 : decode cL_law 744 = .ok (.iaload, 1) := by decide +kernel
theorem dL_law_745 : decode cL_law 745 = .ok (.aload_n 0, 1) := by decide +kernel
theorem dL_law_746 : decode cL_law 746 = .ok (.iload_n 3, 1) := by decide +kernel
theorem dL_law_747 : decode cL_law 747 = .ok (.iconst 2, 1) := by decide +kernel
theorem dL_law_748 : decode cL_law 748 = .ok (.iadd, 1) := by decide +kernel
theorem dL_law_749 : decode cL_law 749 = .ok (.iaload, 1) := by decide +kernel
theorem dL_law_750 : decode cL_law 750 = .ok (.invokevirtual 102, 3) := by decide +kernel
theorem dL_law_753 : decode cL_law 753 = .ok (.aload_n 2, 1) := by decide +kernel
theorem dL_law_754 : decode cL_law 754 = .ok (.aload_n 0, 1) := by decide +kernel
theorem dL_law_755 : decode cL_law 755 = .ok (.iload_n 3, 1) := by decide +kernel
theorem dL_law_756 : decode cL_law 756 = .ok (.iconst 1, 1) := by decide +kernel
theorem dL_law_757 : decode cL_law 757 = .ok (.iadd, 1) := by decide +kernel
theorem dL_law_758 : decode cL_law 758 = .ok (.iaload, 1) := by decide +kernel
theorem dL_law_759 : decode cL_law 759 = .ok (.aload_n 0, 1) := by decide +kernel
theorem dL_law_760 : decode cL_law 760 = .ok (.iload_n 3, 1) := by decide +kernel
theorem dL_law_761 : decode cL_law 761 = .ok (.iconst 2, 1) := by decide +kernel
theorem dL_law_762 : decode cL_law 762 = .ok (.iadd, 1) := by decide +kernel
theorem dL_law_763 : decode cL_law 763 = .ok (.iaload, 1) := by decide +kernel
theorem dL_law_764 : decode cL_law 764 = .ok (.invokevirtual 105, 3) := by decide +kernel
theorem dL_law_767 : decode cL_law 767 = .ok (.if_icmp .eq 44, 3) := by decide +kernel
theorem dL_law_770 : decode cL_law 770 = .ok (.iconst 0, 1) := by decide +kernel
theorem dL_law_771 : decode cL_law 771 = .ok (.ireturn, 1) := by decide +kernel
theorem dL_law_772 : decode cL_law 772 = .ok (.aload_n 1, 1) := by decide +kernel
theorem dL_law_773 : decode cL_law 773 = .ok (.invokevirtual 106, 3) := by decide +kernel
theorem dL_law_776 : decode cL_law 776 = .ok (.aload_n 2, 1) := by decide +kernel
theorem dL_law_777 : decode cL_law 777 = .ok (.invokevirtual 109, 3) := by decide +kernel
theorem dL_law_780 : decode cL_law 780 = .ok (.if_icmp .eq 31, 3) := by decide +kernel
theorem dL_law_783 : decode cL_law 783 = .ok (.iconst 0, 1) := by decide +kernel
theorem dL_law_784 : decode cL_law 784 = .ok (.ireturn, 1) := by decide +kernel
theorem dL_law_785 : decode cL_law 785 = .ok (.aload_n 1, 1) := by decide +kernel
theorem dL_law_786 : decode cL_law 786 = .ok (.invokevirtual 110, 3) := by decide +kernel
theorem dL_law_789 : decode cL_law 789 = .ok (.aload_n 2, 1) := by decide +kernel
theorem dL_law_790 : decode cL_law 790 = .ok (.invokevirtual 113, 3) := by decide +kernel
theorem dL_law_793 : decode cL_law 793 = .ok (.if_icmp .eq 18, 3) := by decide +kernel
theorem dL_law_796 : decode cL_law 796 = .ok (.iconst 0, 1) := by decide +kernel
theorem dL_law_797 : decode cL_law 797 = .ok (.ireturn, 1) := by decide +kernel
theorem dL_law_798 : decode cL_law 798 = .ok (.aload_n 1, 1) := by decide +kernel
theorem dL_law_799 : decode cL_law 799 = .ok (.invokevirtual 114, 3) := by decide +kernel
theorem dL_law_802 : decode cL_law 802 = .ok (.aload_n 2, 1) := by decide +kernel
theorem dL_law_803 : decode cL_law 803 = .ok (.invokevirtual 117, 3) := by decide +kernel
theorem dL_law_806 : decode cL_law 806 = .ok (.if_icmp .eq 5, 3) := by decide +kernel
theorem dL_law_809 : decode cL_law 809 = .ok (.iconst 0, 1) := by decide +kernel
theorem dL_law_810 : decode cL_law 810 = .ok (.ireturn, 1) := by decide +kernel
theorem dL_law_811 : decode cL_law 811 = .ok (.iinc 3 4, 3) := by decide +kernel
theorem dL_law_814 : decode cL_law 814 = .ok (.goto (-796), 3) := by decide +kernel
theorem dL_law_817 : decode cL_law 817 = .ok (.iconst 1, 1) := by decide +kernel
theorem dL_law_818 : decode cL_law 818 = .ok (.ireturn, 1) := by decide +kernel
end
section
/-! ===== the abstract machine: a memory of numbers, references by kind and number, and the judgement Go over the kit's W ===== -/
/-- the tables' words that hold at every call, too -/
def k_tb : List Cond := lw_tbl.filter goodWord
abbrev KV : Type := Value ⊕ (Nat × Nat)
abbrev KM : Type := (Nat → Nat → Nat → Int32) × (Nat → Nat → Int64) × (Nat → Nat → Nat)
abbrev KG : Type := Nat × va_G × ClassId × ClassId × ClassId × ClassId
abbrev KI : Type := MethodName × ByteArray × Nat × Option FieldType × Room
abbrev vI (x : Int32) : KV := Sum.inl (Value.int x)
abbrev vJ (x : Int64) : KV := Sum.inl (Value.long x)
abbrev vD (x : UInt64) : KV := Sum.inl (Value.double x)
abbrev vN : KV := Sum.inl Value.null
abbrev vR (k i : Nat) : KV := Sum.inr (k, i)
/-- where the cell of a kind and number lies, behind the base -/
def k_off (k i : Nat) : Nat := match k with
  | 0 => 0
  | 1 => if i < 3 then 1 + 6 * i else 21 + 6 * (i - 3)
  | 2 => (if i < 3 then 1 + 6 * i else 21 + 6 * (i - 3)) + 1
  | 3 => (if i < 3 then 1 + 6 * i else 21 + 6 * (i - 3)) + 2
  | 4 => (if i < 3 then 1 + 6 * i else 21 + 6 * (i - 3)) + 3
  | 5 => (if i < 3 then 1 + 6 * i else 21 + 6 * (i - 3)) + 4
  | 6 => (if i < 3 then 1 + 6 * i else 21 + 6 * (i - 3)) + 5
  | 7 => 19
  | 8 => 20
  | 9 => 51
  | 10 => 52
  | 11 => 53
  | 12 => 54 + 2 * i
  | 13 => 55 + 2 * i
  | 14 => 60
  | 15 => 61
  | 16 => 62
  | 17 => 63
  | 18 => 64
  | 19 => 65
  | 20 => 66
  | 21 => 67
  | _ => 68
def k_cnt (k : Nat) : Nat := match k with
  | 0 => 1
  | 1 => 8
  | 2 => 8
  | 3 => 8
  | 4 => 8
  | 5 => 8
  | 6 => 8
  | 7 => 1
  | 8 => 1
  | 9 => 1
  | 10 => 1
  | 11 => 1
  | 12 => 3
  | 13 => 3
  | 14 => 1
  | 15 => 1
  | 16 => 1
  | 17 => 1
  | 18 => 1
  | 19 => 1
  | 20 => 1
  | 21 => 1
  | _ => 0
def k_inv (n : Nat) : Nat × Nat :=
  if n = 0 then (0, 0) else if n < 19 then ((n - 1) % 6 + 1, (n - 1) / 6) else if n = 19 then (7, 0) else if n = 20 then (8, 0)
  else if n < 51 then ((n - 21) % 6 + 1, (n - 21) / 6 + 3) else if n = 51 then (9, 0) else if n = 52 then (10, 0) else if n = 53 then (11, 0)
  else if n < 60 then (12 + (n - 54) % 2, (n - 54) / 2) else (n - 46, 0)
theorem k_inv_ok : ∀ k, k < 22 → ∀ i, i < 8 → i < k_cnt k → k_inv (k_off k i) = (k, i) ∧ k_off k i < 68 := by decide +kernel
theorem k_cnt22 {k i : Nat} (h : i < k_cnt k) : k < 22 ∧ i < 8 := by
  unfold k_cnt at h
  split at h <;> omega
theorem k_off_lt {k i : Nat} (h : i < k_cnt k) : k_off k i < 68 := (k_inv_ok k (k_cnt22 h).1 i (k_cnt22 h).2 h).2
theorem k_off_inj {k i k' i' : Nat} (h : i < k_cnt k) (h' : i' < k_cnt k') (e : k_off k i = k_off k' i') : k = k' ∧ i = i' := by
  have h1 := (k_inv_ok k (k_cnt22 h).1 i (k_cnt22 h).2 h).1
  have h2 := (k_inv_ok k' (k_cnt22 h').1 i' (k_cnt22 h').2 h').1
  rw [e, h2] at h1
  exact ⟨(congrArg Prod.fst h1).symm, (congrArg Prod.snd h1).symm⟩
/-- the class of an object's kind; the length of an int array's kind -/
def k_oc (k : Nat) : Option Nat := match k with
  | 0 => some 5
  | 1 => some 3
  | 7 => some 0
  | 9 => some 2
  | 11 => some 1
  | 12 => some 4
  | 14 => some 6
  | _ => none
def k_ar (k : Nat) : Option Nat := match k with
  | 2 => some 20
  | 4 => some 20
  | 5 => some 20
  | 6 => some 20
  | 10 => some 60
  | 15 => some 103
  | 16 => some 412
  | 17 => some 103
  | 18 => some 60
  | 19 => some 84
  | 20 => some 15625
  | 21 => some 15625
  | _ => none
def k_fl (k i : Nat) (f : Nat → Int32) (r : Nat → Nat → Nat) : List KV := match k with
  | 0 => [vR 1 0, vR 1 1, vR 1 2, vR 7 0, vR 9 0, vR 11 0, vI (f 6), vI (f 7), vI (f 8), vI (f 9)]
  | 1 => [vR 2 i, vR 3 i, vR 4 i, vR 5 i, vR 6 i, vI (f 5), vI (f 6), vI (f 7)]
  | 7 => [vR 8 0, vI (f 1)]
  | 9 => [vR 10 0, vI (f 1)]
  | 11 => [vR 12 0, vR 12 (r 11 1), vR 12 (r 11 2)]
  | 12 => [vR 13 i]
  | 14 => [vR 15 0, vR 16 0, vI (f 2), vR 17 0, vI (f 4), vR 18 0, vI (f 6), vI (f 7), vI (f 8), vI (f 9), vI (f 10), vR 19 0, vI (f 12), vR 20 0, vR 21 0]
  | _ => []
/-- which fields are numbers -/
def k_nf (k j : Nat) : Bool := match k with
  | 0 => decide (6 ≤ j) && decide (j ≤ 9)
  | 1 => decide (5 ≤ j) && decide (j ≤ 7)
  | 7 => j == 1
  | 9 => j == 1
  | 14 => j == 2 || j == 4 || decide (6 ≤ j) && decide (j ≤ 10) || j == 12
  | _ => false
def k_cv (b : Nat) : KV → Value
  | .inl v => v
  | .inr q => .ref (b + k_off q.1 q.2)
def k_cat : KV → Nat
  | .inl v => v.category
  | .inr _ => 1
theorem k_cat_eq (b : Nat) (v : KV) : (k_cv b v).category = k_cat v := by cases v <;> rfl
def k_ce (G : KG) (k i : Nat) (f : Nat → Int32) (w : Nat → Int64) (r : Nat → Nat → Nat) : va_E := match k_oc k with
  | some ci => .inr (ci, (k_fl k i f r).map (k_cv G.1))
  | none => match k_ar k with
    | some n => .inl (G.2.2.1, n, .inl f)
    | none => if k = 3 then .inl (G.2.2.2.1, 20, .inl f) else if k = 13 then .inl (G.2.2.2.2.1, 245, .inr (.inl w)) else .inl (G.2.2.2.2.2, 5, .inr (.inr (.inr (.inr (fun j => some (G.1 + k_off 1 (r 8 j)))))))
theorem k_ce_obj {G : KG} {k i ci : Nat} {f : Nat → Int32} {w : Nat → Int64} {r : Nat → Nat → Nat} (h : k_oc k = some ci) : k_ce G k i f w r = .inr (ci, (k_fl k i f r).map (k_cv G.1)) := by unfold k_ce; rw [h]
theorem k_ce_ar {G : KG} {k i n : Nat} {f : Nat → Int32} {w : Nat → Int64} {r : Nat → Nat → Nat} (h0 : k_oc k = none) (h : k_ar k = some n) : k_ce G k i f w r = .inl (G.2.2.1, n, .inl f) := by unfold k_ce; rw [h0, h]
def k_HW (G : KG) (M : KM) (H : Heap) : Prop := ∀ k i, i < k_cnt k → va_at G.2.1 vwCl (G.1 + k_off k i, k_ce G k i (M.1 k i) (M.2.1 i) M.2.2) H
abbrev k_tys (G : KG) : List (ClassId × FieldType) := [(G.2.2.1, .int), (G.2.2.2.1, .boolean), (G.2.2.2.2.1, .long), (G.2.2.2.2.2, .object RX6)]
def k_rng (G : KG) (q : Nat) : Prop := G.1 ≤ q ∧ q < G.1 + 68
def k_FR (G : KG) (H0 H : Heap) : Prop := H.size = H0.size ∧ ∀ q : Nat, ¬ k_rng G q → H[q]? = H0[q]?
theorem k_FR.rf {G : KG} {H : Heap} : k_FR G H H := ⟨rfl, fun _ _ => rfl⟩
theorem k_FR.tr {G : KG} {H0 H H1 : Heap} (h : k_FR G H0 H) (h1 : k_FR G H H1) : k_FR G H0 H1 := ⟨h1.1.trans h.1, fun q hq => (h1.2 q hq).trans (h.2 q hq)⟩
/-- locals -/
def k_lc (b : Nat) : Nat → List (Option KV) → List (Nat × Value)
  | _, [] => []
  | n, none :: r => k_lc b (n + 1) r
  | n, some v :: r => (n, k_cv b v) :: k_lc b (n + 1) r
theorem k_lc_mem {b : Nat} : ∀ (loc : List (Option KV)) (n : Nat) (q : Nat × Value), q ∈ k_lc b n loc ↔ ∃ (j : Nat) (v : KV), loc[j]? = some (some v) ∧ q = (n + j, k_cv b v)
  | [], n, q => by simp [k_lc]
  | none :: r, n, q => by
    rw [k_lc, k_lc_mem r (n + 1) q]
    constructor
    · rintro ⟨j, v, h1, h2⟩
      exact ⟨j + 1, v, by simpa using h1, by rw [h2]; congr 1; omega⟩
    · rintro ⟨j, v, h1, h2⟩
      cases j with
      | zero => simp at h1
      | succ j => exact ⟨j, v, by simpa using h1, by rw [h2]; congr 1; omega⟩
  | some u :: r, n, q => by
    rw [k_lc, List.mem_cons, k_lc_mem r (n + 1) q]
    constructor
    · rintro (h | ⟨j, v, h1, h2⟩)
      · exact ⟨0, u, rfl, h⟩
      · exact ⟨j + 1, v, by simpa using h1, by rw [h2]; congr 1; omega⟩
    · rintro ⟨j, v, h1, h2⟩
      cases j with
      | zero =>
        left
        have : u = v := by simpa using h1
        rw [h2, this]; rfl
      | succ j => exact Or.inr ⟨j, v, by simpa using h1, by rw [h2]; congr 1; omega⟩
theorem k_lc_at {b nL j : Nat} {ls : Array Slot} {loc : List (Option KV)} {v : KV} (hl : lv_has ls nL (k_lc b 0 loc)) (h : loc[j]? = some (some v)) : ls[j]? = some (.val (k_cv b v)) := by
  have := hl.2.2 (j, k_cv b v) ((k_lc_mem loc 0 _).mpr ⟨j, v, h, by simp⟩)
  simpa using this
def k_nd (loc : List (Option KV)) (i : Nat) : Bool := match i with
  | 0 => true
  | j + 1 => match loc[j]? with
    | some (some v) => k_cat v == 1
    | _ => true
theorem k_lc_set {b nL i : Nat} {ls : Array Slot} {loc : List (Option KV)} {v : KV} (hd : k_nd loc i = true) (hl : lv_has ls nL ((i, k_cv b v) :: (k_lc b 0 loc).filter (fun q => !(q.1 == i) && !(q.1 + 1 == i && q.2.category == 2)))) : lv_has ls nL (k_lc b 0 (loc.set i (some v))) := by
  refine ⟨hl.1, hl.2.1, fun q hq => ?_⟩
  obtain ⟨j, u, h1, h2⟩ := (k_lc_mem _ 0 q).mp hq
  apply hl.2.2 q
  rw [h2]
  by_cases hji : j = i
  · subst hji
    have hlt : j < loc.length := by
      have := (List.getElem?_eq_some_iff.mp h1).1
      simpa using this
    rw [List.getElem?_set_self hlt] at h1
    have : v = u := by simpa using h1
    subst this
    simp
  · rw [List.getElem?_set_ne (fun e => hji e.symm)] at h1
    refine List.mem_cons_of_mem _ (List.mem_filter.mpr ⟨(k_lc_mem _ 0 _).mpr ⟨j, u, h1, rfl⟩, ?_⟩)
    simp only [Nat.zero_add, Bool.and_eq_true, Bool.not_eq_true']
    refine ⟨by simpa using hji, ?_⟩
    by_cases h3 : j + 1 = i
    · subst h3
      have h4 : k_cat u = 1 := by
        simp only [k_nd, h1] at hd
        simpa using hd
      rw [k_cat_eq, h4]
      simp
    · simp [h3]
/-- forgetting locals -/
def k_le : List (Option KV) → List (Option KV) → Prop := fun a b => ∀ (j : Nat) (v : KV), a[j]? = some (some v) → b[j]? = some (some v)
theorem k_lc_le {b nL : Nat} {ls : Array Slot} {l1 l2 : List (Option KV)} (h : k_le l1 l2) (hl : lv_has ls nL (k_lc b 0 l2)) : lv_has ls nL (k_lc b 0 l1) := by
  refine ⟨hl.1, hl.2.1, fun q hq => ?_⟩
  obtain ⟨j, u, h1, h2⟩ := (k_lc_mem _ 0 q).mp hq
  exact hl.2.2 q ((k_lc_mem _ 0 q).mpr ⟨j, u, h j u h1, h2⟩)
theorem k_le_nil {l : List (Option KV)} : k_le [] l := fun j v h => by simp at h
theorem k_le_n {u : Option KV} {a b : List (Option KV)} (h : k_le a b) : k_le (none :: a) (u :: b) := fun j v hj => by
  cases j with
  | zero => simp at hj
  | succ j => exact h j v (by simpa using hj)
theorem k_le_s {u : Option KV} {a b : List (Option KV)} (h : k_le a b) : k_le (u :: a) (u :: b) := fun j v hj => by
  cases j with
  | zero => exact hj
  | succ j => exact h j v (by simpa using hj)
/-- a method's context -/
def k_Cx (I : KI) (G : KG) (p : Program) (R : Room) (s : State) (m : MethodId) (args : Array Value) (meth : Method) (c : Code) (cells slots : Nat) : Prop :=
  p.tables.exec = Jvm.exec ∧ c.code = I.2.1 ∧ c.maxLocals = I.2.2.1 ∧ meth.sig.returnType = I.2.2.2.1 ∧ s.vm.findClass I.1.cls = some m.cls ∧ meth.locks = false ∧ (∀ w ∈ k_tb, w.before args s = true) ∧ va_K G.2.1 vwCl (k_tys G) s ∧ R.frames = I.2.2.2.2.frames ∧ R.locals = I.2.2.2.2.locals ∧ cells ≤ R.cells ∧ slots ≤ R.slots
abbrev KZ : Type := KG → Heap → Program → Launch → Env → Room → State → MethodId → Array Value → List Frame → Method → Code → Nat → Nat → (State → Prop) → Prop
def Go (I : KI) (Z : KZ) (M : KM) (loc : List (Option KV)) (st : List KV) (pc : Nat) : Prop :=
  ∀ (G : KG) (Hb : Heap) (p : Program) (l : Launch) (e : Env) (R : Room) (s : State) (m : MethodId) (args : Array Value) (below : List Frame) (meth : Method) (c : Code) (cells slots : Nat) (Qf : State → Prop),
    k_Cx I G p R s m args meth c cells slots → Z G Hb p l e R s m args below meth c cells slots Qf →
    ∀ (H : Heap) (ls : Array Slot) (locs : List Loc), k_HW G M H → k_FR G Hb H → (∀ q ∈ locs, k_rng G q.base) → lv_has ls I.2.2.1 (k_lc G.1 0 loc) →
      W p l e R s m args below meth c H locs cells slots Qf (F0 m pc ls (st.map (k_cv G.1)))
/-- a method's end -/
def k_Q (G : KG) (Q : Option KV → KM → Prop) : Array Value → State → Outcome → State → Prop := fun _ st o t => (∃ (r : Option KV) (M' : KM), Q r M' ∧ o = .returned (r.map (k_cv G.1)) ∧ k_HW G M' t.heap) ∧ k_FR G st.heap t.heap
def k_P (G : KG) (as : List KV) (M : KM) : Array Value → State → Prop := fun v U => v = (as.map (k_cv G.1)).toArray ∧ k_HW G M U.heap ∧ va_K G.2.1 vwCl (k_tys G) U
def Zm (Q : Option KV → KM → Prop) : KZ := fun G Hb _ _ _ _ s _ args below _ _ cells slots Qf => Hb = s.heap ∧ cells = 0 ∧ slots = 0 ∧ Qf = MQ below (k_Q G Q) args s 0 0 (k_rng G)
abbrev k_ws (I : KI) : List Cond := .code I.1 I.2.1 I.2.2.1 I.2.2.2.1 :: k_tb
def Ok (I : KI) (as : List KV) (M : KM) (Q : Option KV → KM → Prop) : Prop := ∀ (l : Launch) (G : KG), Met l I.1 (k_ws I) I.2.2.2.2 (k_P G as M) (k_Q G Q) 0 0 (k_rng G)
/-- a method that answers one value, and leaves one memory -/
def OkF (I : KI) (as : List KV) (M : KM) (r : Option KV) (M' : KM) : Prop := Ok I as M (fun a b => a = r ∧ b = M')
theorem k_lc_rep {b : Nat} : ∀ (l : List (Option KV)) (n k : Nat), k_lc b k (l ++ List.replicate n none) = k_lc b k l
  | [], 0, _ => rfl
  | [], n + 1, k => by
    show k_lc b k (List.replicate (n + 1) none) = _
    rw [List.replicate_succ, k_lc]
    exact k_lc_rep [] n (k + 1)
  | none :: r, n, k => by
    show k_lc b k (none :: (r ++ _)) = _
    rw [k_lc, k_lc]
    exact k_lc_rep r n (k + 1)
  | some v :: r, n, k => by
    show k_lc b k (some v :: (r ++ _)) = _
    rw [k_lc, k_lc, k_lc_rep r n (k + 1)]
theorem k_lc_args {b : Nat} : ∀ (as : List KV) (k : Nat), (∀ v ∈ as, k_cat v = 1) → lv_args k (as.map (k_cv b)) = k_lc b k (as.map some)
  | [], _, _ => rfl
  | v :: r, k, h => by
    have h1 : (k_cv b v).category = 1 := by rw [k_cat_eq]; exact h v List.mem_cons_self
    show lv_args k (k_cv b v :: r.map (k_cv b)) = k_lc b k (some v :: r.map some)
    rw [lv_args, k_lc, if_neg (by rw [h1]; decide), k_lc_args r (k + 1) (fun w hw => h w (List.mem_cons_of_mem _ hw))]
theorem k_sl_len {b : Nat} : ∀ (as : List KV), (∀ v ∈ as, k_cat v = 1) → (lg_sl (as.map (k_cv b))).length = as.length
  | [], _ => rfl
  | v :: r, h => by
    have h1 : (k_cv b v).category = 1 := by rw [k_cat_eq]; exact h v List.mem_cons_self
    have h2 := k_sl_len (b := b) r (fun w hw => h w (List.mem_cons_of_mem _ hw))
    unfold lg_sl at h2 ⊢
    rw [List.map_cons, List.flatMap_cons, if_neg (by rw [h1]; decide), List.length_append, h2]
    simp; omega
theorem ok_of {I : KI} {as : List KV} {M : KM} {Q : Option KV → KM → Prop} (hn : plainName I.1.cls = true) (hc : as.all (fun v => k_cat v == 1) = true) (hlen : as.length ≤ I.2.2.1)
    (hrm : I.2.2.2.2.cells = 0 ∧ I.2.2.2.2.slots = 0) (h : Go I (Zm Q) M (as.map some ++ List.replicate (I.2.2.1 - as.length) none) [] 0) : Ok I as M Q := by
  intro l G
  refine Met.ofW (cc := I.2.1) (maxL := I.2.2.1) (ret := I.2.2.2.1) (ws' := k_tb) hn rfl ?_
  intro p e s m args below meth c s₁ B hml hv
  obtain ⟨rfl, hW, hK⟩ := hv
  have hcat : ∀ v ∈ as, k_cat v = 1 := fun v hv => by simpa using List.all_eq_true.mp hc v hv
  have hts := atoms_spec (ws := k_ws I) B.pre
  have hl := lv_entry (as.map (k_cv G.1)) (n := I.2.2.1) (by rw [k_sl_len as hcat]; exact hlen)
  rw [lg_entry_eq]
  rw [k_lc_args as 0 hcat, ← k_lc_rep (as.map some) (I.2.2.1 - as.length) 0] at hl
  exact h G s.heap p l e _ s m _ below meth c 0 0 _ ⟨B.exec, B.bytes, hml, B.returns, findClass_of_methodNamed B.named, B.notSynchronized, fun w hw => hts w (List.mem_cons_of_mem _ hw), hK, rfl, rfl, Nat.zero_le _, Nat.zero_le _⟩ ⟨rfl, rfl, rfl, rfl⟩ s.heap _ [] hW k_FR.rf (fun q hq => by cases hq) hl
/-- entering a goal -/
theorem go_weak {I : KI} {Z : KZ} {M : KM} {l1 l2 : List (Option KV)} {st : List KV} {pc : Nat} (hle : k_le l1 l2) (h : Go I Z M l1 st pc) : Go I Z M l2 st pc := by
  intro G Hb p l e R s m args below meth c cells slots Qf hC hZ H ls locs hW hF hL hl
  exact h G Hb p l e R s m args below meth c cells slots Qf hC hZ H ls locs hW hF hL (k_lc_le hle hl)
theorem k_P1 {D : va_G} {a : Nat} {e : va_E} {H : Heap} (h : va_at D vwCl (a, e) H) : va_P D vwCl [(a, e)] H := fun k q hq => by
  cases k with
  | zero =>
    have : (a, e) = q := by simpa using hq
    rw [← this]; exact h
  | succ k => simp at hq
end
section
theorem go_iadd {I : KI} {Z : KZ} {M : KM} {loc : List (Option KV)} {st : List KV} {pc q : Nat} {x y : Int32} (hd : decode I.2.1 pc = .ok (.iadd, 1))  (hq : pc + 1 = q) (h : Go I Z M loc (vI (x + y) :: st) q) : Go I Z M loc (vI y :: vI x :: st) pc := by
  subst hq
  intro G Hb p l e R s m args below meth c cells slots Qf hC hZ H ls locs hW hF hL hl
  obtain ⟨hx, hb, hml, hrt, hown, hlk, hts, hK, hRf, hRl, hce, hsl⟩ := id hC
  exact lv_iadd hx hb hd  (h G Hb p l e R s m args below meth c cells slots Qf hC hZ H ls locs hW hF hL hl)
theorem go_isub {I : KI} {Z : KZ} {M : KM} {loc : List (Option KV)} {st : List KV} {pc q : Nat} {x y : Int32} (hd : decode I.2.1 pc = .ok (.isub, 1))  (hq : pc + 1 = q) (h : Go I Z M loc (vI (x - y) :: st) q) : Go I Z M loc (vI y :: vI x :: st) pc := by
  subst hq
  intro G Hb p l e R s m args below meth c cells slots Qf hC hZ H ls locs hW hF hL hl
  obtain ⟨hx, hb, hml, hrt, hown, hlk, hts, hK, hRf, hRl, hce, hsl⟩ := id hC
  exact lv_isub hx hb hd  (h G Hb p l e R s m args below meth c cells slots Qf hC hZ H ls locs hW hF hL hl)
theorem go_imul {I : KI} {Z : KZ} {M : KM} {loc : List (Option KV)} {st : List KV} {pc q : Nat} {x y : Int32} (hd : decode I.2.1 pc = .ok (.imul, 1))  (hq : pc + 1 = q) (h : Go I Z M loc (vI (x * y) :: st) q) : Go I Z M loc (vI y :: vI x :: st) pc := by
  subst hq
  intro G Hb p l e R s m args below meth c cells slots Qf hC hZ H ls locs hW hF hL hl
  obtain ⟨hx, hb, hml, hrt, hown, hlk, hts, hK, hRf, hRl, hce, hsl⟩ := id hC
  exact lv_imul hx hb hd  (h G Hb p l e R s m args below meth c cells slots Qf hC hZ H ls locs hW hF hL hl)
theorem go_iand {I : KI} {Z : KZ} {M : KM} {loc : List (Option KV)} {st : List KV} {pc q : Nat} {x y : Int32} (hd : decode I.2.1 pc = .ok (.iand, 1))  (hq : pc + 1 = q) (h : Go I Z M loc (vI (x &&& y) :: st) q) : Go I Z M loc (vI y :: vI x :: st) pc := by
  subst hq
  intro G Hb p l e R s m args below meth c cells slots Qf hC hZ H ls locs hW hF hL hl
  obtain ⟨hx, hb, hml, hrt, hown, hlk, hts, hK, hRf, hRl, hce, hsl⟩ := id hC
  exact lv_iand hx hb hd  (h G Hb p l e R s m args below meth c cells slots Qf hC hZ H ls locs hW hF hL hl)
theorem go_ishr {I : KI} {Z : KZ} {M : KM} {loc : List (Option KV)} {st : List KV} {pc q : Nat} {x y : Int32} (hd : decode I.2.1 pc = .ok (.ishr, 1))  (hq : pc + 1 = q) (h : Go I Z M loc (vI (x >>> (y &&& 31)) :: st) q) : Go I Z M loc (vI y :: vI x :: st) pc := by
  subst hq
  intro G Hb p l e R s m args below meth c cells slots Qf hC hZ H ls locs hW hF hL hl
  obtain ⟨hx, hb, hml, hrt, hown, hlk, hts, hK, hRf, hRl, hce, hsl⟩ := id hC
  exact lv_ishr hx hb hd  (h G Hb p l e R s m args below meth c cells slots Qf hC hZ H ls locs hW hF hL hl)
theorem go_idiv {I : KI} {Z : KZ} {M : KM} {loc : List (Option KV)} {st : List KV} {pc q : Nat} {x y : Int32} (hd : decode I.2.1 pc = .ok (.idiv, 1)) (hne : ¬ y = 0) (hq : pc + 1 = q) (h : Go I Z M loc (vI (x / y) :: st) q) : Go I Z M loc (vI y :: vI x :: st) pc := by
  subst hq
  intro G Hb p l e R s m args below meth c cells slots Qf hC hZ H ls locs hW hF hL hl
  obtain ⟨hx, hb, hml, hrt, hown, hlk, hts, hK, hRf, hRl, hce, hsl⟩ := id hC
  exact lv_idiv hx hb hd hne (h G Hb p l e R s m args below meth c cells slots Qf hC hZ H ls locs hW hF hL hl)
theorem go_irem {I : KI} {Z : KZ} {M : KM} {loc : List (Option KV)} {st : List KV} {pc q : Nat} {x y : Int32} (hd : decode I.2.1 pc = .ok (.irem, 1)) (hne : ¬ y = 0) (hq : pc + 1 = q) (h : Go I Z M loc (vI (x - x / y * y) :: st) q) : Go I Z M loc (vI y :: vI x :: st) pc := by
  subst hq
  intro G Hb p l e R s m args below meth c cells slots Qf hC hZ H ls locs hW hF hL hl
  obtain ⟨hx, hb, hml, hrt, hown, hlk, hts, hK, hRf, hRl, hce, hsl⟩ := id hC
  exact lv_irem hx hb hd hne (h G Hb p l e R s m args below meth c cells slots Qf hC hZ H ls locs hW hF hL hl)
theorem go_land {I : KI} {Z : KZ} {M : KM} {loc : List (Option KV)} {st : List KV} {pc q : Nat} {x y : Int64} (hd : decode I.2.1 pc = .ok (.land, 1))  (hq : pc + 1 = q) (h : Go I Z M loc (vJ (x &&& y) :: st) q) : Go I Z M loc (vJ y :: vJ x :: st) pc := by
  subst hq
  intro G Hb p l e R s m args below meth c cells slots Qf hC hZ H ls locs hW hF hL hl
  obtain ⟨hx, hb, hml, hrt, hown, hlk, hts, hK, hRf, hRl, hce, hsl⟩ := id hC
  exact lv_land hx hb hd  (h G Hb p l e R s m args below meth c cells slots Qf hC hZ H ls locs hW hF hL hl)
theorem go_lor {I : KI} {Z : KZ} {M : KM} {loc : List (Option KV)} {st : List KV} {pc q : Nat} {x y : Int64} (hd : decode I.2.1 pc = .ok (.lor, 1))  (hq : pc + 1 = q) (h : Go I Z M loc (vJ (x ||| y) :: st) q) : Go I Z M loc (vJ y :: vJ x :: st) pc := by
  subst hq
  intro G Hb p l e R s m args below meth c cells slots Qf hC hZ H ls locs hW hF hL hl
  obtain ⟨hx, hb, hml, hrt, hown, hlk, hts, hK, hRf, hRl, hce, hsl⟩ := id hC
  exact lv_lor hx hb hd  (h G Hb p l e R s m args below meth c cells slots Qf hC hZ H ls locs hW hF hL hl)
theorem go_lushr {I : KI} {Z : KZ} {M : KM} {loc : List (Option KV)} {st : List KV} {pc q : Nat} {x : Int64} {y : Int32} (hd : decode I.2.1 pc = .ok (.lushr, 1))  (hq : pc + 1 = q) (h : Go I Z M loc (vJ (x.toUInt64 >>> (y.toInt64.toUInt64 &&& Int64.toUInt64 63)).toInt64 :: st) q) : Go I Z M loc (vI y :: vJ x :: st) pc := by
  subst hq
  intro G Hb p l e R s m args below meth c cells slots Qf hC hZ H ls locs hW hF hL hl
  obtain ⟨hx, hb, hml, hrt, hown, hlk, hts, hK, hRf, hRl, hce, hsl⟩ := id hC
  exact lv_lushr hx hb hd rfl (h G Hb p l e R s m args below meth c cells slots Qf hC hZ H ls locs hW hF hL hl)
theorem go_lshl {I : KI} {Z : KZ} {M : KM} {loc : List (Option KV)} {st : List KV} {pc q : Nat} {x : Int64} {y : Int32} (hd : decode I.2.1 pc = .ok (.lshl, 1))  (hq : pc + 1 = q) (h : Go I Z M loc (vJ (x <<< (y.toInt64 &&& 63)) :: st) q) : Go I Z M loc (vI y :: vJ x :: st) pc := by
  subst hq
  intro G Hb p l e R s m args below meth c cells slots Qf hC hZ H ls locs hW hF hL hl
  obtain ⟨hx, hb, hml, hrt, hown, hlk, hts, hK, hRf, hRl, hce, hsl⟩ := id hC
  exact lv_lshl hx hb hd rfl (h G Hb p l e R s m args below meth c cells slots Qf hC hZ H ls locs hW hF hL hl)
theorem go_lcmp {I : KI} {Z : KZ} {M : KM} {loc : List (Option KV)} {st : List KV} {pc q : Nat} {x y : Int64} (hd : decode I.2.1 pc = .ok (.lcmp, 1))  (hq : pc + 1 = q) (h : Go I Z M loc (vI (lg_cmp x y) :: st) q) : Go I Z M loc (vJ y :: vJ x :: st) pc := by
  subst hq
  intro G Hb p l e R s m args below meth c cells slots Qf hC hZ H ls locs hW hF hL hl
  obtain ⟨hx, hb, hml, hrt, hown, hlk, hts, hK, hRf, hRl, hce, hsl⟩ := id hC
  exact W.lcmp hx hb hd  (h G Hb p l e R s m args below meth c cells slots Qf hC hZ H ls locs hW hF hL hl)
theorem go_iconst {I : KI} {Z : KZ} {M : KM} {loc : List (Option KV)} {st : List KV} {pc q : Nat} {n : Int} {v : Int32} (hd : decode I.2.1 pc = .ok (.iconst n, 1)) (hv : Int32.ofInt n = v) (hq : pc + 1 = q) (h : Go I Z M loc (vI v :: st) q) : Go I Z M loc (st) pc := by
  subst hq
  intro G Hb p l e R s m args below meth c cells slots Qf hC hZ H ls locs hW hF hL hl
  obtain ⟨hx, hb, hml, hrt, hown, hlk, hts, hK, hRf, hRl, hce, hsl⟩ := id hC
  exact lv_iconst hx hb hd hv (h G Hb p l e R s m args below meth c cells slots Qf hC hZ H ls locs hW hF hL hl)
theorem go_bipush {I : KI} {Z : KZ} {M : KM} {loc : List (Option KV)} {st : List KV} {pc q : Nat} {n : Int} {v : Int32} (hd : decode I.2.1 pc = .ok (.bipush n, 2)) (hv : (Int8.ofInt n).toInt32 = v) (hq : pc + 2 = q) (h : Go I Z M loc (vI v :: st) q) : Go I Z M loc (st) pc := by
  subst hq
  intro G Hb p l e R s m args below meth c cells slots Qf hC hZ H ls locs hW hF hL hl
  obtain ⟨hx, hb, hml, hrt, hown, hlk, hts, hK, hRf, hRl, hce, hsl⟩ := id hC
  exact lv_bipush hx hb hd hv (h G Hb p l e R s m args below meth c cells slots Qf hC hZ H ls locs hW hF hL hl)
theorem go_sipush {I : KI} {Z : KZ} {M : KM} {loc : List (Option KV)} {st : List KV} {pc q : Nat} {n : Int} {v : Int32} (hd : decode I.2.1 pc = .ok (.sipush n, 3)) (hv : (Int16.ofInt n).toInt32 = v) (hq : pc + 3 = q) (h : Go I Z M loc (vI v :: st) q) : Go I Z M loc (st) pc := by
  subst hq
  intro G Hb p l e R s m args below meth c cells slots Qf hC hZ H ls locs hW hF hL hl
  obtain ⟨hx, hb, hml, hrt, hown, hlk, hts, hK, hRf, hRl, hce, hsl⟩ := id hC
  exact lv_sipush hx hb hd hv (h G Hb p l e R s m args below meth c cells slots Qf hC hZ H ls locs hW hF hL hl)
theorem go_lconst {I : KI} {Z : KZ} {M : KM} {loc : List (Option KV)} {st : List KV} {pc q : Nat} {n : Fin 2} {v : Int64} (hd : decode I.2.1 pc = .ok (.lconst n, 1)) (hv : Int64.ofNat (n : Nat) = v) (hq : pc + 1 = q) (h : Go I Z M loc (vJ v :: st) q) : Go I Z M loc (st) pc := by
  subst hq
  intro G Hb p l e R s m args below meth c cells slots Qf hC hZ H ls locs hW hF hL hl
  obtain ⟨hx, hb, hml, hrt, hown, hlk, hts, hK, hRf, hRl, hce, hsl⟩ := id hC
  exact lv_lconst hx hb hd hv (h G Hb p l e R s m args below meth c cells slots Qf hC hZ H ls locs hW hF hL hl)
theorem go_null {I : KI} {Z : KZ} {M : KM} {loc : List (Option KV)} {st : List KV} {pc q : Nat}  (hd : decode I.2.1 pc = .ok (.aconst_null, 1))  (hq : pc + 1 = q) (h : Go I Z M loc (vN :: st) q) : Go I Z M loc (st) pc := by
  subst hq
  intro G Hb p l e R s m args below meth c cells slots Qf hC hZ H ls locs hW hF hL hl
  obtain ⟨hx, hb, hml, hrt, hown, hlk, hts, hK, hRf, hRl, hce, hsl⟩ := id hC
  exact lv_null hx hb hd  (h G Hb p l e R s m args below meth c cells slots Qf hC hZ H ls locs hW hF hL hl)
theorem go_dconst0 {I : KI} {Z : KZ} {M : KM} {loc : List (Option KV)} {st : List KV} {pc q : Nat}  (hd : decode I.2.1 pc = .ok (.dconst 0, 1))  (hq : pc + 1 = q) (h : Go I Z M loc (vD FP.dconst0 :: st) q) : Go I Z M loc (st) pc := by
  subst hq
  intro G Hb p l e R s m args below meth c cells slots Qf hC hZ H ls locs hW hF hL hl
  obtain ⟨hx, hb, hml, hrt, hown, hlk, hts, hK, hRf, hRl, hce, hsl⟩ := id hC
  exact lv_dconst0 hx hb hd  (h G Hb p l e R s m args below meth c cells slots Qf hC hZ H ls locs hW hF hL hl)
theorem go_i2d {I : KI} {Z : KZ} {M : KM} {loc : List (Option KV)} {st : List KV} {pc q : Nat} {x : Int32} (hd : decode I.2.1 pc = .ok (.i2d, 1))  (hq : pc + 1 = q) (h : Go I Z M loc (vD (FP.i2d x) :: st) q) : Go I Z M loc (vI x :: st) pc := by
  subst hq
  intro G Hb p l e R s m args below meth c cells slots Qf hC hZ H ls locs hW hF hL hl
  obtain ⟨hx, hb, hml, hrt, hown, hlk, hts, hK, hRf, hRl, hce, hsl⟩ := id hC
  exact lv_i2d hx hb hd  (h G Hb p l e R s m args below meth c cells slots Qf hC hZ H ls locs hW hF hL hl)
theorem go_dcmp {I : KI} {Z : KZ} {M : KM} {loc : List (Option KV)} {st : List KV} {pc q : Nat} {x y : UInt64} {op : CmpOp} (hd : decode I.2.1 pc = .ok (.dcmp op, 1))  (hq : pc + 1 = q) (h : Go I Z M loc (vI (Op.cmpValue (FP.dcmp x y) op) :: st) q) : Go I Z M loc (vD y :: vD x :: st) pc := by
  subst hq
  intro G Hb p l e R s m args below meth c cells slots Qf hC hZ H ls locs hW hF hL hl
  obtain ⟨hx, hb, hml, hrt, hown, hlk, hts, hK, hRf, hRl, hce, hsl⟩ := id hC
  exact lv_dcmp hx hb hd  (h G Hb p l e R s m args below meth c cells slots Qf hC hZ H ls locs hW hF hL hl)
theorem go_ddiv {I : KI} {Z : KZ} {M : KM} {loc : List (Option KV)} {st : List KV} {pc q : Nat} {x y : UInt64} (hd : decode I.2.1 pc = .ok (.ddiv, 1)) (hne : vf_n64 (FP.ddiv x y)) (hq : pc + 1 = q) (h : Go I Z M loc (vD (FP.ddiv x y) :: st) q) : Go I Z M loc (vD y :: vD x :: st) pc := by
  subst hq
  intro G Hb p l e R s m args below meth c cells slots Qf hC hZ H ls locs hW hF hL hl
  obtain ⟨hx, hb, hml, hrt, hown, hlk, hts, hK, hRf, hRl, hce, hsl⟩ := id hC
  exact lv_ddiv hx hb hd hne (h G Hb p l e R s m args below meth c cells slots Qf hC hZ H ls locs hW hF hL hl)
theorem go_dup {I : KI} {Z : KZ} {M : KM} {loc : List (Option KV)} {st : List KV} {pc q : Nat} {a : KV} (hd : decode I.2.1 pc = .ok (.dup, 1)) (ha : k_cat a = 1) (hq : pc + 1 = q) (h : Go I Z M loc (a :: a :: st) q) : Go I Z M loc (a :: st) pc := by
  subst hq
  intro G Hb p l e R s m args below meth c cells slots Qf hC hZ H ls locs hW hF hL hl
  obtain ⟨hx, hb, hml, hrt, hown, hlk, hts, hK, hRf, hRl, hce, hsl⟩ := id hC
  exact lv_dup hx hb hd (by rw [k_cat_eq]; exact ha) (h G Hb p l e R s m args below meth c cells slots Qf hC hZ H ls locs hW hF hL hl)
theorem go_pop {I : KI} {Z : KZ} {M : KM} {loc : List (Option KV)} {st : List KV} {pc q : Nat} {a : KV} (hd : decode I.2.1 pc = .ok (.pop, 1)) (ha : k_cat a = 1) (hq : pc + 1 = q) (h : Go I Z M loc (st) q) : Go I Z M loc (a :: st) pc := by
  subst hq
  intro G Hb p l e R s m args below meth c cells slots Qf hC hZ H ls locs hW hF hL hl
  obtain ⟨hx, hb, hml, hrt, hown, hlk, hts, hK, hRf, hRl, hce, hsl⟩ := id hC
  exact lv_pop hx hb hd (by rw [k_cat_eq]; exact ha) (h G Hb p l e R s m args below meth c cells slots Qf hC hZ H ls locs hW hF hL hl)
theorem go_dup2 {I : KI} {Z : KZ} {M : KM} {loc : List (Option KV)} {st : List KV} {pc q : Nat} {a b : KV} (hd : decode I.2.1 pc = .ok (.dup2, 1)) (ha : k_cat a = 1) (hb2 : k_cat b = 1) (hq : pc + 1 = q) (h : Go I Z M loc (a :: b :: a :: b :: st) q) : Go I Z M loc (a :: b :: st) pc := by
  subst hq
  intro G Hb p l e R s m args below meth c cells slots Qf hC hZ H ls locs hW hF hL hl
  obtain ⟨hx, hb, hml, hrt, hown, hlk, hts, hK, hRf, hRl, hce, hsl⟩ := id hC
  exact lv_dup2_11 hx hb hd (by rw [k_cat_eq]; exact ha) (by rw [k_cat_eq]; exact hb2) (h G Hb p l e R s m args below meth c cells slots Qf hC hZ H ls locs hW hF hL hl)
theorem go_ifnull {I : KI} {Z : KZ} {M : KM} {loc : List (Option KV)} {st : List KV} {pc q : Nat} {k i : Nat} {off : Int} (hd : decode I.2.1 pc = .ok (.ifnull off, 3))  (hq : pc + 3 = q) (h : Go I Z M loc (st) q) : Go I Z M loc (vR k i :: st) pc := by
  subst hq
  intro G Hb p l e R s m args below meth c cells slots Qf hC hZ H ls locs hW hF hL hl
  obtain ⟨hx, hb, hml, hrt, hown, hlk, hts, hK, hRf, hRl, hce, hsl⟩ := id hC
  exact lv_ifnull hx hb hd  (h G Hb p l e R s m args below meth c cells slots Qf hC hZ H ls locs hW hF hL hl)
theorem go_goto {I : KI} {Z : KZ} {M : KM} {loc : List (Option KV)} {st : List KV} {pc q : Nat} {off : Int} (hd : decode I.2.1 pc = .ok (.goto off, 3)) (ht : (pc : Int) + off = (q : Int)) (h : Go I Z M loc st q) : Go I Z M loc st pc := by
  intro G Hb p l e R s m args below meth c cells slots Qf hC hZ H ls locs hW hF hL hl
  obtain ⟨hx, hb, hml, hrt, hown, hlk, hts, hK, hRf, hRl, hce, hsl⟩ := id hC
  exact lv_goto hx hb hd ht (h G Hb p l e R s m args below meth c cells slots Qf hC hZ H ls locs hW hF hL hl)
theorem go_ifnullN {I : KI} {Z : KZ} {M : KM} {loc : List (Option KV)} {st : List KV} {pc q : Nat} {off : Int} (hd : decode I.2.1 pc = .ok (.ifnull off, 3)) (ht : (pc : Int) + off = (q : Int)) (h : Go I Z M loc st q) : Go I Z M loc (vN :: st) pc := by
  intro G Hb p l e R s m args below meth c cells slots Qf hC hZ H ls locs hW hF hL hl
  obtain ⟨hx, hb, hml, hrt, hown, hlk, hts, hK, hRf, hRl, hce, hsl⟩ := id hC
  exact lv_ifnullN hx hb hd ht (h G Hb p l e R s m args below meth c cells slots Qf hC hZ H ls locs hW hF hL hl)
theorem go_if_eq {I : KI} {Z : KZ} {M : KM} {loc : List (Option KV)} {st : List KV} {pc q t : Nat} {x : Int32} {off : Int} (hd : decode I.2.1 pc = .ok (.ifCond .eq off, 3)) (ht : (pc : Int) + off = (t : Int)) (hq : pc + 3 = q) (ht1 : x = 0 → Go I Z M loc st t) (hf1 : ¬ (x = 0) → Go I Z M loc st q) : Go I Z M loc (vI x :: st) pc := by
  subst hq
  intro G Hb p l e R s m args below meth c cells slots Qf hC hZ H ls locs hW hF hL hl
  obtain ⟨hx, hb, hml, hrt, hown, hlk, hts, hK, hRf, hRl, hce, hsl⟩ := id hC
  exact lv_if_eq hx hb hd ht (fun z => ht1 z G Hb p l e R s m args below meth c cells slots Qf hC hZ H ls locs hW hF hL hl) (fun z => hf1 z G Hb p l e R s m args below meth c cells slots Qf hC hZ H ls locs hW hF hL hl)
theorem go_if_lt {I : KI} {Z : KZ} {M : KM} {loc : List (Option KV)} {st : List KV} {pc q t : Nat} {x : Int32} {off : Int} (hd : decode I.2.1 pc = .ok (.ifCond .lt off, 3)) (ht : (pc : Int) + off = (t : Int)) (hq : pc + 3 = q) (ht1 : x < 0 → Go I Z M loc st t) (hf1 : ¬ (x < 0) → Go I Z M loc st q) : Go I Z M loc (vI x :: st) pc := by
  subst hq
  intro G Hb p l e R s m args below meth c cells slots Qf hC hZ H ls locs hW hF hL hl
  obtain ⟨hx, hb, hml, hrt, hown, hlk, hts, hK, hRf, hRl, hce, hsl⟩ := id hC
  exact lv_if_lt hx hb hd ht (fun z => ht1 z G Hb p l e R s m args below meth c cells slots Qf hC hZ H ls locs hW hF hL hl) (fun z => hf1 z G Hb p l e R s m args below meth c cells slots Qf hC hZ H ls locs hW hF hL hl)
theorem go_if_ge {I : KI} {Z : KZ} {M : KM} {loc : List (Option KV)} {st : List KV} {pc q t : Nat} {x : Int32} {off : Int} (hd : decode I.2.1 pc = .ok (.ifCond .ge off, 3)) (ht : (pc : Int) + off = (t : Int)) (hq : pc + 3 = q) (ht1 : 0 ≤ x → Go I Z M loc st t) (hf1 : ¬ (0 ≤ x) → Go I Z M loc st q) : Go I Z M loc (vI x :: st) pc := by
  subst hq
  intro G Hb p l e R s m args below meth c cells slots Qf hC hZ H ls locs hW hF hL hl
  obtain ⟨hx, hb, hml, hrt, hown, hlk, hts, hK, hRf, hRl, hce, hsl⟩ := id hC
  exact lv_if_ge hx hb hd ht (fun z => ht1 z G Hb p l e R s m args below meth c cells slots Qf hC hZ H ls locs hW hF hL hl) (fun z => hf1 z G Hb p l e R s m args below meth c cells slots Qf hC hZ H ls locs hW hF hL hl)
theorem go_if_gt {I : KI} {Z : KZ} {M : KM} {loc : List (Option KV)} {st : List KV} {pc q t : Nat} {x : Int32} {off : Int} (hd : decode I.2.1 pc = .ok (.ifCond .gt off, 3)) (ht : (pc : Int) + off = (t : Int)) (hq : pc + 3 = q) (ht1 : 0 < x → Go I Z M loc st t) (hf1 : ¬ (0 < x) → Go I Z M loc st q) : Go I Z M loc (vI x :: st) pc := by
  subst hq
  intro G Hb p l e R s m args below meth c cells slots Qf hC hZ H ls locs hW hF hL hl
  obtain ⟨hx, hb, hml, hrt, hown, hlk, hts, hK, hRf, hRl, hce, hsl⟩ := id hC
  exact lv_if_gt hx hb hd ht (fun z => ht1 z G Hb p l e R s m args below meth c cells slots Qf hC hZ H ls locs hW hF hL hl) (fun z => hf1 z G Hb p l e R s m args below meth c cells slots Qf hC hZ H ls locs hW hF hL hl)
theorem go_if_le {I : KI} {Z : KZ} {M : KM} {loc : List (Option KV)} {st : List KV} {pc q t : Nat} {x : Int32} {off : Int} (hd : decode I.2.1 pc = .ok (.ifCond .le off, 3)) (ht : (pc : Int) + off = (t : Int)) (hq : pc + 3 = q) (ht1 : x ≤ 0 → Go I Z M loc st t) (hf1 : ¬ (x ≤ 0) → Go I Z M loc st q) : Go I Z M loc (vI x :: st) pc := by
  subst hq
  intro G Hb p l e R s m args below meth c cells slots Qf hC hZ H ls locs hW hF hL hl
  obtain ⟨hx, hb, hml, hrt, hown, hlk, hts, hK, hRf, hRl, hce, hsl⟩ := id hC
  exact lv_if_le hx hb hd ht (fun z => ht1 z G Hb p l e R s m args below meth c cells slots Qf hC hZ H ls locs hW hF hL hl) (fun z => hf1 z G Hb p l e R s m args below meth c cells slots Qf hC hZ H ls locs hW hF hL hl)
theorem go_if_ne {I : KI} {Z : KZ} {M : KM} {loc : List (Option KV)} {st : List KV} {pc q t : Nat} {x : Int32} {off : Int} (hd : decode I.2.1 pc = .ok (.ifCond .ne off, 3)) (ht : (pc : Int) + off = (t : Int)) (hq : pc + 3 = q) (ht1 : x ≠ 0 → Go I Z M loc st t) (hf1 : ¬ (x ≠ 0) → Go I Z M loc st q) : Go I Z M loc (vI x :: st) pc := by
  subst hq
  intro G Hb p l e R s m args below meth c cells slots Qf hC hZ H ls locs hW hF hL hl
  obtain ⟨hx, hb, hml, hrt, hown, hlk, hts, hK, hRf, hRl, hce, hsl⟩ := id hC
  exact lv_if_ne hx hb hd ht (fun z => ht1 z G Hb p l e R s m args below meth c cells slots Qf hC hZ H ls locs hW hF hL hl) (fun z => hf1 (fun z2 => z2 z) G Hb p l e R s m args below meth c cells slots Qf hC hZ H ls locs hW hF hL hl)
theorem go_icmp_eq {I : KI} {Z : KZ} {M : KM} {loc : List (Option KV)} {st : List KV} {pc q t : Nat} {x y : Int32} {off : Int} (hd : decode I.2.1 pc = .ok (.if_icmp .eq off, 3)) (ht : (pc : Int) + off = (t : Int)) (hq : pc + 3 = q) (ht1 : x = y → Go I Z M loc st t) (hf1 : ¬ (x = y) → Go I Z M loc st q) : Go I Z M loc (vI y :: vI x :: st) pc := by
  subst hq
  intro G Hb p l e R s m args below meth c cells slots Qf hC hZ H ls locs hW hF hL hl
  obtain ⟨hx, hb, hml, hrt, hown, hlk, hts, hK, hRf, hRl, hce, hsl⟩ := id hC
  exact lv_icmp_eq hx hb hd ht (fun z => ht1 z G Hb p l e R s m args below meth c cells slots Qf hC hZ H ls locs hW hF hL hl) (fun z => hf1 z G Hb p l e R s m args below meth c cells slots Qf hC hZ H ls locs hW hF hL hl)
theorem go_icmp_lt {I : KI} {Z : KZ} {M : KM} {loc : List (Option KV)} {st : List KV} {pc q t : Nat} {x y : Int32} {off : Int} (hd : decode I.2.1 pc = .ok (.if_icmp .lt off, 3)) (ht : (pc : Int) + off = (t : Int)) (hq : pc + 3 = q) (ht1 : x < y → Go I Z M loc st t) (hf1 : ¬ (x < y) → Go I Z M loc st q) : Go I Z M loc (vI y :: vI x :: st) pc := by
  subst hq
  intro G Hb p l e R s m args below meth c cells slots Qf hC hZ H ls locs hW hF hL hl
  obtain ⟨hx, hb, hml, hrt, hown, hlk, hts, hK, hRf, hRl, hce, hsl⟩ := id hC
  exact lv_icmp_lt hx hb hd ht (fun z => ht1 z G Hb p l e R s m args below meth c cells slots Qf hC hZ H ls locs hW hF hL hl) (fun z => hf1 z G Hb p l e R s m args below meth c cells slots Qf hC hZ H ls locs hW hF hL hl)
theorem go_icmp_ge {I : KI} {Z : KZ} {M : KM} {loc : List (Option KV)} {st : List KV} {pc q t : Nat} {x y : Int32} {off : Int} (hd : decode I.2.1 pc = .ok (.if_icmp .ge off, 3)) (ht : (pc : Int) + off = (t : Int)) (hq : pc + 3 = q) (ht1 : y ≤ x → Go I Z M loc st t) (hf1 : ¬ (y ≤ x) → Go I Z M loc st q) : Go I Z M loc (vI y :: vI x :: st) pc := by
  subst hq
  intro G Hb p l e R s m args below meth c cells slots Qf hC hZ H ls locs hW hF hL hl
  obtain ⟨hx, hb, hml, hrt, hown, hlk, hts, hK, hRf, hRl, hce, hsl⟩ := id hC
  exact lv_icmp_ge hx hb hd ht (fun z => ht1 z G Hb p l e R s m args below meth c cells slots Qf hC hZ H ls locs hW hF hL hl) (fun z => hf1 z G Hb p l e R s m args below meth c cells slots Qf hC hZ H ls locs hW hF hL hl)
theorem go_icmp_gt {I : KI} {Z : KZ} {M : KM} {loc : List (Option KV)} {st : List KV} {pc q t : Nat} {x y : Int32} {off : Int} (hd : decode I.2.1 pc = .ok (.if_icmp .gt off, 3)) (ht : (pc : Int) + off = (t : Int)) (hq : pc + 3 = q) (ht1 : y < x → Go I Z M loc st t) (hf1 : ¬ (y < x) → Go I Z M loc st q) : Go I Z M loc (vI y :: vI x :: st) pc := by
  subst hq
  intro G Hb p l e R s m args below meth c cells slots Qf hC hZ H ls locs hW hF hL hl
  obtain ⟨hx, hb, hml, hrt, hown, hlk, hts, hK, hRf, hRl, hce, hsl⟩ := id hC
  exact lv_icmp_gt hx hb hd ht (fun z => ht1 z G Hb p l e R s m args below meth c cells slots Qf hC hZ H ls locs hW hF hL hl) (fun z => hf1 z G Hb p l e R s m args below meth c cells slots Qf hC hZ H ls locs hW hF hL hl)
theorem go_icmp_le {I : KI} {Z : KZ} {M : KM} {loc : List (Option KV)} {st : List KV} {pc q t : Nat} {x y : Int32} {off : Int} (hd : decode I.2.1 pc = .ok (.if_icmp .le off, 3)) (ht : (pc : Int) + off = (t : Int)) (hq : pc + 3 = q) (ht1 : x ≤ y → Go I Z M loc st t) (hf1 : ¬ (x ≤ y) → Go I Z M loc st q) : Go I Z M loc (vI y :: vI x :: st) pc := by
  subst hq
  intro G Hb p l e R s m args below meth c cells slots Qf hC hZ H ls locs hW hF hL hl
  obtain ⟨hx, hb, hml, hrt, hown, hlk, hts, hK, hRf, hRl, hce, hsl⟩ := id hC
  exact lv_icmp_le hx hb hd ht (fun z => ht1 z G Hb p l e R s m args below meth c cells slots Qf hC hZ H ls locs hW hF hL hl) (fun z => hf1 z G Hb p l e R s m args below meth c cells slots Qf hC hZ H ls locs hW hF hL hl)
theorem go_icmp_ne {I : KI} {Z : KZ} {M : KM} {loc : List (Option KV)} {st : List KV} {pc q t : Nat} {x y : Int32} {off : Int} (hd : decode I.2.1 pc = .ok (.if_icmp .ne off, 3)) (ht : (pc : Int) + off = (t : Int)) (hq : pc + 3 = q) (ht1 : x ≠ y → Go I Z M loc st t) (hf1 : ¬ (x ≠ y) → Go I Z M loc st q) : Go I Z M loc (vI y :: vI x :: st) pc := by
  subst hq
  intro G Hb p l e R s m args below meth c cells slots Qf hC hZ H ls locs hW hF hL hl
  obtain ⟨hx, hb, hml, hrt, hown, hlk, hts, hK, hRf, hRl, hce, hsl⟩ := id hC
  exact lv_icmp_ne hx hb hd ht (fun z => ht1 z G Hb p l e R s m args below meth c cells slots Qf hC hZ H ls locs hW hF hL hl) (fun z => hf1 (fun z2 => z2 z) G Hb p l e R s m args below meth c cells slots Qf hC hZ H ls locs hW hF hL hl)
theorem go_iload_n {I : KI} {Z : KZ} {M : KM} {loc : List (Option KV)} {st : List KV} {pc q : Nat} {k : Fin 4} {i : Nat} {x : Int32} (hd : decode I.2.1 pc = .ok (.iload_n k, 1)) (hi : (k : Nat) = i) (hv : loc[i]? = some (some (vI x))) (hq : pc + 1 = q) (h : Go I Z M loc (vI x :: st) q) : Go I Z M loc st pc := by
  subst hq
  intro G Hb p l e R s m args below meth c cells slots Qf hC hZ H ls locs hW hF hL hl
  obtain ⟨hx, hb, hml, hrt, hown, hlk, hts, hK, hRf, hRl, hce, hsl⟩ := id hC
  exact lv_iload_n hx hb hd hi (k_lc_at hl hv) (h G Hb p l e R s m args below meth c cells slots Qf hC hZ H ls locs hW hF hL hl)
theorem go_iload {I : KI} {Z : KZ} {M : KM} {loc : List (Option KV)} {st : List KV} {pc q : Nat} {i : Nat} {x : Int32} (hd : decode I.2.1 pc = .ok (.iload i, 2))  (hv : loc[i]? = some (some (vI x))) (hq : pc + 2 = q) (h : Go I Z M loc (vI x :: st) q) : Go I Z M loc st pc := by
  subst hq
  intro G Hb p l e R s m args below meth c cells slots Qf hC hZ H ls locs hW hF hL hl
  obtain ⟨hx, hb, hml, hrt, hown, hlk, hts, hK, hRf, hRl, hce, hsl⟩ := id hC
  exact lv_iload hx hb hd (k_lc_at hl hv) (h G Hb p l e R s m args below meth c cells slots Qf hC hZ H ls locs hW hF hL hl)
theorem go_dload_n {I : KI} {Z : KZ} {M : KM} {loc : List (Option KV)} {st : List KV} {pc q : Nat} {k : Fin 4} {i : Nat} {x : UInt64} (hd : decode I.2.1 pc = .ok (.dload_n k, 1)) (hi : (k : Nat) = i) (hv : loc[i]? = some (some (vD x))) (hq : pc + 1 = q) (h : Go I Z M loc (vD x :: st) q) : Go I Z M loc st pc := by
  subst hq
  intro G Hb p l e R s m args below meth c cells slots Qf hC hZ H ls locs hW hF hL hl
  obtain ⟨hx, hb, hml, hrt, hown, hlk, hts, hK, hRf, hRl, hce, hsl⟩ := id hC
  exact lv_dload_n hx hb hd hi (k_lc_at hl hv) (h G Hb p l e R s m args below meth c cells slots Qf hC hZ H ls locs hW hF hL hl)
theorem go_dload {I : KI} {Z : KZ} {M : KM} {loc : List (Option KV)} {st : List KV} {pc q : Nat} {i : Nat} {x : UInt64} (hd : decode I.2.1 pc = .ok (.dload i, 2))  (hv : loc[i]? = some (some (vD x))) (hq : pc + 2 = q) (h : Go I Z M loc (vD x :: st) q) : Go I Z M loc st pc := by
  subst hq
  intro G Hb p l e R s m args below meth c cells slots Qf hC hZ H ls locs hW hF hL hl
  obtain ⟨hx, hb, hml, hrt, hown, hlk, hts, hK, hRf, hRl, hce, hsl⟩ := id hC
  exact lv_dload hx hb hd (k_lc_at hl hv) (h G Hb p l e R s m args below meth c cells slots Qf hC hZ H ls locs hW hF hL hl)
theorem go_aload_n {I : KI} {Z : KZ} {M : KM} {loc : List (Option KV)} {st : List KV} {pc q : Nat} {k : Fin 4} {i a b : Nat} (hd : decode I.2.1 pc = .ok (.aload_n k, 1)) (hi : (k : Nat) = i) (hv : loc[i]? = some (some (vR a b))) (hq : pc + 1 = q) (h : Go I Z M loc (vR a b :: st) q) : Go I Z M loc st pc := by
  subst hq
  intro G Hb p l e R s m args below meth c cells slots Qf hC hZ H ls locs hW hF hL hl
  obtain ⟨hx, hb, hml, hrt, hown, hlk, hts, hK, hRf, hRl, hce, hsl⟩ := id hC
  exact lv_aload_n hx hb hd hi (k_lc_at hl hv) (h G Hb p l e R s m args below meth c cells slots Qf hC hZ H ls locs hW hF hL hl)
theorem go_aload {I : KI} {Z : KZ} {M : KM} {loc : List (Option KV)} {st : List KV} {pc q : Nat} {i a b : Nat} (hd : decode I.2.1 pc = .ok (.aload i, 2))  (hv : loc[i]? = some (some (vR a b))) (hq : pc + 2 = q) (h : Go I Z M loc (vR a b :: st) q) : Go I Z M loc st pc := by
  subst hq
  intro G Hb p l e R s m args below meth c cells slots Qf hC hZ H ls locs hW hF hL hl
  obtain ⟨hx, hb, hml, hrt, hown, hlk, hts, hK, hRf, hRl, hce, hsl⟩ := id hC
  exact lv_aload hx hb hd (k_lc_at hl hv) (h G Hb p l e R s m args below meth c cells slots Qf hC hZ H ls locs hW hF hL hl)
theorem go_istore_n {I : KI} {Z : KZ} {M : KM} {loc : List (Option KV)} {st : List KV} {pc q : Nat} {k : Fin 4} {i : Nat} {x : Int32} (hd : decode I.2.1 pc = .ok (.istore_n k, 1)) (hi : (k : Nat) = i) (hn : i < I.2.2.1) (hc : k_nd loc i = true) (hq : pc + 1 = q) (h : Go I Z M (loc.set i (some (vI x))) st q) : Go I Z M loc (vI x :: st) pc := by
  subst hq
  intro G Hb p l e R s m args below meth c cells slots Qf hC hZ H ls locs hW hF hL hl
  obtain ⟨hx, hb, hml, hrt, hown, hlk, hts, hK, hRf, hRl, hce, hsl⟩ := id hC
  exact lv_istore_n hx hb hd hi hl hn rfl (fun ls' hl' => h G Hb p l e R s m args below meth c cells slots Qf hC hZ H ls' locs hW hF hL (k_lc_set hc hl'))
theorem go_istore {I : KI} {Z : KZ} {M : KM} {loc : List (Option KV)} {st : List KV} {pc q : Nat} {i : Nat} {x : Int32} (hd : decode I.2.1 pc = .ok (.istore i, 2))  (hn : i < I.2.2.1) (hc : k_nd loc i = true) (hq : pc + 2 = q) (h : Go I Z M (loc.set i (some (vI x))) st q) : Go I Z M loc (vI x :: st) pc := by
  subst hq
  intro G Hb p l e R s m args below meth c cells slots Qf hC hZ H ls locs hW hF hL hl
  obtain ⟨hx, hb, hml, hrt, hown, hlk, hts, hK, hRf, hRl, hce, hsl⟩ := id hC
  exact lv_istore hx hb hd hl hn rfl (fun ls' hl' => h G Hb p l e R s m args below meth c cells slots Qf hC hZ H ls' locs hW hF hL (k_lc_set hc hl'))
theorem go_astore_n {I : KI} {Z : KZ} {M : KM} {loc : List (Option KV)} {st : List KV} {pc q : Nat} {k : Fin 4} {i a b : Nat} (hd : decode I.2.1 pc = .ok (.astore_n k, 1)) (hi : (k : Nat) = i) (hn : i < I.2.2.1) (hc : k_nd loc i = true) (hq : pc + 1 = q) (h : Go I Z M (loc.set i (some (vR a b))) st q) : Go I Z M loc (vR a b :: st) pc := by
  subst hq
  intro G Hb p l e R s m args below meth c cells slots Qf hC hZ H ls locs hW hF hL hl
  obtain ⟨hx, hb, hml, hrt, hown, hlk, hts, hK, hRf, hRl, hce, hsl⟩ := id hC
  exact lv_astore_n hx hb hd hi hl hn rfl (fun ls' hl' => h G Hb p l e R s m args below meth c cells slots Qf hC hZ H ls' locs hW hF hL (k_lc_set hc hl'))
theorem go_astore {I : KI} {Z : KZ} {M : KM} {loc : List (Option KV)} {st : List KV} {pc q : Nat} {i a b : Nat} (hd : decode I.2.1 pc = .ok (.astore i, 2))  (hn : i < I.2.2.1) (hc : k_nd loc i = true) (hq : pc + 2 = q) (h : Go I Z M (loc.set i (some (vR a b))) st q) : Go I Z M loc (vR a b :: st) pc := by
  subst hq
  intro G Hb p l e R s m args below meth c cells slots Qf hC hZ H ls locs hW hF hL hl
  obtain ⟨hx, hb, hml, hrt, hown, hlk, hts, hK, hRf, hRl, hce, hsl⟩ := id hC
  exact lv_astore hx hb hd hl hn rfl (fun ls' hl' => h G Hb p l e R s m args below meth c cells slots Qf hC hZ H ls' locs hW hF hL (k_lc_set hc hl'))
theorem go_iinc {I : KI} {Z : KZ} {M : KM} {loc : List (Option KV)} {st : List KV} {pc q : Nat} {i : Nat} {n : Int} {x v : Int32} (hd : decode I.2.1 pc = .ok (.iinc i n, 3)) (hv : Int32.ofInt n = v) (hx0 : loc[i]? = some (some (vI x))) (hn : i < I.2.2.1) (hc : k_nd loc i = true) (hq : pc + 3 = q) (h : Go I Z M (loc.set i (some (vI (x + v)))) st q) : Go I Z M loc st pc := by
  subst hq; subst hv
  intro G Hb p l e R s m args below meth c cells slots Qf hC hZ H ls locs hW hF hL hl
  obtain ⟨hx, hb, hml, hrt, hown, hlk, hts, hK, hRf, hRl, hce, hsl⟩ := id hC
  obtain ⟨k, hk⟩ := List.mem_iff_getElem?.mp ((k_lc_mem loc 0 (i, .int x)).mpr ⟨i, vI x, hx0, by simp [k_cv]⟩)
  exact lv_iinc hx hb hd hl hk rfl hn rfl (fun ls' hl' => h G Hb p l e R s m args below meth c cells slots Qf hC hZ H ls' locs hW hF hL (k_lc_set hc hl'))
theorem go_ireti {I : KI} {Q : Option KV → KM → Prop} {M : KM} {loc : List (Option KV)} {pc : Nat} {x : Int32} (hd : decode I.2.1 pc = .ok (.ireturn, 1)) (hr : I.2.2.2.1 = some .int)  (h : Q (some (vI x)) M) : Go I (Zm Q) M loc ([vI x]) pc := by
  intro G Hb p l e R s m args below meth c cells slots Qf hC hZ H ls locs hW hF hL hl
  obtain ⟨hx, hb, hml, hrt, hown, hlk, hts, hK, hRf, hRl, hce, hsl⟩ := id hC
  obtain ⟨rfl, rfl, rfl, rfl⟩ := hZ
  exact W.iret hx hb (hrt.trans hr) (fun t ht _ => ⟨⟨_, M, h, rfl, by rw [ht]; exact hW⟩, by rw [ht]; exact hF⟩) hL hd (hlocks := hlk)
theorem go_iretz {I : KI} {Q : Option KV → KM → Prop} {M : KM} {loc : List (Option KV)} {pc : Nat} {x : Int32} (hd : decode I.2.1 pc = .ok (.ireturn, 1)) (hr : I.2.2.2.1 = some .boolean) (hz : narrow .boolean (.int x) = .int x) (h : Q (some (vI x)) M) : Go I (Zm Q) M loc ([vI x]) pc := by
  intro G Hb p l e R s m args below meth c cells slots Qf hC hZ H ls locs hW hF hL hl
  obtain ⟨hx, hb, hml, hrt, hown, hlk, hts, hK, hRf, hRl, hce, hsl⟩ := id hC
  obtain ⟨rfl, rfl, rfl, rfl⟩ := hZ
  exact W.zret hx hb (hrt.trans hr) hz (fun t ht _ => ⟨⟨_, M, h, rfl, by rw [ht]; exact hW⟩, by rw [ht]; exact hF⟩) hL hd (hlocks := hlk)
theorem go_vret {I : KI} {Q : Option KV → KM → Prop} {M : KM} {loc : List (Option KV)} {pc : Nat}  (hd : decode I.2.1 pc = .ok (.return_, 1)) (hr : I.2.2.2.1 = none)  (h : Q (none) M) : Go I (Zm Q) M loc ([]) pc := by
  intro G Hb p l e R s m args below meth c cells slots Qf hC hZ H ls locs hW hF hL hl
  obtain ⟨hx, hb, hml, hrt, hown, hlk, hts, hK, hRf, hRl, hce, hsl⟩ := id hC
  obtain ⟨rfl, rfl, rfl, rfl⟩ := hZ
  exact W.vret hx hb (hrt.trans hr) (fun t ht _ => ⟨⟨_, M, h, rfl, by rw [ht]; exact hW⟩, by rw [ht]; exact hF⟩) hL hd (hlocks := hlk)
theorem go_dret {I : KI} {Q : Option KV → KM → Prop} {M : KM} {loc : List (Option KV)} {pc : Nat} {x : UInt64} (hd : decode I.2.1 pc = .ok (.dreturn, 1)) (hr : I.2.2.2.1 = some .double)  (h : Q (some (vD x)) M) : Go I (Zm Q) M loc ([vD x]) pc := by
  intro G Hb p l e R s m args below meth c cells slots Qf hC hZ H ls locs hW hF hL hl
  obtain ⟨hx, hb, hml, hrt, hown, hlk, hts, hK, hRf, hRl, hce, hsl⟩ := id hC
  obtain ⟨rfl, rfl, rfl, rfl⟩ := hZ
  exact W.dret hx hb (hrt.trans hr) (fun t ht _ => ⟨⟨_, M, h, rfl, by rw [ht]; exact hW⟩, by rw [ht]; exact hF⟩) hL hd (hlocks := hlk)
theorem go_aret {I : KI} {Q : Option KV → KM → Prop} {M : KM} {loc : List (Option KV)} {pc : Nat} {a b : Nat} {C : String} (hd : decode I.2.1 pc = .ok (.areturn, 1)) (hr : I.2.2.2.1 = some (.object C))  (h : Q (some (vR a b)) M) : Go I (Zm Q) M loc ([vR a b]) pc := by
  intro G Hb p l e R s m args below meth c cells slots Qf hC hZ H ls locs hW hF hL hl
  obtain ⟨hx, hb, hml, hrt, hown, hlk, hts, hK, hRf, hRl, hce, hsl⟩ := id hC
  obtain ⟨rfl, rfl, rfl, rfl⟩ := hZ
  exact W.aret hx hb (hrt.trans hr) (Or.inl ⟨C, rfl⟩) (Or.inr ⟨_, rfl⟩) (fun t ht _ => ⟨⟨_, M, h, rfl, by rw [ht]; exact hW⟩, by rw [ht]; exact hF⟩) hL hd (hlocks := hlk)
/-- a field's site: in the class own, entry idx: field j of class ci -/
def KF (own : String) (idx ci j : Nat) : Prop := ∃ (C : String) (T : u_T) (N : Nat), vwCl[ci]? = some (C, T, N) ∧ j < N ∧ (∀ w ∈ u_ws C T N, w ∈ k_tb) ∧ Cond.fieldLink own idx (T j).1 (T j).2.1 (T j).2.2.1 ∈ k_tb
def KP (own : String) (idx ci j : Nat) (ty : FieldType) : Prop := ∃ (C : String) (T : u_T) (N : Nat) (ty0 : Nat → FieldType), vwCl[ci]? = some (C, T, N) ∧ j < N ∧ (∀ w ∈ u_ws C T N, w ∈ k_tb) ∧ Cond.fieldLink own idx (T j).1 (T j).2.1 (T j).2.2.1 ∈ k_tb ∧ (∀ k, k < N → parseFieldDescriptor (T k).2.2.1 = some (ty0 k)) ∧ (∀ a, a < N → ∀ b, b < N → a ≠ b → (T a).2.1 ≠ (T b).2.1) ∧ (T j).2.2.2 = false ∧ parseFieldDescriptor (T j).2.2.1 = some ty
theorem go_getf {I : KI} {Z : KZ} {M : KM} {loc : List (Option KV)} {st : List KV} {pc q idx ci j k i : Nat} {v : KV} (hd : decode I.2.1 pc = .ok (.getfield idx, 3)) (hs : KF I.1.cls idx ci j) (ho : k_oc k = some ci) (hi : i < k_cnt k) (hv : (k_fl k i (M.1 k i) M.2.2)[j]? = some v) (hq : pc + 3 = q) (h : Go I Z M loc (v :: st) q) : Go I Z M loc (vR k i :: st) pc := by
  subst hq
  intro G Hb p l e R s m args below meth c cells slots Qf hC hZ H ls locs hW hF hL hl
  obtain ⟨hx, hb, hml, hrt, hown, hlk, hts, hK, hRf, hRl, hce, hsl⟩ := id hC
  obtain ⟨C, T, N, hc, hj, hin, hlk2⟩ := hs
  have hat := hW k i hi
  rw [k_ce_obj ho] at hat
  exact va_get hx hb hts hin hown hK (k_P1 hat) 0 rfl hc j hj (hts _ hlk2) (fun _ h => h) (by rw [List.getElem?_map, hv]; rfl) hd (h G Hb p l e R s m args below meth c cells slots Qf hC hZ H ls locs hW hF hL hl)
theorem k_kinds : ∀ k, k < 22 → k_oc k = none → k_ar k = none → k ≠ 8 → k = 3 ∨ k = 13 := by decide +kernel
def k_si (M : KM) (k i j : Nat) (v : Int32) : KM := (fun a b c => if a = k ∧ c = j ∧ b = i then v else M.1 a b c, M.2)
def k_sl (M : KM) (i j : Nat) (v : Int64) : KM := (M.1, (fun b c => if b = i ∧ c = j then v else M.2.1 b c), M.2.2)
def k_sr (M : KM) (a j v : Nat) : KM := (M.1, M.2.1, fun b c => if b = a ∧ c = j then v else M.2.2 b c)
theorem k_si_self (M : KM) (k i j : Nat) (v : Int32) : (k_si M k i j v).1 k i = upd (M.1 k i) j v := by
  funext c
  simp [k_si, upd]
theorem k_si_ne (M : KM) {k i j k' i' : Nat} (v : Int32) (h : ¬ (k' = k ∧ i' = i)) : (k_si M k i j v).1 k' i' = M.1 k' i' := by
  funext c
  show (if k' = k ∧ c = j ∧ i' = i then v else M.1 k' i' c) = _
  rw [if_neg (fun z => h ⟨z.1, z.2.2⟩)]
theorem k_HW_put {G : KG} {M M' : KM} {H H1 : Heap} {k i : Nat} (hW : k_HW G M H) (hi : i < k_cnt k) (oq : ∀ q : Nat, q ≠ G.1 + k_off k i → H1[q]? = H[q]?)
    (hat : va_at G.2.1 vwCl (G.1 + k_off k i, k_ce G k i (M'.1 k i) (M'.2.1 i) M'.2.2) H1)
    (hs : ∀ k' i', i' < k_cnt k' → ¬ (k' = k ∧ i' = i) → k_ce G k' i' (M'.1 k' i') (M'.2.1 i') M'.2.2 = k_ce G k' i' (M.1 k' i') (M.2.1 i') M.2.2) : k_HW G M' H1 := by
  intro k' i' hi'
  by_cases h : k' = k ∧ i' = i
  · obtain ⟨rfl, rfl⟩ := h
    exact hat
  · rw [hs k' i' hi' h]
    refine (hW k' i' hi').kept (oq _ ?_)
    intro e
    have e' : G.1 + k_off k' i' = G.1 + k_off k i := e
    exact h (k_off_inj hi' hi (by omega))
theorem k_FR_put {G : KG} {Hb H H1 : Heap} {k i : Nat} (hF : k_FR G Hb H) (hi : i < k_cnt k) (z : H1.size = H.size) (oq : ∀ q : Nat, q ≠ G.1 + k_off k i → H1[q]? = H[q]?) : k_FR G Hb H1 := by
  refine ⟨z.trans hF.1, fun q hq => ?_⟩
  rw [oq q (fun e => hq (by rw [e]; exact ⟨Nat.le_add_right _ _, Nat.add_lt_add_left (k_off_lt hi) _⟩))]
  exact hF.2 q hq
theorem k_L_put {G : KG} {locs : List Loc} {k i t : Nat} (hL : ∀ q ∈ locs, k_rng G q.base) (hi : i < k_cnt k) : ∀ q ∈ locs ++ [(⟨G.1 + k_off k i, t⟩ : Loc)], k_rng G q.base := by
  intro q hq
  rcases List.mem_append.mp hq with h | h
  · exact hL q h
  · rw [List.mem_singleton.mp h]
    exact ⟨Nat.le_add_right _ _, Nat.add_lt_add_left (k_off_lt hi) _⟩
theorem k_fl_set {k i j : Nat} {f : Nat → Int32} {r : Nat → Nat → Nat} {v : Int32} (h : k_nf k j = true) : k_fl k i (upd f j v) r = (k_fl k i f r).set j (vI v) := by
  unfold k_nf at h
  split at h
  · have h2 : 6 ≤ j ∧ j ≤ 9 := by simpa using h
    rcases (show j = 6 ∨ j = 7 ∨ j = 8 ∨ j = 9 by omega) with rfl | rfl | rfl | rfl <;> rfl
  · have h2 : 5 ≤ j ∧ j ≤ 7 := by simpa using h
    rcases (show j = 5 ∨ j = 6 ∨ j = 7 by omega) with rfl | rfl | rfl <;> rfl
  · have h2 : j = 1 := by simpa using h
    subst h2; rfl
  · have h2 : j = 1 := by simpa using h
    subst h2; rfl
  · have h2 : j = 2 ∨ j = 4 ∨ j = 6 ∨ j = 7 ∨ j = 8 ∨ j = 9 ∨ j = 10 ∨ j = 12 := by
      simp at h
      omega
    rcases h2 with rfl | rfl | rfl | rfl | rfl | rfl | rfl | rfl <;> rfl
  · cases h
theorem k_fl_r {k i : Nat} {f : Nat → Int32} {r r' : Nat → Nat → Nat} (h : ∀ c, r 11 c = r' 11 c) : k_fl k i f r = k_fl k i f r' := by
  unfold k_fl
  split <;> simp [h]
section KPut
variable {p : Program} {l : Launch} {e : Env} {R : Room} {s : State} {m : MethodId} {args : Array Value} {below : List Frame} {meth : Method} {c : Code} {H : Heap} {locs : List Loc} {cells slots : Nat} {Q : State → Prop}
variable {cc : ByteArray} {pc : Nat} {ls : Array Slot} {rest : List Value} {D : va_G} {cl : List vw_C} {a : Nat} {tys : List (ClassId × FieldType)}
theorem k_putW (hexec : p.tables.exec = Jvm.exec) (hb : c.code = cc) {own C : String} {T : u_T} {N ci index : Nat} {Ts : List Cond} (hts : ∀ w ∈ Ts, w.before args s = true) (hin : ∀ w ∈ u_ws C T N, w ∈ Ts) (ty0 : Nat → FieldType) (hty : ∀ k, k < N → parseFieldDescriptor (T k).2.2.1 = some (ty0 k)) (hnm : ∀ a, a < N → ∀ b, b < N → a ≠ b → (T a).2.1 ≠ (T b).2.1) (hown : s.vm.findClass own = some m.cls) (hK : va_K D cl tys s) {fs : List Value} (hat : va_at D cl (a, .inr (ci, fs)) H) (hc : cl[ci]? = some (C, T, N)) (k : Nat) (hk : k < N) (hlink : (Cond.fieldLink own index (T k).1 (T k).2.1 (T k).2.2.1).before args s = true) (hfin : (T k).2.2.2 = false) {ty : FieldType} {v : Value} (hd : parseFieldDescriptor (T k).2.2.1 = some ty) (hn : narrow ty v = v) (hfit : fits ty v = true) (hl : k < fs.length)
    (hdg : decode cc pc = .ok (.putfield index, 3)) (kk : ∀ (H1 : Heap) (j : Nat), va_at D cl (a, .inr (ci, fs.set k v)) H1 → H1.size = H.size → (∀ q, q ≠ a → H1[q]? = H[q]?) → W p l e R s m args below meth c H1 (locs ++ [⟨a, j⟩]) cells slots Q (F0 m (pc + 3) ls rest)) : W p l e R s m args below meth c H locs cells slots Q (F0 m pc ls (v :: .ref a :: rest)) := by
  have hap := va_apart (own := own) hts hin ty0 hty hnm hK hc
  obtain ⟨r, h1, cell, q1, q2, q3, q4⟩ := hat
  have hr : r = (C, T, N) := Option.some.inj (h1.symm.trans hc)
  subst hr
  obtain ⟨hS, hfc, kC, hkC, hkind⟩ := hK.1 ci _ hc
  obtain ⟨cf, kf, fi, f, hi, hsl⟩ := hS k hk
  have hlay := hts _ (hin _ (u_in_lay hk))
  unfold u_lay at hlay
  rw [if_neg (by rw [hfin]; decide)] at hlay
  have hst := (u_facts hfc hkC (u_lays hts hin hk) hi).1
  have h6 := u_store hfc hkC hkind hlay hi hd hn hfit
  refine W.putK hexec hb (f := f) ⟨hown, hlink, ⟨_, _, _, hi⟩, hst⟩ (by rw [q2]; exact h6) q1 q3 (by rw [hsl]; exact k2_hasslot (q4 k hk)) rfl rfl hdg fun H' e1 e2 e3 => ?_
  rw [hsl] at e1
  exact kk H' _ ⟨_, hc, t_OB.to (V := updV (vp_V fs) k v) ⟨_, e1, q2, q3, t_set q4 hap hk v⟩ (fun j _ => vp_updV_set hl v j)⟩ e2 e3
end KPut
theorem go_puti {I : KI} {Z : KZ} {M : KM} {loc : List (Option KV)} {st : List KV} {pc q idx ci j k i : Nat} {v : Int32} {ty : FieldType} (hd : decode I.2.1 pc = .ok (.putfield idx, 3)) (hs : KP I.1.cls idx ci j ty) (ho : k_oc k = some ci) (hi : i < k_cnt k) (hnf : k_nf k j = true) (hn : narrow ty (.int v) = .int v) (hfit : fits ty (.int v) = true) (hl2 : j < (k_fl k i (M.1 k i) M.2.2).length) (hq : pc + 3 = q) (h : Go I Z (k_si M k i j v) loc st q) : Go I Z M loc (vI v :: vR k i :: st) pc := by
  subst hq
  intro G Hb p l e R s m args below meth c cells slots Qf hC hZ H ls locs hW hF hL hl
  obtain ⟨hx, hb, hml, hrt, hown, hlk, hts, hK, hRf, hRl, hce, hsl⟩ := id hC
  obtain ⟨C, T, N, ty0, hc, hj, hin, hlk2, hty, hnm, hfin, hpd⟩ := hs
  have hat := hW k i hi
  rw [k_ce_obj ho] at hat
  refine k_putW hx hb hts hin ty0 hty hnm hown hK hat hc j hj (hts _ hlk2) hfin hpd hn hfit (by rw [List.length_map]; exact hl2) hd (fun H1 t hat1 z oq => ?_)
  refine h G Hb p l e R s m args below meth c cells slots Qf hC hZ H1 ls _ (k_HW_put hW hi oq ?_ ?_) (k_FR_put hF hi z oq) (k_L_put hL hi) hl
  · rw [k_ce_obj ho, k_si_self]
    show va_at _ _ (_, .inr (ci, (k_fl k i (upd (M.1 k i) j v) M.2.2).map _)) _
    rw [k_fl_set hnf, List.map_set]
    exact hat1
  · intro k' i' _ hne
    rw [k_si_ne M v hne]
    rfl
theorem go_putr {I : KI} {Z : KZ} {M : KM} {loc : List (Option KV)} {st : List KV} {pc q idx j v : Nat} (hd : decode I.2.1 pc = .ok (.putfield idx, 3)) (hs : KP I.1.cls idx 1 j (.object RX7)) (hj2 : j = 1 ∨ j = 2) (hq : pc + 3 = q) (h : Go I Z (k_sr M 11 j v) loc st q) : Go I Z M loc (vR 12 v :: vR 11 0 :: st) pc := by
  subst hq
  intro G Hb p l e R s m args below meth c cells slots Qf hC hZ H ls locs hW hF hL hl
  obtain ⟨hx, hb, hml, hrt, hown, hlk, hts, hK, hRf, hRl, hce, hsl⟩ := id hC
  obtain ⟨C, T, N, ty0, hc, hj, hin, hlk2, hty, hnm, hfin, hpd⟩ := hs
  have hi : 0 < k_cnt 11 := by decide
  have hat := hW 11 0 hi
  rw [k_ce_obj (ci := 1) rfl] at hat
  refine k_putW hx hb hts hin ty0 hty hnm hown hK hat hc j hj (hts _ hlk2) hfin hpd rfl rfl (by rw [List.length_map]; rcases hj2 with rfl | rfl <;> exact Nat.le_of_ble_eq_true rfl) hd (fun H1 t hat1 z oq => ?_)
  refine h G Hb p l e R s m args below meth c cells slots Qf hC hZ H1 ls _ (k_HW_put hW hi oq ?_ ?_) (k_FR_put hF hi z oq) (k_L_put hL hi) hl
  · rw [k_ce_obj (ci := 1) rfl]
    rcases hj2 with rfl | rfl <;> exact hat1
  · intro k' i' _ hne
    have hk : ¬ k' = 11 ∨ ¬ i' = 0 := by
      by_cases z1 : k' = 11
      · exact Or.inr (fun z2 => hne ⟨z1, z2⟩)
      · exact Or.inl z1
    by_cases hk11 : k' = 11
    · subst hk11
      exfalso
      have : i' < 1 := by assumption
      omega
    · show k_ce G k' i' (M.1 k' i') (M.2.1 i') _ = _
      unfold k_ce
      have h8 : ∀ c, (k_sr M 11 j v).2.2 8 c = M.2.2 8 c := fun c => by simp [k_sr]
      have hfl : k_fl k' i' (M.1 k' i') (k_sr M 11 j v).2.2 = k_fl k' i' (M.1 k' i') M.2.2 := by
        unfold k_fl
        split <;> first | rfl | exact absurd rfl hk11
      simp only [h8, hfl]
theorem go_iald {I : KI} {Z : KZ} {M : KM} {loc : List (Option KV)} {st : List KV} {pc q k i n : Nat} (j : Nat) {x : Int32} (hd : decode I.2.1 pc = .ok (.iaload, 1)) (ho : k_oc k = none) (ha : k_ar k = some n) (hi : i < k_cnt k) (hxj : x = nI j) (hj : j < n) (hq : pc + 1 = q) (h : Go I Z M loc (vI (M.1 k i j) :: st) q) : Go I Z M loc (vI x :: vR k i :: st) pc := by
  subst hq; subst hxj
  intro G Hb p l e R s m args below meth c cells slots Qf hC hZ H ls locs hW hF hL hl
  obtain ⟨hx, hb, hml, hrt, hown, hlk, hts, hK, hRf, hRl, hce, hsl⟩ := id hC
  have hn : n ≤ 15625 := by
    unfold k_ar at ha
    split at ha <;> first | (cases ha; decide) | cases ha
  have hat := hW k i hi
  rw [k_ce_ar ho ha] at hat
  have k0 := (h G Hb p l e R s m args below meth c cells slots Qf hC hZ H ls locs hW hF hL hl)
  have hcl : (nI j).toNatClampNeg = j := nI_clamp (by omega)
  refine va_iald hx hb hK (k_P1 hat) 0 0 rfl rfl (vp_in_nI hj (by omega)) hd ?_
  rw [hcl]
  exact k0
theorem go_zald {I : KI} {Z : KZ} {M : KM} {loc : List (Option KV)} {st : List KV} {pc q i : Nat} (j : Nat) {x : Int32} (hd : decode I.2.1 pc = .ok (.baload, 1)) (hi : i < 8) (hxj : x = nI j) (hj : j < 20) (hq : pc + 1 = q) (h : Go I Z M loc (vI (M.1 3 i j) :: st) q) : Go I Z M loc (vI x :: vR 3 i :: st) pc := by
  subst hq; subst hxj
  intro G Hb p l e R s m args below meth c cells slots Qf hC hZ H ls locs hW hF hL hl
  obtain ⟨hx, hb, hml, hrt, hown, hlk, hts, hK, hRf, hRl, hce, hsl⟩ := id hC
  have hat : va_at G.2.1 vwCl (G.1 + k_off 3 i, .inl (G.2.2.2.1, 20, .inl (M.1 3 i))) H := hW 3 i hi
  have k0 := (h G Hb p l e R s m args below meth c cells slots Qf hC hZ H ls locs hW hF hL hl)
  have hcl : (nI j).toNatClampNeg = j := nI_clamp (by omega)
  refine va_zald hx hb hK (k_P1 hat) 0 1 rfl rfl (vp_in_nI hj (by omega)) hd ?_
  rw [hcl]
  exact k0
theorem go_lald {I : KI} {Z : KZ} {M : KM} {loc : List (Option KV)} {st : List KV} {pc q i : Nat} (j : Nat) {x : Int32} (hd : decode I.2.1 pc = .ok (.laload, 1)) (hi : i < 3) (hxj : x = nI j) (hj : j < 245) (hq : pc + 1 = q) (h : Go I Z M loc (vJ (M.2.1 i j) :: st) q) : Go I Z M loc (vI x :: vR 13 i :: st) pc := by
  subst hq; subst hxj
  intro G Hb p l e R s m args below meth c cells slots Qf hC hZ H ls locs hW hF hL hl
  obtain ⟨hx, hb, hml, hrt, hown, hlk, hts, hK, hRf, hRl, hce, hsl⟩ := id hC
  have hat : va_at G.2.1 vwCl (G.1 + k_off 13 i, .inl (G.2.2.2.2.1, 245, .inr (.inl (M.2.1 i)))) H := hW 13 i hi
  have k0 := (h G Hb p l e R s m args below meth c cells slots Qf hC hZ H ls locs hW hF hL hl)
  have hcl : (nI j).toNatClampNeg = j := nI_clamp (by omega)
  refine va_lald hx hb hK (k_P1 hat) 0 2 rfl rfl (vp_in_nI hj (by omega)) hd ?_
  rw [hcl]
  exact k0
theorem go_aald {I : KI} {Z : KZ} {M : KM} {loc : List (Option KV)} {st : List KV} {pc q : Nat} (j : Nat) {x : Int32} (hd : decode I.2.1 pc = .ok (.aaload, 1)) (hxj : x = nI j) (hj : j < 5) (hq : pc + 1 = q) (h : Go I Z M loc (vR 1 (M.2.2 8 j) :: st) q) : Go I Z M loc (vI x :: vR 8 0 :: st) pc := by
  subst hq; subst hxj
  intro G Hb p l e R s m args below meth c cells slots Qf hC hZ H ls locs hW hF hL hl
  obtain ⟨hx, hb, hml, hrt, hown, hlk, hts, hK, hRf, hRl, hce, hsl⟩ := id hC
  have hat : va_at G.2.1 vwCl (G.1 + k_off 8 0, .inl (G.2.2.2.2.2, 5, .inr (.inr (.inr (.inr (fun j => some (G.1 + k_off 1 (M.2.2 8 j)))))))) H := hW 8 0 (by decide)
  have k0 := (h G Hb p l e R s m args below meth c cells slots Qf hC hZ H ls locs hW hF hL hl)
  have hcl : (nI j).toNatClampNeg = j := nI_clamp (by omega)
  refine va_aldq hx hb hK (k_P1 hat) 0 3 rfl rfl (vp_in_nI hj (by omega)) hd ?_
  rw [hcl]
  exact k0
theorem go_iast {I : KI} {Z : KZ} {M : KM} {loc : List (Option KV)} {st : List KV} {pc q k i n : Nat} (j : Nat) {x v : Int32} (hd : decode I.2.1 pc = .ok (.iastore, 1)) (ho : k_oc k = none) (ha : k_ar k = some n) (hi : i < k_cnt k) (hxj : x = nI j) (hj : j < n) (hq : pc + 1 = q) (h : Go I Z (k_si M k i j v) loc st q) : Go I Z M loc (vI v :: vI x :: vR k i :: st) pc := by
  subst hq; subst hxj
  intro G Hb p l e R s m args below meth c cells slots Qf hC hZ H ls locs hW hF hL hl
  obtain ⟨hx, hb, hml, hrt, hown, hlk, hts, hK, hRf, hRl, hce, hsl⟩ := id hC
  have hn : n ≤ 15625 := by
    unfold k_ar at ha
    split at ha <;> first | (cases ha; decide) | cases ha
  have hat := hW k i hi
  rw [k_ce_ar ho ha] at hat
  have hcl : (nI j).toNatClampNeg = j := nI_clamp (by omega)
  refine W.iast hx hb hat ((hK.2 0 _ rfl).1 n (fun j => .int (M.1 k i j))) (fun q => by cases q) (by show ¬ (nI j < 0 ∨ (arrV _ _ _).slots.size ≤ _); rw [arrV_size]; exact vp_in_nI (N := n) hj (by omega)) rfl rfl hd fun H1 e1 z oq => ?_
  refine h G Hb p l e R s m args below meth c cells slots Qf hC hZ H1 ls _ (k_HW_put hW hi oq ?_ ?_) (k_FR_put hF hi z oq) (k_L_put hL hi) hl
  · rw [k_ce_ar ho ha, k_si_self]
    show H1[_]? = some (vp_cell _ _)
    rw [e1, hcl]
    rw [vp_cell_i, vp_cell_i, arrV_store]
    congr 2
    funext q
    by_cases hq : q = j <;> simp [updV, upd, hq]
  · intro k' i' _ hne
    rw [k_si_ne M v hne]
    rfl
theorem go_zast {I : KI} {Z : KZ} {M : KM} {loc : List (Option KV)} {st : List KV} {pc q i : Nat} (j : Nat) {x v : Int32} (hd : decode I.2.1 pc = .ok (.bastore, 1)) (hi : i < 8) (hxj : x = nI j) (hj : j < 20) (hv : narrow .boolean (.int v) = .int v) (hq : pc + 1 = q) (h : Go I Z (k_si M 3 i j v) loc st q) : Go I Z M loc (vI v :: vI x :: vR 3 i :: st) pc := by
  subst hq; subst hxj
  intro G Hb p l e R s m args below meth c cells slots Qf hC hZ H ls locs hW hF hL hl
  obtain ⟨hx, hb, hml, hrt, hown, hlk, hts, hK, hRf, hRl, hce, hsl⟩ := id hC
  have hat : va_at G.2.1 vwCl (G.1 + k_off 3 i, .inl (G.2.2.2.1, 20, .inl (M.1 3 i))) H := hW 3 i hi
  have hcl : (nI j).toNatClampNeg = j := nI_clamp (by omega)
  refine W.zast hx hb hat ((hK.2 1 _ rfl).1 20 (fun j => .int (M.1 3 i j))) (fun q => by cases q) (by show ¬ (nI j < 0 ∨ (arrV _ _ _).slots.size ≤ _); rw [arrV_size]; exact vp_in_nI (N := 20) hj (by decide)) rfl rfl hd fun H1 e1 z oq => ?_
  refine h G Hb p l e R s m args below meth c cells slots Qf hC hZ H1 ls _ (k_HW_put hW hi oq ?_ ?_) (k_FR_put hF hi z oq) (k_L_put hL hi) hl
  · show va_at _ _ (_, .inl (G.2.2.2.1, 20, .inl ((k_si M 3 i j v).1 3 i))) _
    rw [k_si_self]
    show H1[_]? = some (vp_cell _ _)
    rw [e1, hcl, hv]
    rw [vp_cell_i, vp_cell_i, arrV_store]
    congr 2
    funext q
    by_cases hq : q = j <;> simp [updV, upd, hq]
  · intro k' i' _ hne
    rw [k_si_ne M v hne]
    rfl
section KLast
variable {p : Program} {l : Launch} {e : Env} {R : Room} {s : State} {m : MethodId} {args : Array Value} {below : List Frame} {meth : Method} {c : Code} {H : Heap} {locs : List Loc} {cells slots : Nat} {Q : State → Prop}
variable {cc : ByteArray} {pc : Nat} {ls : Array Slot} {rest : List Value} {a : Nat}
theorem k_last0 (hexec : p.tables.exec = Jvm.exec) (hb : c.code = cc) {cA : ClassId} {n j : Nat} {f : Nat → Int64} {v : Int64} (hc : H[a]? = some (vp_cell cA (n, .inr (.inl f)))) (hA : ArrOfT s cA .long) (hj : j < n) (hn : n < 2 ^ 31) (hd : decode cc pc = .ok (.lastore, 1))
    (kk : ∀ H1 : Heap, H1[a]? = some (vp_cell cA (n, .inr (.inl (vp_updL f j v)))) → H1.size = H.size → (∀ q, q ≠ a → H1[q]? = H[q]?) → W p l e R s m args below meth c H1 (locs ++ [⟨a, j⟩]) cells slots Q (F0 m (pc + 1) ls rest)) : W p l e R s m args below meth c H locs cells slots Q (F0 m pc ls (.long v :: .int (nI j) :: .ref a :: rest)) := by
  have hcl : (nI j).toNatClampNeg = j := nI_clamp (by omega)
  refine W.last hexec hb hc (hA n (fun j => .long (f j))) (fun q => by cases q) (by show ¬ (nI j < 0 ∨ (arrV _ _ _).slots.size ≤ _); rw [arrV_size]; exact vp_in_nI (N := n) hj hn) rfl rfl hd fun H1 e1 z oq => ?_
  rw [hcl] at e1 ⊢
  refine kk H1 ?_ z oq
  rw [e1]
  rw [vp_cell_l, vp_cell_l, arrV_store]
  congr 2
  funext q
  by_cases hq : q = j <;> simp [updV, vp_updL, hq]
end KLast
theorem k_sl_self (M : KM) (i j : Nat) (v : Int64) : (k_sl M i j v).2.1 i = vp_updL (M.2.1 i) j v := by
  funext c
  simp [k_sl, vp_updL]
theorem go_last {I : KI} {Z : KZ} {M : KM} {loc : List (Option KV)} {st : List KV} {pc q i : Nat} (j : Nat) {x : Int32} {v : Int64} (hd : decode I.2.1 pc = .ok (.lastore, 1)) (hi : i < 3) (hxj : x = nI j) (hj : j < 245) (hq : pc + 1 = q) (h : Go I Z (k_sl M i j v) loc st q) : Go I Z M loc (vJ v :: vI x :: vR 13 i :: st) pc := by
  subst hq; subst hxj
  intro G Hb p l e R s m args below meth c cells slots Qf hC hZ H ls locs hW hF hL hl
  obtain ⟨hx, hb, hml, hrt, hown, hlk, hts, hK, hRf, hRl, hce, hsl⟩ := id hC
  have hat : va_at G.2.1 vwCl (G.1 + k_off 13 i, .inl (G.2.2.2.2.1, 245, .inr (.inl (M.2.1 i)))) H := hW 13 i hi
  refine k_last0 hx hb hat (hK.2 2 _ rfl).1 hj (by decide) hd fun H1 e1 z oq => ?_
  refine h G Hb p l e R s m args below meth c cells slots Qf hC hZ H1 ls _ (k_HW_put (k := 13) (i := i) hW hi oq ?_ ?_) (k_FR_put (k := 13) (i := i) hF hi z oq) (k_L_put (k := 13) (i := i) hL hi) hl
  · show va_at _ _ (_, .inl (G.2.2.2.2.1, 245, .inr (.inl ((k_sl M i j v).2.1 i)))) H1
    rw [k_sl_self]
    exact e1
  · intro k' i' hi' hne
    show k_ce G k' i' (M.1 k' i') ((k_sl M i j v).2.1 i') M.2.2 = _
    by_cases h1 : i' = i
    · have h13 : ¬ k' = 13 := fun z => hne ⟨z, h1⟩
      unfold k_ce
      simp [h13]
    · have h2 : (k_sl M i j v).2.1 i' = M.2.1 i' := by funext c; simp [k_sl, h1]
      rw [h2]
theorem go_aast {I : KI} {Z : KZ} {M : KM} {loc : List (Option KV)} {st : List KV} {pc q v : Nat} (j : Nat) {x : Int32} (hd : decode I.2.1 pc = .ok (.aastore, 1)) (hv8 : v < 8) (hxj : x = nI j) (hj : j < 5) (hq : pc + 1 = q) (h : Go I Z (k_sr M 8 j v) loc st q) : Go I Z M loc (vR 1 v :: vI x :: vR 8 0 :: st) pc := by
  subst hq; subst hxj
  intro G Hb p l e R s m args below meth c cells slots Qf hC hZ H ls locs hW hF hL hl
  obtain ⟨hx, hb, hml, hrt, hown, hlk, hts, hK, hRf, hRl, hce, hsl⟩ := id hC
  have hat : va_at G.2.1 vwCl (G.1 + k_off 8 0, .inl (G.2.2.2.2.2, 5, .inr (.inr (.inr (.inr (fun j => some (G.1 + k_off 1 (M.2.2 8 j)))))))) H := hW 8 0 (by decide)
  have hi : 0 < k_cnt 8 := by decide
  have hcl : (nI j).toNatClampNeg = j := nI_clamp (by omega)
  obtain ⟨r', hr', cellV, g1, g2, g3, -⟩ := hW 1 v hv8
  have hr3 : (RX6, TX6, 8) = r' := Option.some.inj ((show vwCl[3]? = some (RX6, TX6, 8) from rfl).symm.trans hr')
  subst hr3
  have hcls := (hK.1 3 (RX6, TX6, 8) rfl).2
  obtain ⟨kA, comp, k1, k2, k3, -⟩ := (hK.2 3 _ rfl).2
  have hcomp : comp = G.2.1.1 3 := Option.some.inj (k3.symm.trans hcls.1)
  subst hcomp
  obtain ⟨kC, hkC, -⟩ := hcls.2
  refine W.aast hx hb hat (fun q h => by cases h) (fun h => by cases h) k1 k2 rfl hkC ⟨fun q => vp_in_nI hj (by omega) (Or.inl q), by show _ < (arrV _ _ _).slots.size; rw [arrV_size, hcl]; exact hj⟩ g1 (fun q h => by rw [g3] at h; cases h) (by rw [g2]; exact hkC) (by rw [g2]; exact va_assign hcls) rfl rfl hd fun H1 e1 z oq => ?_
  refine h G Hb p l e R s m args below meth c cells slots Qf hC hZ H1 ls _ (k_HW_put (k := 8) (i := 0) hW hi oq ?_ ?_) (k_FR_put (k := 8) (i := 0) hF hi z oq) (k_L_put (k := 8) (i := 0) hL hi) hl
  · show H1[_]? = some (vp_cell _ (5, .inr (.inr (.inr (.inr (fun t => some (G.1 + k_off 1 ((k_sr M 8 j v).2.2 8 t))))))))
    rw [e1, hcl]
    rw [vp_cell_q, vp_cell_q, arrV_store]
    congr 2
    funext q
    by_cases hq : q = j <;> simp [updV, k_sr, va_rf, hq]
  · intro k' i' hi' hne
    have h8 : ¬ k' = 8 := by
      intro z1
      subst z1
      have : i' < 1 := hi'
      exact hne ⟨rfl, by omega⟩
    show k_ce G k' i' (M.1 k' i') (M.2.1 i') (k_sr M 8 j v).2.2 = _
    have h11 : ∀ c, (k_sr M 8 j v).2.2 11 c = M.2.2 11 c := fun c => by simp [k_sr]
    unfold k_ce
    rw [k_fl_r h11]
    split
    · rfl
    · rename_i ho
      split
      · rfl
      · rename_i hr
        have h22 := (k_cnt22 hi').1
        rcases k_kinds k' h22 ho hr h8 with rfl | rfl <;> rfl
theorem k_goodIn {w0 : Cond} (h : w0 ∈ k_tb) : GoodIn k_tb (w0 :: k_tb) := by
  intro w hw
  have hm : w ∈ k_tb := by
    rcases List.mem_cons.mp hw with rfl | h1
    · exact h
    · exact h1
  exact ⟨hm, good_of_word (List.mem_filter.mp hm).2⟩
def KC (I : KI) (n : Nat) : Prop := Cond.code I.1 I.2.1 I.2.2.1 I.2.2.2.1 ∈ k_tb ∧ Cond.initialized I.1.cls ∈ k_tb ∧ (I.1.cls ≠ "java/lang/invoke/MethodHandle" ∧ I.1.cls ≠ "java/lang/invoke/VarHandle" ∧ (parseMethodDescriptor I.1.desc).map (fun d => d.parameters.length) = some n) ∧ I.2.2.2.2.cells = 0 ∧ I.2.2.2.2.slots = 0
def KCV (I : KI) (n : Nat) : Prop := KC I n ∧ Cond.instanceMethod I.1 ∈ k_tb ∧ Cond.selects I.1.cls I.1 I.1 ∈ k_tb
def KCS (I : KI) (n : Nat) : Prop := KC I n ∧ Cond.static I.1 ∈ k_tb
abbrev KR (I cal : KI) : Prop := cal.2.2.2.2.frames + 1 ≤ I.2.2.2.2.frames ∧ 8 + (cal.2.2.1 + 11) + cal.2.2.2.2.locals ≤ I.2.2.2.2.locals
theorem k_catsum {b : Nat} (rest : List KV) : ((rest.map (k_cv b)).map (fun v => v.category)).sum = (rest.map k_cat).sum := by
  rw [List.map_map]
  congr 1
  apply List.map_congr_left
  intro v _
  exact k_cat_eq b v
theorem k_blind {G : KG} {as : List KV} {M : KM} : FrameBlind (k_P G as M) := fun a U g mk h => ⟨h.1, h.2.1, va_K.moved (u := U) (U := U.calling g mk a) (Vm.Alike.refl U.vm) h.2.2⟩
theorem go_callV {I cal : KI} {Z : KZ} {M : KM} {loc : List (Option KV)} {rest : List KV} {pc q idx n k i : Nat} (as : List KV) {Q1 : Option KV → KM → Prop} (hd : decode I.2.1 pc = .ok (.invokevirtual idx, 3)) (hlink : Cond.methodLink I.1.cls idx cal.1 ∈ k_tb) (hc : KCV cal n) (hR : KR I cal) (hn : as.length = n) (hcls : (k_oc k).bind (fun ci => (vwCl[ci]?).map (fun q => q.1)) = some cal.1.cls) (hi : i < k_cnt k) (hr : (rest.map k_cat).sum ≤ 8) (hok : Ok cal (vR k i :: as) M Q1) (hq : pc + 3 = q) (kk : ∀ r M1, Q1 r M1 → Go I Z M1 loc (r.toList ++ rest) q) : Go I Z M loc (as.reverse ++ vR k i :: rest) pc := by
  subst hq
  intro G Hb p l e R s m args below meth c cells slots Qf hC hZ H ls locs hW hF hL hl
  obtain ⟨hx, hb, hml, hrt, hown, hlk, hts, hK, hRf, hRl, hce, hsl⟩ := id hC
  obtain ⟨⟨hcode, hini, hdd, hrc, hrs⟩, hinst, hsel⟩ := hc
  have hG := k_goodIn hcode
  have hcw := callB_of (R := R) (s := s) (args := args) (own := I.1.cls) (index := idx) n hts hG rfl hrc hrs (hts _ hini) (hts _ hlink) hdd (by rw [hRf, hRl]; exact hR)
  obtain ⟨ci, hci, hcq⟩ := Option.bind_eq_some_iff.mp hcls
  obtain ⟨qd, hqd, hqe⟩ := Option.map_eq_some_iff.mp hcq
  have hat := hW k i hi
  rw [k_ce_obj hci] at hat
  have hrec := va_recv hK (k_P1 hat) hqd (q0 := 0) rfl
  rw [hqe] at hrec
  have hrun := va_runV (p := p) (l := l) (e := e) (R := R) (below := below) (meth := meth) (H := H) (locs := locs) (cells := cells) (slots := slots) (As := as.map (k_cv G.1)) (rest := rest.map (k_cv G.1)) (g := F0 m pc ls ((as.reverse ++ vR k i :: rest).map (k_cv G.1))) ⟨hx, hb, hml, hown, hts⟩ (hok l G) ⟨hcw, hts _ hinst, hts _ hsel⟩
    ⟨k_blind, hrec, fun U hU hw => ⟨rfl, by rw [hU]; exact hW, va_K.moved hw.alike hK⟩⟩ rfl (by rw [List.length_map]; exact hn) hl.1 (by simp [k_cv]) (lv_room (by rw [k_catsum]; exact hr)) hd ⟨hce, hsl⟩
  intro T hT X
  obtain ⟨v, st₀, t, T', L, h0, X', hLf, e1, e2, ⟨⟨r, M1, hQ, hv, hW1⟩, hF1⟩, st9⟩ := hrun T hT X
  have hv2 : v = r.map (k_cv G.1) := by injection hv
  subst hv2
  rw [h0] at hF1
  have hst : (r.map (k_cv G.1)).toList ++ rest.map (k_cv G.1) = (r.toList ++ rest).map (k_cv G.1) := by cases r <;> simp
  rw [hst] at st9
  obtain ⟨t2, a1, b1⟩ := kk r M1 hQ G Hb p l e R s m args below meth c cells slots Qf hC hZ t.heap ls (locs ++ L) hW1 (hF.tr hF1) (fun q hq => by
    rcases List.mem_append.mp hq with h | h
    · exact hL q h
    · exact hLf q h) hl T' e1 X'
  exact ⟨t2, st9 t2 a1, b1⟩
theorem go_callS {I cal : KI} {Z : KZ} {M : KM} {loc : List (Option KV)} {rest : List KV} {pc q idx n : Nat} (as : List KV) {Q1 : Option KV → KM → Prop} (hd : decode I.2.1 pc = .ok (.invokestatic idx, 3)) (hlink : Cond.methodLink I.1.cls idx cal.1 ∈ k_tb) (hc : KCS cal n) (hR : KR I cal) (hn : as.length = n) (hr : (rest.map k_cat).sum ≤ 8) (hok : Ok cal as M Q1) (hq : pc + 3 = q) (kk : ∀ r M1, Q1 r M1 → Go I Z M1 loc (r.toList ++ rest) q) : Go I Z M loc (as.reverse ++ rest) pc := by
  subst hq
  intro G Hb p l e R s m args below meth c cells slots Qf hC hZ H ls locs hW hF hL hl
  obtain ⟨hx, hb, hml, hrt, hown, hlk, hts, hK, hRf, hRl, hce, hsl⟩ := id hC
  obtain ⟨⟨hcode, hini, hdd, hrc, hrs⟩, hstat⟩ := hc
  have hG := k_goodIn hcode
  have hcw := callB_of (R := R) (s := s) (args := args) (own := I.1.cls) (index := idx) n hts hG rfl hrc hrs (hts _ hini) (hts _ hlink) hdd (by rw [hRf, hRl]; exact hR)
  have hrun := va_runS (p := p) (l := l) (e := e) (R := R) (below := below) (meth := meth) (H := H) (locs := locs) (cells := cells) (slots := slots) (As := as.map (k_cv G.1)) (rest := rest.map (k_cv G.1)) (g := F0 m pc ls ((as.reverse ++ rest).map (k_cv G.1))) ⟨hx, hb, hml, hown, hts⟩ (hok l G) ⟨hcw, hts _ hstat⟩
    ⟨k_blind, fun U hU hw => ⟨rfl, by rw [hU]; exact hW, va_K.moved hw.alike hK⟩⟩ rfl (by rw [List.length_map]; exact hn) hl.1 (by simp) (lv_room (by rw [k_catsum]; exact hr)) hd ⟨hce, hsl⟩
  intro T hT X
  obtain ⟨v, st₀, t, T', L, h0, X', hLf, e1, e2, ⟨⟨r, M1, hQ, hv, hW1⟩, hF1⟩, st9⟩ := hrun T hT X
  have hv2 : v = r.map (k_cv G.1) := by injection hv
  subst hv2
  rw [h0] at hF1
  have hst : (r.map (k_cv G.1)).toList ++ rest.map (k_cv G.1) = (r.toList ++ rest).map (k_cv G.1) := by cases r <;> simp
  rw [hst] at st9
  obtain ⟨t2, a1, b1⟩ := kk r M1 hQ G Hb p l e R s m args below meth c cells slots Qf hC hZ t.heap ls (locs ++ L) hW1 (hF.tr hF1) (fun q hq => by
    rcases List.mem_append.mp hq with h | h
    · exact hL q h
    · exact hLf q h) hl T' e1 X'
  exact ⟨t2, st9 t2 a1, b1⟩
theorem go_cV0 {I cal : KI} {Z : KZ} {M M1 : KM} {loc : List (Option KV)} {rest : List KV} {pc q idx : Nat} {k i : Nat} {v : KV} (hd : decode I.2.1 pc = .ok (.invokevirtual idx, 3)) (hlink : Cond.methodLink I.1.cls idx cal.1 ∈ k_tb) (hc : KCV cal 0) (hR : KR I cal) (hcls : (k_oc k).bind (fun ci => (vwCl[ci]?).map (fun q => q.1)) = some cal.1.cls) (hi : i < k_cnt k) (hr : (rest.map k_cat).sum ≤ 8) (hok : OkF cal (vR k i :: []) M (some v) M1) (hq : pc + 3 = q) (kk : Go I Z M1 loc (v :: rest) q) : Go I Z M loc (vR k i :: rest) pc :=
  go_callV [] hd hlink hc hR rfl hcls hi hr hok hq (fun r M2 hrm => by obtain ⟨rfl, rfl⟩ := hrm; exact kk)
theorem go_uV0 {I cal : KI} {Z : KZ} {M M1 : KM} {loc : List (Option KV)} {rest : List KV} {pc q idx : Nat} {k i : Nat}  (hd : decode I.2.1 pc = .ok (.invokevirtual idx, 3)) (hlink : Cond.methodLink I.1.cls idx cal.1 ∈ k_tb) (hc : KCV cal 0) (hR : KR I cal) (hcls : (k_oc k).bind (fun ci => (vwCl[ci]?).map (fun q => q.1)) = some cal.1.cls) (hi : i < k_cnt k) (hr : (rest.map k_cat).sum ≤ 8) (hok : OkF cal (vR k i :: []) M none M1) (hq : pc + 3 = q) (kk : Go I Z M1 loc rest q) : Go I Z M loc (vR k i :: rest) pc :=
  go_callV [] hd hlink hc hR rfl hcls hi hr hok hq (fun r M2 hrm => by obtain ⟨rfl, rfl⟩ := hrm; exact kk)
theorem go_cS0 {I cal : KI} {Z : KZ} {M M1 : KM} {loc : List (Option KV)} {rest : List KV} {pc q idx : Nat}  {v : KV} (hd : decode I.2.1 pc = .ok (.invokestatic idx, 3)) (hlink : Cond.methodLink I.1.cls idx cal.1 ∈ k_tb) (hc : KCS cal 0) (hR : KR I cal)  (hr : (rest.map k_cat).sum ≤ 8) (hok : OkF cal [] M (some v) M1) (hq : pc + 3 = q) (kk : Go I Z M1 loc (v :: rest) q) : Go I Z M loc (rest) pc :=
  go_callS [] hd hlink hc hR rfl hr hok hq (fun r M2 hrm => by obtain ⟨rfl, rfl⟩ := hrm; exact kk)
theorem go_uS0 {I cal : KI} {Z : KZ} {M M1 : KM} {loc : List (Option KV)} {rest : List KV} {pc q idx : Nat}   (hd : decode I.2.1 pc = .ok (.invokestatic idx, 3)) (hlink : Cond.methodLink I.1.cls idx cal.1 ∈ k_tb) (hc : KCS cal 0) (hR : KR I cal)  (hr : (rest.map k_cat).sum ≤ 8) (hok : OkF cal [] M none M1) (hq : pc + 3 = q) (kk : Go I Z M1 loc rest q) : Go I Z M loc (rest) pc :=
  go_callS [] hd hlink hc hR rfl hr hok hq (fun r M2 hrm => by obtain ⟨rfl, rfl⟩ := hrm; exact kk)
theorem go_cV1 {I cal : KI} {Z : KZ} {M M1 : KM} {loc : List (Option KV)} {rest : List KV} {pc q idx : Nat} {a0 : KV} {k i : Nat} {v : KV} (hd : decode I.2.1 pc = .ok (.invokevirtual idx, 3)) (hlink : Cond.methodLink I.1.cls idx cal.1 ∈ k_tb) (hc : KCV cal 1) (hR : KR I cal) (hcls : (k_oc k).bind (fun ci => (vwCl[ci]?).map (fun q => q.1)) = some cal.1.cls) (hi : i < k_cnt k) (hr : (rest.map k_cat).sum ≤ 8) (hok : OkF cal (vR k i :: [a0]) M (some v) M1) (hq : pc + 3 = q) (kk : Go I Z M1 loc (v :: rest) q) : Go I Z M loc (a0 :: vR k i :: rest) pc :=
  go_callV [a0] hd hlink hc hR rfl hcls hi hr hok hq (fun r M2 hrm => by obtain ⟨rfl, rfl⟩ := hrm; exact kk)
theorem go_uV1 {I cal : KI} {Z : KZ} {M M1 : KM} {loc : List (Option KV)} {rest : List KV} {pc q idx : Nat} {a0 : KV} {k i : Nat}  (hd : decode I.2.1 pc = .ok (.invokevirtual idx, 3)) (hlink : Cond.methodLink I.1.cls idx cal.1 ∈ k_tb) (hc : KCV cal 1) (hR : KR I cal) (hcls : (k_oc k).bind (fun ci => (vwCl[ci]?).map (fun q => q.1)) = some cal.1.cls) (hi : i < k_cnt k) (hr : (rest.map k_cat).sum ≤ 8) (hok : OkF cal (vR k i :: [a0]) M none M1) (hq : pc + 3 = q) (kk : Go I Z M1 loc rest q) : Go I Z M loc (a0 :: vR k i :: rest) pc :=
  go_callV [a0] hd hlink hc hR rfl hcls hi hr hok hq (fun r M2 hrm => by obtain ⟨rfl, rfl⟩ := hrm; exact kk)
theorem go_cS1 {I cal : KI} {Z : KZ} {M M1 : KM} {loc : List (Option KV)} {rest : List KV} {pc q idx : Nat} {a0 : KV}  {v : KV} (hd : decode I.2.1 pc = .ok (.invokestatic idx, 3)) (hlink : Cond.methodLink I.1.cls idx cal.1 ∈ k_tb) (hc : KCS cal 1) (hR : KR I cal)  (hr : (rest.map k_cat).sum ≤ 8) (hok : OkF cal [a0] M (some v) M1) (hq : pc + 3 = q) (kk : Go I Z M1 loc (v :: rest) q) : Go I Z M loc (a0 :: rest) pc :=
  go_callS [a0] hd hlink hc hR rfl hr hok hq (fun r M2 hrm => by obtain ⟨rfl, rfl⟩ := hrm; exact kk)
theorem go_uS1 {I cal : KI} {Z : KZ} {M M1 : KM} {loc : List (Option KV)} {rest : List KV} {pc q idx : Nat} {a0 : KV}   (hd : decode I.2.1 pc = .ok (.invokestatic idx, 3)) (hlink : Cond.methodLink I.1.cls idx cal.1 ∈ k_tb) (hc : KCS cal 1) (hR : KR I cal)  (hr : (rest.map k_cat).sum ≤ 8) (hok : OkF cal [a0] M none M1) (hq : pc + 3 = q) (kk : Go I Z M1 loc rest q) : Go I Z M loc (a0 :: rest) pc :=
  go_callS [a0] hd hlink hc hR rfl hr hok hq (fun r M2 hrm => by obtain ⟨rfl, rfl⟩ := hrm; exact kk)
theorem go_cV2 {I cal : KI} {Z : KZ} {M M1 : KM} {loc : List (Option KV)} {rest : List KV} {pc q idx : Nat} {a0 a1 : KV} {k i : Nat} {v : KV} (hd : decode I.2.1 pc = .ok (.invokevirtual idx, 3)) (hlink : Cond.methodLink I.1.cls idx cal.1 ∈ k_tb) (hc : KCV cal 2) (hR : KR I cal) (hcls : (k_oc k).bind (fun ci => (vwCl[ci]?).map (fun q => q.1)) = some cal.1.cls) (hi : i < k_cnt k) (hr : (rest.map k_cat).sum ≤ 8) (hok : OkF cal (vR k i :: [a0, a1]) M (some v) M1) (hq : pc + 3 = q) (kk : Go I Z M1 loc (v :: rest) q) : Go I Z M loc (a1 :: a0 :: vR k i :: rest) pc :=
  go_callV [a0, a1] hd hlink hc hR rfl hcls hi hr hok hq (fun r M2 hrm => by obtain ⟨rfl, rfl⟩ := hrm; exact kk)
theorem go_uV2 {I cal : KI} {Z : KZ} {M M1 : KM} {loc : List (Option KV)} {rest : List KV} {pc q idx : Nat} {a0 a1 : KV} {k i : Nat}  (hd : decode I.2.1 pc = .ok (.invokevirtual idx, 3)) (hlink : Cond.methodLink I.1.cls idx cal.1 ∈ k_tb) (hc : KCV cal 2) (hR : KR I cal) (hcls : (k_oc k).bind (fun ci => (vwCl[ci]?).map (fun q => q.1)) = some cal.1.cls) (hi : i < k_cnt k) (hr : (rest.map k_cat).sum ≤ 8) (hok : OkF cal (vR k i :: [a0, a1]) M none M1) (hq : pc + 3 = q) (kk : Go I Z M1 loc rest q) : Go I Z M loc (a1 :: a0 :: vR k i :: rest) pc :=
  go_callV [a0, a1] hd hlink hc hR rfl hcls hi hr hok hq (fun r M2 hrm => by obtain ⟨rfl, rfl⟩ := hrm; exact kk)
theorem go_cS2 {I cal : KI} {Z : KZ} {M M1 : KM} {loc : List (Option KV)} {rest : List KV} {pc q idx : Nat} {a0 a1 : KV}  {v : KV} (hd : decode I.2.1 pc = .ok (.invokestatic idx, 3)) (hlink : Cond.methodLink I.1.cls idx cal.1 ∈ k_tb) (hc : KCS cal 2) (hR : KR I cal)  (hr : (rest.map k_cat).sum ≤ 8) (hok : OkF cal [a0, a1] M (some v) M1) (hq : pc + 3 = q) (kk : Go I Z M1 loc (v :: rest) q) : Go I Z M loc (a1 :: a0 :: rest) pc :=
  go_callS [a0, a1] hd hlink hc hR rfl hr hok hq (fun r M2 hrm => by obtain ⟨rfl, rfl⟩ := hrm; exact kk)
theorem go_uS2 {I cal : KI} {Z : KZ} {M M1 : KM} {loc : List (Option KV)} {rest : List KV} {pc q idx : Nat} {a0 a1 : KV}   (hd : decode I.2.1 pc = .ok (.invokestatic idx, 3)) (hlink : Cond.methodLink I.1.cls idx cal.1 ∈ k_tb) (hc : KCS cal 2) (hR : KR I cal)  (hr : (rest.map k_cat).sum ≤ 8) (hok : OkF cal [a0, a1] M none M1) (hq : pc + 3 = q) (kk : Go I Z M1 loc rest q) : Go I Z M loc (a1 :: a0 :: rest) pc :=
  go_callS [a0, a1] hd hlink hc hR rfl hr hok hq (fun r M2 hrm => by obtain ⟨rfl, rfl⟩ := hrm; exact kk)
theorem go_cV3 {I cal : KI} {Z : KZ} {M M1 : KM} {loc : List (Option KV)} {rest : List KV} {pc q idx : Nat} {a0 a1 a2 : KV} {k i : Nat} {v : KV} (hd : decode I.2.1 pc = .ok (.invokevirtual idx, 3)) (hlink : Cond.methodLink I.1.cls idx cal.1 ∈ k_tb) (hc : KCV cal 3) (hR : KR I cal) (hcls : (k_oc k).bind (fun ci => (vwCl[ci]?).map (fun q => q.1)) = some cal.1.cls) (hi : i < k_cnt k) (hr : (rest.map k_cat).sum ≤ 8) (hok : OkF cal (vR k i :: [a0, a1, a2]) M (some v) M1) (hq : pc + 3 = q) (kk : Go I Z M1 loc (v :: rest) q) : Go I Z M loc (a2 :: a1 :: a0 :: vR k i :: rest) pc :=
  go_callV [a0, a1, a2] hd hlink hc hR rfl hcls hi hr hok hq (fun r M2 hrm => by obtain ⟨rfl, rfl⟩ := hrm; exact kk)
theorem go_uV3 {I cal : KI} {Z : KZ} {M M1 : KM} {loc : List (Option KV)} {rest : List KV} {pc q idx : Nat} {a0 a1 a2 : KV} {k i : Nat}  (hd : decode I.2.1 pc = .ok (.invokevirtual idx, 3)) (hlink : Cond.methodLink I.1.cls idx cal.1 ∈ k_tb) (hc : KCV cal 3) (hR : KR I cal) (hcls : (k_oc k).bind (fun ci => (vwCl[ci]?).map (fun q => q.1)) = some cal.1.cls) (hi : i < k_cnt k) (hr : (rest.map k_cat).sum ≤ 8) (hok : OkF cal (vR k i :: [a0, a1, a2]) M none M1) (hq : pc + 3 = q) (kk : Go I Z M1 loc rest q) : Go I Z M loc (a2 :: a1 :: a0 :: vR k i :: rest) pc :=
  go_callV [a0, a1, a2] hd hlink hc hR rfl hcls hi hr hok hq (fun r M2 hrm => by obtain ⟨rfl, rfl⟩ := hrm; exact kk)
theorem go_cS3 {I cal : KI} {Z : KZ} {M M1 : KM} {loc : List (Option KV)} {rest : List KV} {pc q idx : Nat} {a0 a1 a2 : KV}  {v : KV} (hd : decode I.2.1 pc = .ok (.invokestatic idx, 3)) (hlink : Cond.methodLink I.1.cls idx cal.1 ∈ k_tb) (hc : KCS cal 3) (hR : KR I cal)  (hr : (rest.map k_cat).sum ≤ 8) (hok : OkF cal [a0, a1, a2] M (some v) M1) (hq : pc + 3 = q) (kk : Go I Z M1 loc (v :: rest) q) : Go I Z M loc (a2 :: a1 :: a0 :: rest) pc :=
  go_callS [a0, a1, a2] hd hlink hc hR rfl hr hok hq (fun r M2 hrm => by obtain ⟨rfl, rfl⟩ := hrm; exact kk)
theorem go_uS3 {I cal : KI} {Z : KZ} {M M1 : KM} {loc : List (Option KV)} {rest : List KV} {pc q idx : Nat} {a0 a1 a2 : KV}   (hd : decode I.2.1 pc = .ok (.invokestatic idx, 3)) (hlink : Cond.methodLink I.1.cls idx cal.1 ∈ k_tb) (hc : KCS cal 3) (hR : KR I cal)  (hr : (rest.map k_cat).sum ≤ 8) (hok : OkF cal [a0, a1, a2] M none M1) (hq : pc + 3 = q) (kk : Go I Z M1 loc rest q) : Go I Z M loc (a2 :: a1 :: a0 :: rest) pc :=
  go_callS [a0, a1, a2] hd hlink hc hR rfl hr hok hq (fun r M2 hrm => by obtain ⟨rfl, rfl⟩ := hrm; exact kk)
theorem go_cV4 {I cal : KI} {Z : KZ} {M M1 : KM} {loc : List (Option KV)} {rest : List KV} {pc q idx : Nat} {a0 a1 a2 a3 : KV} {k i : Nat} {v : KV} (hd : decode I.2.1 pc = .ok (.invokevirtual idx, 3)) (hlink : Cond.methodLink I.1.cls idx cal.1 ∈ k_tb) (hc : KCV cal 4) (hR : KR I cal) (hcls : (k_oc k).bind (fun ci => (vwCl[ci]?).map (fun q => q.1)) = some cal.1.cls) (hi : i < k_cnt k) (hr : (rest.map k_cat).sum ≤ 8) (hok : OkF cal (vR k i :: [a0, a1, a2, a3]) M (some v) M1) (hq : pc + 3 = q) (kk : Go I Z M1 loc (v :: rest) q) : Go I Z M loc (a3 :: a2 :: a1 :: a0 :: vR k i :: rest) pc :=
  go_callV [a0, a1, a2, a3] hd hlink hc hR rfl hcls hi hr hok hq (fun r M2 hrm => by obtain ⟨rfl, rfl⟩ := hrm; exact kk)
theorem go_uV4 {I cal : KI} {Z : KZ} {M M1 : KM} {loc : List (Option KV)} {rest : List KV} {pc q idx : Nat} {a0 a1 a2 a3 : KV} {k i : Nat}  (hd : decode I.2.1 pc = .ok (.invokevirtual idx, 3)) (hlink : Cond.methodLink I.1.cls idx cal.1 ∈ k_tb) (hc : KCV cal 4) (hR : KR I cal) (hcls : (k_oc k).bind (fun ci => (vwCl[ci]?).map (fun q => q.1)) = some cal.1.cls) (hi : i < k_cnt k) (hr : (rest.map k_cat).sum ≤ 8) (hok : OkF cal (vR k i :: [a0, a1, a2, a3]) M none M1) (hq : pc + 3 = q) (kk : Go I Z M1 loc rest q) : Go I Z M loc (a3 :: a2 :: a1 :: a0 :: vR k i :: rest) pc :=
  go_callV [a0, a1, a2, a3] hd hlink hc hR rfl hcls hi hr hok hq (fun r M2 hrm => by obtain ⟨rfl, rfl⟩ := hrm; exact kk)
theorem go_cS4 {I cal : KI} {Z : KZ} {M M1 : KM} {loc : List (Option KV)} {rest : List KV} {pc q idx : Nat} {a0 a1 a2 a3 : KV}  {v : KV} (hd : decode I.2.1 pc = .ok (.invokestatic idx, 3)) (hlink : Cond.methodLink I.1.cls idx cal.1 ∈ k_tb) (hc : KCS cal 4) (hR : KR I cal)  (hr : (rest.map k_cat).sum ≤ 8) (hok : OkF cal [a0, a1, a2, a3] M (some v) M1) (hq : pc + 3 = q) (kk : Go I Z M1 loc (v :: rest) q) : Go I Z M loc (a3 :: a2 :: a1 :: a0 :: rest) pc :=
  go_callS [a0, a1, a2, a3] hd hlink hc hR rfl hr hok hq (fun r M2 hrm => by obtain ⟨rfl, rfl⟩ := hrm; exact kk)
theorem go_uS4 {I cal : KI} {Z : KZ} {M M1 : KM} {loc : List (Option KV)} {rest : List KV} {pc q idx : Nat} {a0 a1 a2 a3 : KV}   (hd : decode I.2.1 pc = .ok (.invokestatic idx, 3)) (hlink : Cond.methodLink I.1.cls idx cal.1 ∈ k_tb) (hc : KCS cal 4) (hR : KR I cal)  (hr : (rest.map k_cat).sum ≤ 8) (hok : OkF cal [a0, a1, a2, a3] M none M1) (hq : pc + 3 = q) (kk : Go I Z M1 loc rest q) : Go I Z M loc (a3 :: a2 :: a1 :: a0 :: rest) pc :=
  go_callS [a0, a1, a2, a3] hd hlink hc hR rfl hr hok hq (fun r M2 hrm => by obtain ⟨rfl, rfl⟩ := hrm; exact kk)
theorem go_mmax {I : KI} {Z : KZ} {M : KM} {loc : List (Option KV)} {rest : List KV} {pc q idx : Nat} {x y : Int32} (hd : decode I.2.1 pc = .ok (.invokestatic idx, 3)) (hlink : Cond.methodLink I.1.cls idx Lib.Math.max.name ∈ k_tb) (h1 : Cond.static Lib.Math.max.name ∈ k_tb) (h2 : Cond.initialized "java/lang/Math" ∈ k_tb) (h3 : Cond.code Lib.Math.max.name Lib.Math.max.code 2 (some .int) ∈ k_tb) (hR : 1 ≤ I.2.2.2.2.frames ∧ 21 ≤ I.2.2.2.2.locals) (hr : (rest.map k_cat).sum ≤ 8) (hq : pc + 3 = q) (h : Go I Z M loc (vI (if x < y then y else x) :: rest) q) : Go I Z M loc (vI y :: vI x :: rest) pc := by
  subst hq
  intro G Hb p l e R s m args below meth c cells slots Qf hC hZ H ls locs hW hF hL hl
  obtain ⟨hx, hb, hml, hrt, hown, hlk, hts, hK, hRf, hRl, hce, hsl⟩ := id hC
  exact va_mmax hx hb (hml.trans hl.1.symm) hown (hts _ hlink) (hts _ h1) (hts _ h2) (hts _ h3) (by rw [hRf]; exact hR.1) (by rw [k_catsum, hRl]; have := hR.2; omega) hce hsl hd (h G Hb p l e R s m args below meth c cells slots Qf hC hZ H ls locs hW hF hL hl)
theorem go_mmin {I : KI} {Z : KZ} {M : KM} {loc : List (Option KV)} {rest : List KV} {pc q idx : Nat} {x y : Int32} (hd : decode I.2.1 pc = .ok (.invokestatic idx, 3)) (hlink : Cond.methodLink I.1.cls idx Lib.Math.min.name ∈ k_tb) (h1 : Cond.static Lib.Math.min.name ∈ k_tb) (h2 : Cond.initialized "java/lang/Math" ∈ k_tb) (h3 : Cond.code Lib.Math.min.name Lib.Math.min.code 2 (some .int) ∈ k_tb) (hR : 1 ≤ I.2.2.2.2.frames ∧ 21 ≤ I.2.2.2.2.locals) (hr : (rest.map k_cat).sum ≤ 8) (hq : pc + 3 = q) (h : Go I Z M loc (vI (if y < x then y else x) :: rest) q) : Go I Z M loc (vI y :: vI x :: rest) pc := by
  subst hq
  intro G Hb p l e R s m args below meth c cells slots Qf hC hZ H ls locs hW hF hL hl
  obtain ⟨hx, hb, hml, hrt, hown, hlk, hts, hK, hRf, hRl, hce, hsl⟩ := id hC
  exact va_mmin hx hb (hml.trans hl.1.symm) hown (hts _ hlink) (hts _ h1) (hts _ h2) (hts _ h3) (by rw [hRf]; exact hR.1) (by rw [k_catsum, hRl]; have := hR.2; omega) hce hsl hd (h G Hb p l e R s m args below meth c cells slots Qf hC hZ H ls locs hW hF hL hl)
end
section
theorem k_t {i : Nat} {w : Cond} (h : tables_1[i]? = some w) (hg : goodWord w = true) : w ∈ k_tb := List.mem_filter.mpr ⟨List.mem_append_right _ (List.mem_of_getElem? h), hg⟩
theorem k_s {i : Nat} {w : Cond} (h : (k2_sels lw_privs)[i]? = some w) (hg : goodWord w = true) : w ∈ k_tb := List.mem_filter.mpr ⟨List.mem_append_left _ (List.mem_of_getElem? h), hg⟩
abbrev mX10_init : KI := (yX10_init, cX10_init, 1, none, { frames := 0, cells := 0, slots := 0, locals := 0 })
abbrev mX10_in : KI := (yX10_in, cX10_in, 3, (some .boolean), { frames := 0, cells := 0, slots := 0, locals := 0 })
abbrev mX10_of : KI := (yX10_of, cX10_of, 3, (some .int), { frames := 0, cells := 0, slots := 0, locals := 0 })
abbrev mX10_lay : KI := (yX10_lay, cX10_lay, 4, none, { frames := 0, cells := 0, slots := 0, locals := 0 })
abbrev mX10_isPerson : KI := (yX10_isPerson, cX10_isPerson, 2, (some .boolean), { frames := 1, cells := 0, slots := 0, locals := 22 })
abbrev mX10_lives : KI := (yX10_lives, cX10_lives, 2, (some .boolean), { frames := 1, cells := 0, slots := 0, locals := 22 })
abbrev mX10_isShield : KI := (yX10_isShield, cX10_isShield, 1, (some .boolean), { frames := 1, cells := 0, slots := 0, locals := 22 })
abbrev mX10_power : KI := (yX10_power, cX10_power, 3, (some .int), { frames := 0, cells := 0, slots := 0, locals := 0 })
abbrev mX10_markOf : KI := (yX10_markOf, cX10_markOf, 2, (some .int), { frames := 1, cells := 0, slots := 0, locals := 22 })
abbrev mX10_with : KI := (yX10_with, cX10_with, 3, (some .int), { frames := 2, cells := 0, slots := 0, locals := 43 })
abbrev mX10_far : KI := (yX10_far, cX10_far, 4, (some .int), { frames := 2, cells := 0, slots := 0, locals := 43 })
abbrev mX10_bears : KI := (yX10_bears, cX10_bears, 4, (some .int), { frames := 2, cells := 0, slots := 0, locals := 43 })
abbrev mX10_copyState : KI := (yX10_copyState, cX10_copyState, 5, none, { frames := 0, cells := 0, slots := 0, locals := 0 })
abbrev mX10_record : KI := (yX10_record, cX10_record, 2, none, { frames := 1, cells := 0, slots := 0, locals := 24 })
abbrev mX10_undo : KI := (yX10_undo, cX10_undo, 1, (some .int), { frames := 1, cells := 0, slots := 0, locals := 24 })
abbrev mX10_living : KI := (yX10_living, cX10_living, 3, (some .int), { frames := 1, cells := 0, slots := 0, locals := 22 })
abbrev mX10_save : KI := (yX10_save, cX10_save, 1, (some .int), { frames := 2, cells := 0, slots := 0, locals := 44 })
abbrev mX10_restore : KI := (yX10_restore, cX10_restore, 1, (some .int), { frames := 2, cells := 0, slots := 0, locals := 45 })
abbrev mX10_areBrothers : KI := (yX10_areBrothers, cX10_areBrothers, 3, (some .boolean), { frames := 1, cells := 0, slots := 0, locals := 22 })
abbrev mX10_areCousins : KI := (yX10_areCousins, cX10_areCousins, 3, (some .boolean), { frames := 2, cells := 0, slots := 0, locals := 44 })
abbrev mX10_sonsOf : KI := (yX10_sonsOf, cX10_sonsOf, 5, (some .int), { frames := 2, cells := 0, slots := 0, locals := 43 })
abbrev mX10_depth : KI := (yX10_depth, cX10_depth, 4, (some .int), { frames := 1, cells := 0, slots := 0, locals := 22 })
abbrev mX10_eldest : KI := (yX10_eldest, cX10_eldest, 4, (some .int), { frames := 2, cells := 0, slots := 0, locals := 43 })
abbrev mX10_refuse : KI := (yX10_refuse, cX10_refuse, 2, (some .int), { frames := 0, cells := 0, slots := 0, locals := 0 })
abbrev mX10_come : KI := (yX10_come, cX10_come, 6, (some .int), { frames := 1, cells := 0, slots := 0, locals := 23 })
abbrev mX10_whyNotFound : KI := (yX10_whyNotFound, cX10_whyNotFound, 2, (some .int), { frames := 2, cells := 0, slots := 0, locals := 42 })
abbrev mX10_foundNow : KI := (yX10_foundNow, cX10_foundNow, 2, (some .int), { frames := 3, cells := 0, slots := 0, locals := 66 })
abbrev mX10_found : KI := (yX10_found, cX10_found, 3, (some .int), { frames := 4, cells := 0, slots := 0, locals := 87 })
abbrev mX10_isChange : KI := (yX10_isChange, cX10_isChange, 2, (some .boolean), { frames := 1, cells := 0, slots := 0, locals := 22 })
abbrev mX10_isCousins : KI := (yX10_isCousins, cX10_isCousins, 6, (some .boolean), { frames := 2, cells := 0, slots := 0, locals := 44 })
abbrev mX10_reason : KI := (yX10_reason, cX10_reason, 5, (some .int), { frames := 3, cells := 0, slots := 0, locals := 69 })
abbrev mX10_whyNotBear : KI := (yX10_whyNotBear, cX10_whyNotBear, 4, (some .int), { frames := 2, cells := 0, slots := 0, locals := 43 })
abbrev mX10_bearNow : KI := (yX10_bearNow, cX10_bearNow, 5, (some .int), { frames := 4, cells := 0, slots := 0, locals := 93 })
abbrev mX10_bear : KI := (yX10_bear, cX10_bear, 5, (some .int), { frames := 5, cells := 0, slots := 0, locals := 117 })
abbrev mX10_dieNow : KI := (yX10_dieNow, cX10_dieNow, 2, (some .int), { frames := 2, cells := 0, slots := 0, locals := 44 })
abbrev mX10_die : KI := (yX10_die, cX10_die, 2, (some .int), { frames := 3, cells := 0, slots := 0, locals := 65 })
abbrev mX10_whyNotInherit : KI := (yX10_whyNotInherit, cX10_whyNotInherit, 2, (some .int), { frames := 2, cells := 0, slots := 0, locals := 43 })
abbrev mX10_inheritNow : KI := (yX10_inheritNow, cX10_inheritNow, 5, (some .int), { frames := 3, cells := 0, slots := 0, locals := 66 })
abbrev mX10_inherit : KI := (yX10_inherit, cX10_inherit, 3, (some .int), { frames := 4, cells := 0, slots := 0, locals := 90 })
abbrev mX10_append : KI := (yX10_append, cX10_append, 2, (some .int), { frames := 1, cells := 0, slots := 0, locals := 22 })
abbrev mX10_clear : KI := (yX10_clear, cX10_clear, 2, (some .int), { frames := 0, cells := 0, slots := 0, locals := 0 })
abbrev mX10_sees : KI := (yX10_sees, cX10_sees, 3, (some .boolean), { frames := 1, cells := 0, slots := 0, locals := 22 })
abbrev mX10_takes : KI := (yX10_takes, cX10_takes, 3, (some .boolean), { frames := 2, cells := 0, slots := 0, locals := 44 })
abbrev mX10_digit : KI := (yX10_digit, cX10_digit, 2, (some .int), { frames := 2, cells := 0, slots := 0, locals := 44 })
abbrev mX10_number : KI := (yX10_number, cX10_number, 2, (some .int), { frames := 3, cells := 0, slots := 0, locals := 65 })
abbrev mX10_readShield : KI := (yX10_readShield, cX10_readShield, 4, (some .int), { frames := 3, cells := 0, slots := 0, locals := 65 })
abbrev mX10_readDeed : KI := (yX10_readDeed, cX10_readDeed, 6, (some .boolean), { frames := 4, cells := 0, slots := 0, locals := 88 })
abbrev mX10_readPad : KI := (yX10_readPad, cX10_readPad, 2, (some .boolean), { frames := 5, cells := 0, slots := 0, locals := 113 })
abbrev mX10_fault : KI := (yX10_fault, cX10_fault, 1, (some .int), { frames := 6, cells := 0, slots := 0, locals := 134 })
abbrev mX10_doDeed : KI := (yX10_doDeed, cX10_doDeed, 6, (some .int), { frames := 5, cells := 0, slots := 0, locals := 117 })
abbrev mX10_enrol : KI := (yX10_enrol, cX10_enrol, 4, (some .int), { frames := 6, cells := 0, slots := 0, locals := 142 })
abbrev mX10_why : KI := (yX10_why, cX10_why, 2, (some .int), { frames := 0, cells := 0, slots := 0, locals := 0 })
abbrev mX10_livingKin : KI := (yX10_livingKin, cX10_livingKin, 6, (some .int), { frames := 3, cells := 0, slots := 0, locals := 66 })
abbrev mX10_comesFrom : KI := (yX10_comesFrom, cX10_comesFrom, 5, (some .boolean), { frames := 1, cells := 0, slots := 0, locals := 22 })
abbrev mX10_allFrom : KI := (yX10_allFrom, cX10_allFrom, 4, (some .int), { frames := 2, cells := 0, slots := 0, locals := 46 })
abbrev mX10_farFromFather : KI := (yX10_farFromFather, cX10_farFromFather, 3, (some .int), { frames := 3, cells := 0, slots := 0, locals := 66 })
abbrev mX10_person : KI := (yX10_person, cX10_person, 3, (some .int), { frames := 4, cells := 0, slots := 0, locals := 91 })
abbrev mX10_mark : KI := (yX10_mark, cX10_mark, 3, (some .int), { frames := 2, cells := 0, slots := 0, locals := 43 })
abbrev mX10_whyNot : KI := (yX10_whyNot, cX10_whyNot, 4, (some .int), { frames := 4, cells := 0, slots := 0, locals := 93 })
abbrev mX10_choicesOf : KI := (yX10_choicesOf, cX10_choicesOf, 4, (some .int), { frames := 4, cells := 0, slots := 0, locals := 93 })
abbrev mX10_choices : KI := (yX10_choices, cX10_choices, 3, (some .int), { frames := 5, cells := 0, slots := 0, locals := 116 })
abbrev mX10_leastFar : KI := (yX10_leastFar, cX10_leastFar, 6, (some .int), { frames := 3, cells := 0, slots := 0, locals := 66 })
abbrev mX10_best : KI := (yX10_best, cX10_best, 7, (some .int), { frames := 4, cells := 0, slots := 0, locals := 93 })
abbrev mX10_differs : KI := (yX10_differs, cX10_differs, 3, (some .int), { frames := 3, cells := 0, slots := 0, locals := 66 })
abbrev mX10_kin : KI := (yX10_kin, cX10_kin, 6, (some .int), { frames := 2, cells := 0, slots := 0, locals := 43 })
abbrev mX10_bearer : KI := (yX10_bearer, cX10_bearer, 2, (some .int), { frames := 3, cells := 0, slots := 0, locals := 66 })
abbrev mX10_fewest : KI := (yX10_fewest, cX10_fewest, 7, (some .int), { frames := 3, cells := 0, slots := 0, locals := 65 })
abbrev mX10_line : KI := (yX10_line, cX10_line, 4, (some .int), { frames := 4, cells := 0, slots := 0, locals := 91 })
abbrev mX10_isConfused : KI := (yX10_isConfused, cX10_isConfused, 4, (some .boolean), { frames := 3, cells := 0, slots := 0, locals := 66 })
abbrev mX10_confused : KI := (yX10_confused, cX10_confused, 4, (some .int), { frames := 4, cells := 0, slots := 0, locals := 89 })
abbrev mX10_founders : KI := (yX10_founders, cX10_founders, 3, (some .int), { frames := 1, cells := 0, slots := 0, locals := 22 })
abbrev mX10_deepest : KI := (yX10_deepest, cX10_deepest, 3, (some .int), { frames := 2, cells := 0, slots := 0, locals := 45 })
abbrev mX10_differentShields : KI := (yX10_differentShields, cX10_differentShields, 5, (some .int), { frames := 1, cells := 0, slots := 0, locals := 22 })
abbrev mX10_livingBy : KI := (yX10_livingBy, cX10_livingBy, 5, (some .int), { frames := 4, cells := 0, slots := 0, locals := 88 })
abbrev mX10_count : KI := (yX10_count, cX10_count, 2, (some .int), { frames := 5, cells := 0, slots := 0, locals := 112 })
abbrev mX10_borne : KI := (yX10_borne, cX10_borne, 5, (some .int), { frames := 2, cells := 0, slots := 0, locals := 43 })
abbrev mX10_unlike : KI := (yX10_unlike, cX10_unlike, 7, (some .double), { frames := 3, cells := 0, slots := 0, locals := 66 })
abbrev mX10_allChoices : KI := (yX10_allChoices, cX10_allChoices, 3, (some .int), { frames := 5, cells := 0, slots := 0, locals := 116 })
abbrev mX10_ifDead : KI := (yX10_ifDead, cX10_ifDead, 4, (some .int), { frames := 6, cells := 0, slots := 0, locals := 138 })
abbrev mX8_isShield : KI := (yX8_isShield, cX8_isShield, 1, (some .boolean), { frames := 0, cells := 0, slots := 0, locals := 0 })
abbrev mX8_isPlace : KI := (yX8_isPlace, cX8_isPlace, 1, (some .boolean), { frames := 0, cells := 0, slots := 0, locals := 0 })
abbrev mX8_isMark : KI := (yX8_isMark, cX8_isMark, 1, (some .boolean), { frames := 0, cells := 0, slots := 0, locals := 0 })
abbrev mX8_markAt : KI := (yX8_markAt, cX8_markAt, 4, (some .int), { frames := 0, cells := 0, slots := 0, locals := 0 })
abbrev mX8_weightOf : KI := (yX8_weightOf, cX8_weightOf, 3, (some .int), { frames := 0, cells := 0, slots := 0, locals := 0 })
abbrev mX8_withMark : KI := (yX8_withMark, cX8_withMark, 3, (some .int), { frames := 1, cells := 0, slots := 0, locals := 23 })
abbrev mX8_apart : KI := (yX8_apart, cX8_apart, 4, (some .int), { frames := 0, cells := 0, slots := 0, locals := 0 })
abbrev mX5_init : KI := (yX5_init, cX5_init, 1, none, { frames := 0, cells := 0, slots := 0, locals := 0 })
abbrev mX5_length : KI := (yX5_length, cX5_length, 1, (some .int), { frames := 0, cells := 0, slots := 0, locals := 0 })
abbrev mX5_isFull : KI := (yX5_isFull, cX5_isFull, 1, (some .boolean), { frames := 0, cells := 0, slots := 0, locals := 0 })
abbrev mX5_put : KI := (yX5_put, cX5_put, 2, none, { frames := 0, cells := 0, slots := 0, locals := 0 })
abbrev mX5_empty : KI := (yX5_empty, cX5_empty, 1, none, { frames := 0, cells := 0, slots := 0, locals := 0 })
abbrev mX5_signAt : KI := (yX5_signAt, cX5_signAt, 2, (some .int), { frames := 0, cells := 0, slots := 0, locals := 0 })
abbrev mX5_startsDeed : KI := (yX5_startsDeed, cX5_startsDeed, 2, (some .boolean), { frames := 1, cells := 0, slots := 0, locals := 21 })
abbrev mX5_digitAt : KI := (yX5_digitAt, cX5_digitAt, 2, (some .int), { frames := 1, cells := 0, slots := 0, locals := 21 })
abbrev mX5_afterNumber : KI := (yX5_afterNumber, cX5_afterNumber, 2, (some .int), { frames := 1, cells := 0, slots := 0, locals := 22 })
abbrev mX5_numberAt : KI := (yX5_numberAt, cX5_numberAt, 2, (some .int), { frames := 2, cells := 0, slots := 0, locals := 42 })
abbrev mX5_shieldAt : KI := (yX5_shieldAt, cX5_shieldAt, 4, (some .int), { frames := 2, cells := 0, slots := 0, locals := 42 })
abbrev mX5_firstFault : KI := (yX5_firstFault, cX5_firstFault, 3, (some .int), { frames := 3, cells := 0, slots := 0, locals := 65 })
abbrev mX5_stateAfter : KI := (yX5_stateAfter, cX5_stateAfter, 2, (some .int), { frames := 2, cells := 0, slots := 0, locals := 44 })
abbrev mX5_stateAfterLetter : KI := (yX5_stateAfterLetter, cX5_stateAfterLetter, 1, (some .int), { frames := 0, cells := 0, slots := 0, locals := 0 })
abbrev mX5_stateAfterFather : KI := (yX5_stateAfterFather, cX5_stateAfterFather, 1, (some .int), { frames := 0, cells := 0, slots := 0, locals := 0 })
abbrev mX5_stateAfterDeed : KI := (yX5_stateAfterDeed, cX5_stateAfterDeed, 1, (some .int), { frames := 0, cells := 0, slots := 0, locals := 0 })
abbrev mX5_stateAfterDigit : KI := (yX5_stateAfterDigit, cX5_stateAfterDigit, 3, (some .int), { frames := 1, cells := 0, slots := 0, locals := 22 })
abbrev mX5_isBetween : KI := (yX5_isBetween, cX5_isBetween, 3, (some .boolean), { frames := 0, cells := 0, slots := 0, locals := 0 })
abbrev mX6_init : KI := (yX6_init, cX6_init, 1, none, { frames := 0, cells := 0, slots := 0, locals := 0 })
abbrev mX6_copyFrom : KI := (yX6_copyFrom, cX6_copyFrom, 3, none, { frames := 0, cells := 0, slots := 0, locals := 0 })
abbrev mX6_size : KI := (yX6_size, cX6_size, 1, (some .int), { frames := 0, cells := 0, slots := 0, locals := 0 })
abbrev mX6_heirs : KI := (yX6_heirs, cX6_heirs, 1, (some .int), { frames := 0, cells := 0, slots := 0, locals := 0 })
abbrev mX6_refusals : KI := (yX6_refusals, cX6_refusals, 1, (some .int), { frames := 0, cells := 0, slots := 0, locals := 0 })
abbrev mX6_has : KI := (yX6_has, cX6_has, 2, (some .boolean), { frames := 0, cells := 0, slots := 0, locals := 0 })
abbrev mX6_shieldOf : KI := (yX6_shieldOf, cX6_shieldOf, 2, (some .int), { frames := 1, cells := 0, slots := 0, locals := 21 })
abbrev mX6_isAlive : KI := (yX6_isAlive, cX6_isAlive, 2, (some .boolean), { frames := 1, cells := 0, slots := 0, locals := 21 })
abbrev mX6_fatherOf : KI := (yX6_fatherOf, cX6_fatherOf, 2, (some .int), { frames := 1, cells := 0, slots := 0, locals := 21 })
abbrev mX6_birthPlaceOf : KI := (yX6_birthPlaceOf, cX6_birthPlaceOf, 2, (some .int), { frames := 1, cells := 0, slots := 0, locals := 21 })
abbrev mX6_birthMarkOf : KI := (yX6_birthMarkOf, cX6_birthMarkOf, 2, (some .int), { frames := 1, cells := 0, slots := 0, locals := 21 })
abbrev mX6_living : KI := (yX6_living, cX6_living, 3, (some .int), { frames := 2, cells := 0, slots := 0, locals := 42 })
abbrev mX6_livingWith : KI := (yX6_livingWith, cX6_livingWith, 3, (some .int), { frames := 0, cells := 0, slots := 0, locals := 0 })
abbrev mX6_sonsOf : KI := (yX6_sonsOf, cX6_sonsOf, 4, (some .int), { frames := 2, cells := 0, slots := 0, locals := 42 })
abbrev mX6_areBrothers : KI := (yX6_areBrothers, cX6_areBrothers, 3, (some .boolean), { frames := 1, cells := 0, slots := 0, locals := 21 })
abbrev mX6_founderComes : KI := (yX6_founderComes, cX6_founderComes, 2, (some .int), { frames := 1, cells := 0, slots := 0, locals := 25 })
abbrev mX6_sonComes : KI := (yX6_sonComes, cX6_sonComes, 5, (some .int), { frames := 4, cells := 0, slots := 0, locals := 89 })
abbrev mX6_goes : KI := (yX6_goes, cX6_goes, 2, (some .int), { frames := 3, cells := 0, slots := 0, locals := 64 })
abbrev mX6_becomesHeir : KI := (yX6_becomesHeir, cX6_becomesHeir, 4, (some .int), { frames := 3, cells := 0, slots := 0, locals := 66 })
abbrev mX6_refuse : KI := (yX6_refuse, cX6_refuse, 2, (some .int), { frames := 0, cells := 0, slots := 0, locals := 0 })
abbrev mX6_add : KI := (yX6_add, cX6_add, 6, (some .int), { frames := 0, cells := 0, slots := 0, locals := 0 })
abbrev mX6_reasonAgainstSon : KI := (yX6_reasonAgainstSon, cX6_reasonAgainstSon, 4, (some .int), { frames := 3, cells := 0, slots := 0, locals := 66 })
abbrev mX6_cousinChanged : KI := (yX6_cousinChanged, cX6_cousinChanged, 4, (some .boolean), { frames := 2, cells := 0, slots := 0, locals := 43 })
abbrev mX6_reasonAgainstHeir : KI := (yX6_reasonAgainstHeir, cX6_reasonAgainstHeir, 4, (some .int), { frames := 2, cells := 0, slots := 0, locals := 43 })
abbrev mX7_init : KI := (yX7_init, cX7_init, 1, none, { frames := 0, cells := 0, slots := 0, locals := 0 })
abbrev mX7_has : KI := (yX7_has, cX7_has, 2, (some .boolean), { frames := 1, cells := 0, slots := 0, locals := 20 })
abbrev mX7_add : KI := (yX7_add, cX7_add, 2, none, { frames := 1, cells := 0, slots := 0, locals := 20 })
abbrev mX7_empty : KI := (yX7_empty, cX7_empty, 2, none, { frames := 0, cells := 0, slots := 0, locals := 0 })
abbrev mX7_isWordEmpty : KI := (yX7_isWordEmpty, cX7_isWordEmpty, 2, (some .boolean), { frames := 0, cells := 0, slots := 0, locals := 0 })
abbrev mX1_leftByTrying : KI := (yX1_leftByTrying, cX1_leftByTrying, 5, (some .int), { frames := 4, cells := 0, slots := 0, locals := 89 })
abbrev mX1_leftByPlaces : KI := (yX1_leftByPlaces, cX1_leftByPlaces, 4, (some .int), { frames := 3, cells := 0, slots := 0, locals := 69 })
abbrev mX1_livingApartAt : KI := (yX1_livingApartAt, cX1_livingApartAt, 8, (some .int), { frames := 2, cells := 0, slots := 0, locals := 42 })
abbrev mX1_leftToAll : KI := (yX1_leftToAll, cX1_leftToAll, 3, (some .int), { frames := 4, cells := 0, slots := 0, locals := 92 })
abbrev mX1_farthest : KI := (yX1_farthest, cX1_farthest, 8, (some .int), { frames := 4, cells := 0, slots := 0, locals := 89 })
abbrev mX1_leastApart : KI := (yX1_leastApart, cX1_leastApart, 5, (some .int), { frames := 2, cells := 0, slots := 0, locals := 42 })
abbrev mX2_init : KI := (yX2_init, cX2_init, 2, none, { frames := 1, cells := 0, slots := 0, locals := 20 })
abbrev mX2_size : KI := (yX2_size, cX2_size, 1, (some .int), { frames := 0, cells := 0, slots := 0, locals := 0 })
abbrev mX2_stateAt : KI := (yX2_stateAt, cX2_stateAt, 2, (some (.object "SonMarks$Roll")), { frames := 0, cells := 0, slots := 0, locals := 0 })
abbrev mX2_note : KI := (yX2_note, cX2_note, 3, none, { frames := 1, cells := 0, slots := 0, locals := 22 })
abbrev mX2_keepNoted : KI := (yX2_keepNoted, cX2_keepNoted, 3, none, { frames := 0, cells := 0, slots := 0, locals := 0 })
abbrev mX2_takeBack : KI := (yX2_takeBack, cX2_takeBack, 3, none, { frames := 1, cells := 0, slots := 0, locals := 22 })
abbrev mX3_livingSons : KI := (yX3_livingSons, cX3_livingSons, 4, (some .int), { frames := 2, cells := 0, slots := 0, locals := 42 })
abbrev mX3_livingBrothers : KI := (yX3_livingBrothers, cX3_livingBrothers, 4, (some .int), { frames := 2, cells := 0, slots := 0, locals := 43 })
abbrev mX3_livingCousins : KI := (yX3_livingCousins, cX3_livingCousins, 4, (some .int), { frames := 2, cells := 0, slots := 0, locals := 43 })
abbrev mX3_descendants : KI := (yX3_descendants, cX3_descendants, 4, (some .int), { frames := 3, cells := 0, slots := 0, locals := 66 })
abbrev mX3_comesFrom : KI := (yX3_comesFrom, cX3_comesFrom, 5, (some .boolean), { frames := 2, cells := 0, slots := 0, locals := 42 })
abbrev mX3_stepsFromFounder : KI := (yX3_stepsFromFounder, cX3_stepsFromFounder, 4, (some .int), { frames := 2, cells := 0, slots := 0, locals := 42 })
abbrev mX3_placesFromFather : KI := (yX3_placesFromFather, cX3_placesFromFather, 3, (some .int), { frames := 2, cells := 0, slots := 0, locals := 42 })
abbrev mX3_nearness : KI := (yX3_nearness, cX3_nearness, 4, (some .int), { frames := 2, cells := 0, slots := 0, locals := 42 })
abbrev mX3_heirOf : KI := (yX3_heirOf, cX3_heirOf, 3, (some .int), { frames := 3, cells := 0, slots := 0, locals := 66 })
abbrev mX4_init : KI := (yX4_init, cX4_init, 1, none, { frames := 1, cells := 0, slots := 0, locals := 20 })
abbrev mX4_fewest : KI := (yX4_fewest, cX4_fewest, 6, (some .int), { frames := 5, cells := 0, slots := 0, locals := 122 })
abbrev mX4_reaches : KI := (yX4_reaches, cX4_reaches, 7, (some .boolean), { frames := 4, cells := 0, slots := 0, locals := 96 })
abbrev mX4_goOn : KI := (yX4_goOn, cX4_goOn, 6, none, { frames := 3, cells := 0, slots := 0, locals := 71 })
abbrev mX4_goOnFrom : KI := (yX4_goOnFrom, cX4_goOnFrom, 7, none, { frames := 2, cells := 0, slots := 0, locals := 45 })
abbrev mX0_founders : KI := (yX0_founders, cX0_founders, 3, (some .int), { frames := 2, cells := 0, slots := 0, locals := 42 })
abbrev mX0_confusedPairs : KI := (yX0_confusedPairs, cX0_confusedPairs, 4, (some .int), { frames := 3, cells := 0, slots := 0, locals := 64 })
abbrev mX0_areConfused : KI := (yX0_areConfused, cX0_areConfused, 3, (some .boolean), { frames := 2, cells := 0, slots := 0, locals := 42 })
abbrev mX0_mostStepsFromFounder : KI := (yX0_mostStepsFromFounder, cX0_mostStepsFromFounder, 3, (some .int), { frames := 3, cells := 0, slots := 0, locals := 65 })
abbrev mX0_differentShields : KI := (yX0_differentShields, cX0_differentShields, 3, (some .int), { frames := 3, cells := 0, slots := 0, locals := 64 })
abbrev mX0_isFirstWithItsShield : KI := (yX0_isFirstWithItsShield, cX0_isFirstWithItsShield, 3, (some .boolean), { frames := 2, cells := 0, slots := 0, locals := 42 })
abbrev mX0_farFromFather : KI := (yX0_farFromFather, cX0_farFromFather, 3, (some .int), { frames := 3, cells := 0, slots := 0, locals := 64 })
abbrev mX0_livingSonless : KI := (yX0_livingSonless, cX0_livingSonless, 3, (some .int), { frames := 3, cells := 0, slots := 0, locals := 65 })
abbrev mX0_livingWithMark : KI := (yX0_livingWithMark, cX0_livingWithMark, 5, (some .int), { frames := 2, cells := 0, slots := 0, locals := 42 })
abbrev mX0_meanApart : KI := (yX0_meanApart, cX0_meanApart, 5, (some .double), { frames := 2, cells := 0, slots := 0, locals := 42 })
abbrev mX9_init : KI := (yX9_init, cX9_init, 1, none, { frames := 2, cells := 0, slots := 0, locals := 41 })
abbrev mX9_found : KI := (yX9_found, cX9_found, 2, (some .int), { frames := 2, cells := 0, slots := 0, locals := 46 })
abbrev mX9_bear : KI := (yX9_bear, cX9_bear, 4, (some .int), { frames := 5, cells := 0, slots := 0, locals := 113 })
abbrev mX9_die : KI := (yX9_die, cX9_die, 2, (some .int), { frames := 4, cells := 0, slots := 0, locals := 85 })
abbrev mX9_inherit : KI := (yX9_inherit, cX9_inherit, 2, (some .int), { frames := 4, cells := 0, slots := 0, locals := 89 })
abbrev mX9_keepIfChanged : KI := (yX9_keepIfChanged, cX9_keepIfChanged, 2, (some .int), { frames := 1, cells := 0, slots := 0, locals := 22 })
abbrev mX9_append : KI := (yX9_append, cX9_append, 2, (some .int), { frames := 1, cells := 0, slots := 0, locals := 21 })
abbrev mX9_clear : KI := (yX9_clear, cX9_clear, 2, (some .int), { frames := 1, cells := 0, slots := 0, locals := 20 })
abbrev mX9_fault : KI := (yX9_fault, cX9_fault, 1, (some .int), { frames := 4, cells := 0, slots := 0, locals := 87 })
abbrev mX9_enrol : KI := (yX9_enrol, cX9_enrol, 4, (some .int), { frames := 6, cells := 0, slots := 0, locals := 135 })
abbrev mX9_enrolDeed : KI := (yX9_enrolDeed, cX9_enrolDeed, 3, (some .int), { frames := 5, cells := 0, slots := 0, locals := 113 })
abbrev mX9_why : KI := (yX9_why, cX9_why, 2, (some .int), { frames := 0, cells := 0, slots := 0, locals := 0 })
abbrev mX9_person : KI := (yX9_person, cX9_person, 3, (some .int), { frames := 4, cells := 0, slots := 0, locals := 89 })
abbrev mX9_orNotFound : KI := (yX9_orNotFound, cX9_orNotFound, 1, (some .int), { frames := 0, cells := 0, slots := 0, locals := 0 })
abbrev mX9_mark : KI := (yX9_mark, cX9_mark, 3, (some .int), { frames := 2, cells := 0, slots := 0, locals := 42 })
abbrev mX9_whyNot : KI := (yX9_whyNot, cX9_whyNot, 4, (some .int), { frames := 4, cells := 0, slots := 0, locals := 89 })
abbrev mX9_choices : KI := (yX9_choices, cX9_choices, 3, (some .int), { frames := 5, cells := 0, slots := 0, locals := 113 })
abbrev mX9_best : KI := (yX9_best, cX9_best, 2, (some .int), { frames := 5, cells := 0, slots := 0, locals := 116 })
abbrev mX9_differs : KI := (yX9_differs, cX9_differs, 3, (some .int), { frames := 2, cells := 0, slots := 0, locals := 42 })
abbrev mX9_kin : KI := (yX9_kin, cX9_kin, 3, (some .int), { frames := 3, cells := 0, slots := 0, locals := 65 })
abbrev mX9_bearer : KI := (yX9_bearer, cX9_bearer, 2, (some .int), { frames := 1, cells := 0, slots := 0, locals := 22 })
abbrev mX9_line : KI := (yX9_line, cX9_line, 5, (some .int), { frames := 6, cells := 0, slots := 0, locals := 147 })
abbrev mX9_isWay : KI := (yX9_isWay, cX9_isWay, 1, (some .boolean), { frames := 0, cells := 0, slots := 0, locals := 0 })
abbrev mX9_count : KI := (yX9_count, cX9_count, 2, (some .int), { frames := 4, cells := 0, slots := 0, locals := 87 })
abbrev mX9_borne : KI := (yX9_borne, cX9_borne, 3, (some .int), { frames := 3, cells := 0, slots := 0, locals := 66 })
abbrev mX9_unlike : KI := (yX9_unlike, cX9_unlike, 1, (some .double), { frames := 3, cells := 0, slots := 0, locals := 66 })
abbrev mX9_ifDead : KI := (yX9_ifDead, cX9_ifDead, 3, (some .int), { frames := 5, cells := 0, slots := 0, locals := 114 })
abbrev mX9_undo : KI := (yX9_undo, cX9_undo, 1, (some .int), { frames := 2, cells := 0, slots := 0, locals := 44 })
abbrev mX9_save : KI := (yX9_save, cX9_save, 1, (some .int), { frames := 3, cells := 0, slots := 0, locals := 64 })
abbrev mX9_restore : KI := (yX9_restore, cX9_restore, 1, (some .int), { frames := 3, cells := 0, slots := 0, locals := 64 })
abbrev mL_law : KI := (x, code, 8, ret, room_1)
theorem vX10_in : KCS mX10_in 3 := ⟨⟨k_t (i := 704) (by decide +kernel) rfl, k_t (i := 7) (by decide +kernel) rfl, (by decide +kernel), rfl, rfl⟩, k_t (i := 703) (by decide +kernel) rfl⟩
theorem vX10_of : KCV mX10_of 2 := ⟨⟨k_t (i := 682) (by decide +kernel) rfl, k_t (i := 7) (by decide +kernel) rfl, (by decide +kernel), rfl, rfl⟩, k_t (i := 681) (by decide +kernel) rfl, k_s (i := 9) (by decide +kernel) rfl⟩
theorem vX10_lay : KCV mX10_lay 3 := ⟨⟨k_t (i := 728) (by decide +kernel) rfl, k_t (i := 7) (by decide +kernel) rfl, (by decide +kernel), rfl, rfl⟩, k_t (i := 727) (by decide +kernel) rfl, k_s (i := 17) (by decide +kernel) rfl⟩
theorem vX10_isPerson : KCV mX10_isPerson 1 := ⟨⟨k_t (i := 740) (by decide +kernel) rfl, k_t (i := 7) (by decide +kernel) rfl, (by decide +kernel), rfl, rfl⟩, k_t (i := 739) (by decide +kernel) rfl, k_s (i := 19) (by decide +kernel) rfl⟩
theorem vX10_lives : KCV mX10_lives 1 := ⟨⟨k_t (i := 716) (by decide +kernel) rfl, k_t (i := 7) (by decide +kernel) rfl, (by decide +kernel), rfl, rfl⟩, k_t (i := 715) (by decide +kernel) rfl, k_s (i := 14) (by decide +kernel) rfl⟩
theorem vX10_isShield : KCS mX10_isShield 1 := ⟨⟨k_t (i := 701) (by decide +kernel) rfl, k_t (i := 7) (by decide +kernel) rfl, (by decide +kernel), rfl, rfl⟩, k_t (i := 700) (by decide +kernel) rfl⟩
theorem vX10_power : KCS mX10_power 1 := ⟨⟨k_t (i := 757) (by decide +kernel) rfl, k_t (i := 7) (by decide +kernel) rfl, (by decide +kernel), rfl, rfl⟩, k_t (i := 756) (by decide +kernel) rfl⟩
theorem vX10_markOf : KCS mX10_markOf 2 := ⟨⟨k_t (i := 754) (by decide +kernel) rfl, k_t (i := 7) (by decide +kernel) rfl, (by decide +kernel), rfl, rfl⟩, k_t (i := 753) (by decide +kernel) rfl⟩
theorem vX10_with : KCS mX10_with 3 := ⟨⟨k_t (i := 760) (by decide +kernel) rfl, k_t (i := 7) (by decide +kernel) rfl, (by decide +kernel), rfl, rfl⟩, k_t (i := 759) (by decide +kernel) rfl⟩
theorem vX10_far : KCS mX10_far 2 := ⟨⟨k_t (i := 799) (by decide +kernel) rfl, k_t (i := 7) (by decide +kernel) rfl, (by decide +kernel), rfl, rfl⟩, k_t (i := 798) (by decide +kernel) rfl⟩
theorem vX10_bears : KCV mX10_bears 1 := ⟨⟨k_t (i := 712) (by decide +kernel) rfl, k_t (i := 7) (by decide +kernel) rfl, (by decide +kernel), rfl, rfl⟩, k_t (i := 711) (by decide +kernel) rfl, k_s (i := 13) (by decide +kernel) rfl⟩
theorem vX10_copyState : KCS mX10_copyState 4 := ⟨⟨k_t (i := 670) (by decide +kernel) rfl, k_t (i := 7) (by decide +kernel) rfl, (by decide +kernel), rfl, rfl⟩, k_t (i := 669) (by decide +kernel) rfl⟩
theorem vX10_record : KCV mX10_record 0 := ⟨⟨k_t (i := 690) (by decide +kernel) rfl, k_t (i := 7) (by decide +kernel) rfl, (by decide +kernel), rfl, rfl⟩, k_t (i := 689) (by decide +kernel) rfl, k_s (i := 10) (by decide +kernel) rfl⟩
theorem vX10_undo : KCV mX10_undo 0 := ⟨⟨k_t (i := 667) (by decide +kernel) rfl, k_t (i := 7) (by decide +kernel) rfl, (by decide +kernel), rfl, rfl⟩, k_t (i := 665) (by decide +kernel) rfl, k_t (i := 666) (by decide +kernel) rfl⟩
theorem vX10_living : KCV mX10_living 0 := ⟨⟨k_t (i := 678) (by decide +kernel) rfl, k_t (i := 7) (by decide +kernel) rfl, (by decide +kernel), rfl, rfl⟩, k_t (i := 677) (by decide +kernel) rfl, k_s (i := 8) (by decide +kernel) rfl⟩
theorem vX10_save : KCV mX10_save 0 := ⟨⟨k_t (i := 674) (by decide +kernel) rfl, k_t (i := 7) (by decide +kernel) rfl, (by decide +kernel), rfl, rfl⟩, k_t (i := 672) (by decide +kernel) rfl, k_t (i := 673) (by decide +kernel) rfl⟩
theorem vX10_restore : KCV mX10_restore 0 := ⟨⟨k_t (i := 686) (by decide +kernel) rfl, k_t (i := 7) (by decide +kernel) rfl, (by decide +kernel), rfl, rfl⟩, k_t (i := 684) (by decide +kernel) rfl, k_t (i := 685) (by decide +kernel) rfl⟩
theorem vX10_areBrothers : KCV mX10_areBrothers 2 := ⟨⟨k_t (i := 768) (by decide +kernel) rfl, k_t (i := 7) (by decide +kernel) rfl, (by decide +kernel), rfl, rfl⟩, k_t (i := 767) (by decide +kernel) rfl, k_s (i := 23) (by decide +kernel) rfl⟩
theorem vX10_areCousins : KCV mX10_areCousins 2 := ⟨⟨k_t (i := 863) (by decide +kernel) rfl, k_t (i := 7) (by decide +kernel) rfl, (by decide +kernel), rfl, rfl⟩, k_t (i := 862) (by decide +kernel) rfl, k_s (i := 38) (by decide +kernel) rfl⟩
theorem vX10_sonsOf : KCV mX10_sonsOf 2 := ⟨⟨k_t (i := 772) (by decide +kernel) rfl, k_t (i := 7) (by decide +kernel) rfl, (by decide +kernel), rfl, rfl⟩, k_t (i := 771) (by decide +kernel) rfl, k_s (i := 24) (by decide +kernel) rfl⟩
theorem vX10_depth : KCV mX10_depth 1 := ⟨⟨k_t (i := 875) (by decide +kernel) rfl, k_t (i := 7) (by decide +kernel) rfl, (by decide +kernel), rfl, rfl⟩, k_t (i := 874) (by decide +kernel) rfl, k_s (i := 41) (by decide +kernel) rfl⟩
theorem vX10_eldest : KCV mX10_eldest 1 := ⟨⟨k_t (i := 796) (by decide +kernel) rfl, k_t (i := 7) (by decide +kernel) rfl, (by decide +kernel), rfl, rfl⟩, k_t (i := 795) (by decide +kernel) rfl, k_s (i := 28) (by decide +kernel) rfl⟩
theorem vX10_refuse : KCV mX10_refuse 1 := ⟨⟨k_t (i := 720) (by decide +kernel) rfl, k_t (i := 7) (by decide +kernel) rfl, (by decide +kernel), rfl, rfl⟩, k_t (i := 719) (by decide +kernel) rfl, k_s (i := 15) (by decide +kernel) rfl⟩
theorem vX10_come : KCV mX10_come 4 := ⟨⟨k_t (i := 724) (by decide +kernel) rfl, k_t (i := 7) (by decide +kernel) rfl, (by decide +kernel), rfl, rfl⟩, k_t (i := 723) (by decide +kernel) rfl, k_s (i := 16) (by decide +kernel) rfl⟩
theorem vX10_whyNotFound : KCV mX10_whyNotFound 1 := ⟨⟨k_t (i := 698) (by decide +kernel) rfl, k_t (i := 7) (by decide +kernel) rfl, (by decide +kernel), rfl, rfl⟩, k_t (i := 697) (by decide +kernel) rfl, k_s (i := 11) (by decide +kernel) rfl⟩
theorem vX10_foundNow : KCV mX10_foundNow 1 := ⟨⟨k_t (i := 708) (by decide +kernel) rfl, k_t (i := 7) (by decide +kernel) rfl, (by decide +kernel), rfl, rfl⟩, k_t (i := 707) (by decide +kernel) rfl, k_s (i := 12) (by decide +kernel) rfl⟩
theorem vX10_found : KCV mX10_found 1 := ⟨⟨k_t (i := 694) (by decide +kernel) rfl, k_t (i := 7) (by decide +kernel) rfl, (by decide +kernel), rfl, rfl⟩, k_t (i := 692) (by decide +kernel) rfl, k_t (i := 693) (by decide +kernel) rfl⟩
theorem vX10_isChange : KCS mX10_isChange 2 := ⟨⟨k_t (i := 743) (by decide +kernel) rfl, k_t (i := 7) (by decide +kernel) rfl, (by decide +kernel), rfl, rfl⟩, k_t (i := 742) (by decide +kernel) rfl⟩
theorem vX10_isCousins : KCV mX10_isCousins 2 := ⟨⟨k_t (i := 764) (by decide +kernel) rfl, k_t (i := 7) (by decide +kernel) rfl, (by decide +kernel), rfl, rfl⟩, k_t (i := 763) (by decide +kernel) rfl, k_s (i := 22) (by decide +kernel) rfl⟩
theorem vX10_reason : KCV mX10_reason 3 := ⟨⟨k_t (i := 751) (by decide +kernel) rfl, k_t (i := 7) (by decide +kernel) rfl, (by decide +kernel), rfl, rfl⟩, k_t (i := 750) (by decide +kernel) rfl, k_s (i := 21) (by decide +kernel) rfl⟩
theorem vX10_whyNotBear : KCV mX10_whyNotBear 3 := ⟨⟨k_t (i := 736) (by decide +kernel) rfl, k_t (i := 7) (by decide +kernel) rfl, (by decide +kernel), rfl, rfl⟩, k_t (i := 735) (by decide +kernel) rfl, k_s (i := 18) (by decide +kernel) rfl⟩
theorem vX10_bearNow : KCV mX10_bearNow 3 := ⟨⟨k_t (i := 747) (by decide +kernel) rfl, k_t (i := 7) (by decide +kernel) rfl, (by decide +kernel), rfl, rfl⟩, k_t (i := 746) (by decide +kernel) rfl, k_s (i := 20) (by decide +kernel) rfl⟩
theorem vX10_bear : KCV mX10_bear 3 := ⟨⟨k_t (i := 732) (by decide +kernel) rfl, k_t (i := 7) (by decide +kernel) rfl, (by decide +kernel), rfl, rfl⟩, k_t (i := 730) (by decide +kernel) rfl, k_t (i := 731) (by decide +kernel) rfl⟩
theorem vX10_dieNow : KCV mX10_dieNow 1 := ⟨⟨k_t (i := 780) (by decide +kernel) rfl, k_t (i := 7) (by decide +kernel) rfl, (by decide +kernel), rfl, rfl⟩, k_t (i := 779) (by decide +kernel) rfl, k_s (i := 25) (by decide +kernel) rfl⟩
theorem vX10_die : KCV mX10_die 1 := ⟨⟨k_t (i := 776) (by decide +kernel) rfl, k_t (i := 7) (by decide +kernel) rfl, (by decide +kernel), rfl, rfl⟩, k_t (i := 774) (by decide +kernel) rfl, k_t (i := 775) (by decide +kernel) rfl⟩
theorem vX10_whyNotInherit : KCV mX10_whyNotInherit 1 := ⟨⟨k_t (i := 788) (by decide +kernel) rfl, k_t (i := 7) (by decide +kernel) rfl, (by decide +kernel), rfl, rfl⟩, k_t (i := 787) (by decide +kernel) rfl, k_s (i := 26) (by decide +kernel) rfl⟩
theorem vX10_inheritNow : KCV mX10_inheritNow 1 := ⟨⟨k_t (i := 792) (by decide +kernel) rfl, k_t (i := 7) (by decide +kernel) rfl, (by decide +kernel), rfl, rfl⟩, k_t (i := 791) (by decide +kernel) rfl, k_s (i := 27) (by decide +kernel) rfl⟩
theorem vX10_inherit : KCV mX10_inherit 1 := ⟨⟨k_t (i := 784) (by decide +kernel) rfl, k_t (i := 7) (by decide +kernel) rfl, (by decide +kernel), rfl, rfl⟩, k_t (i := 782) (by decide +kernel) rfl, k_t (i := 783) (by decide +kernel) rfl⟩
theorem vX10_append : KCV mX10_append 1 := ⟨⟨k_t (i := 803) (by decide +kernel) rfl, k_t (i := 7) (by decide +kernel) rfl, (by decide +kernel), rfl, rfl⟩, k_t (i := 801) (by decide +kernel) rfl, k_t (i := 802) (by decide +kernel) rfl⟩
theorem vX10_clear : KCV mX10_clear 0 := ⟨⟨k_t (i := 807) (by decide +kernel) rfl, k_t (i := 7) (by decide +kernel) rfl, (by decide +kernel), rfl, rfl⟩, k_t (i := 805) (by decide +kernel) rfl, k_t (i := 806) (by decide +kernel) rfl⟩
theorem vX10_sees : KCV mX10_sees 2 := ⟨⟨k_t (i := 831) (by decide +kernel) rfl, k_t (i := 7) (by decide +kernel) rfl, (by decide +kernel), rfl, rfl⟩, k_t (i := 830) (by decide +kernel) rfl, k_s (i := 33) (by decide +kernel) rfl⟩
theorem vX10_takes : KCV mX10_takes 1 := ⟨⟨k_t (i := 839) (by decide +kernel) rfl, k_t (i := 7) (by decide +kernel) rfl, (by decide +kernel), rfl, rfl⟩, k_t (i := 838) (by decide +kernel) rfl, k_s (i := 35) (by decide +kernel) rfl⟩
theorem vX10_digit : KCV mX10_digit 1 := ⟨⟨k_t (i := 827) (by decide +kernel) rfl, k_t (i := 7) (by decide +kernel) rfl, (by decide +kernel), rfl, rfl⟩, k_t (i := 826) (by decide +kernel) rfl, k_s (i := 32) (by decide +kernel) rfl⟩
theorem vX10_number : KCV mX10_number 0 := ⟨⟨k_t (i := 835) (by decide +kernel) rfl, k_t (i := 7) (by decide +kernel) rfl, (by decide +kernel), rfl, rfl⟩, k_t (i := 834) (by decide +kernel) rfl, k_s (i := 34) (by decide +kernel) rfl⟩
theorem vX10_readShield : KCV mX10_readShield 0 := ⟨⟨k_t (i := 823) (by decide +kernel) rfl, k_t (i := 7) (by decide +kernel) rfl, (by decide +kernel), rfl, rfl⟩, k_t (i := 822) (by decide +kernel) rfl, k_s (i := 31) (by decide +kernel) rfl⟩
theorem vX10_readDeed : KCV mX10_readDeed 0 := ⟨⟨k_t (i := 819) (by decide +kernel) rfl, k_t (i := 7) (by decide +kernel) rfl, (by decide +kernel), rfl, rfl⟩, k_t (i := 818) (by decide +kernel) rfl, k_s (i := 30) (by decide +kernel) rfl⟩
theorem vX10_readPad : KCV mX10_readPad 0 := ⟨⟨k_t (i := 815) (by decide +kernel) rfl, k_t (i := 7) (by decide +kernel) rfl, (by decide +kernel), rfl, rfl⟩, k_t (i := 814) (by decide +kernel) rfl, k_s (i := 29) (by decide +kernel) rfl⟩
theorem vX10_fault : KCV mX10_fault 0 := ⟨⟨k_t (i := 811) (by decide +kernel) rfl, k_t (i := 7) (by decide +kernel) rfl, (by decide +kernel), rfl, rfl⟩, k_t (i := 809) (by decide +kernel) rfl, k_t (i := 810) (by decide +kernel) rfl⟩
theorem vX10_doDeed : KCV mX10_doDeed 1 := ⟨⟨k_t (i := 847) (by decide +kernel) rfl, k_t (i := 7) (by decide +kernel) rfl, (by decide +kernel), rfl, rfl⟩, k_t (i := 846) (by decide +kernel) rfl, k_s (i := 36) (by decide +kernel) rfl⟩
theorem vX10_enrol : KCV mX10_enrol 0 := ⟨⟨k_t (i := 843) (by decide +kernel) rfl, k_t (i := 7) (by decide +kernel) rfl, (by decide +kernel), rfl, rfl⟩, k_t (i := 841) (by decide +kernel) rfl, k_t (i := 842) (by decide +kernel) rfl⟩
theorem vX10_why : KCV mX10_why 1 := ⟨⟨k_t (i := 851) (by decide +kernel) rfl, k_t (i := 7) (by decide +kernel) rfl, (by decide +kernel), rfl, rfl⟩, k_t (i := 849) (by decide +kernel) rfl, k_t (i := 850) (by decide +kernel) rfl⟩
theorem vX10_livingKin : KCV mX10_livingKin 2 := ⟨⟨k_t (i := 859) (by decide +kernel) rfl, k_t (i := 7) (by decide +kernel) rfl, (by decide +kernel), rfl, rfl⟩, k_t (i := 858) (by decide +kernel) rfl, k_s (i := 37) (by decide +kernel) rfl⟩
theorem vX10_comesFrom : KCV mX10_comesFrom 2 := ⟨⟨k_t (i := 871) (by decide +kernel) rfl, k_t (i := 7) (by decide +kernel) rfl, (by decide +kernel), rfl, rfl⟩, k_t (i := 870) (by decide +kernel) rfl, k_s (i := 40) (by decide +kernel) rfl⟩
theorem vX10_allFrom : KCV mX10_allFrom 1 := ⟨⟨k_t (i := 867) (by decide +kernel) rfl, k_t (i := 7) (by decide +kernel) rfl, (by decide +kernel), rfl, rfl⟩, k_t (i := 866) (by decide +kernel) rfl, k_s (i := 39) (by decide +kernel) rfl⟩
theorem vX10_farFromFather : KCV mX10_farFromFather 1 := ⟨⟨k_t (i := 879) (by decide +kernel) rfl, k_t (i := 7) (by decide +kernel) rfl, (by decide +kernel), rfl, rfl⟩, k_t (i := 878) (by decide +kernel) rfl, k_s (i := 42) (by decide +kernel) rfl⟩
theorem vX10_person : KCV mX10_person 2 := ⟨⟨k_t (i := 855) (by decide +kernel) rfl, k_t (i := 7) (by decide +kernel) rfl, (by decide +kernel), rfl, rfl⟩, k_t (i := 853) (by decide +kernel) rfl, k_t (i := 854) (by decide +kernel) rfl⟩
theorem vX10_mark : KCV mX10_mark 2 := ⟨⟨k_t (i := 883) (by decide +kernel) rfl, k_t (i := 7) (by decide +kernel) rfl, (by decide +kernel), rfl, rfl⟩, k_t (i := 881) (by decide +kernel) rfl, k_t (i := 882) (by decide +kernel) rfl⟩
theorem vX10_whyNot : KCV mX10_whyNot 3 := ⟨⟨k_t (i := 887) (by decide +kernel) rfl, k_t (i := 7) (by decide +kernel) rfl, (by decide +kernel), rfl, rfl⟩, k_t (i := 885) (by decide +kernel) rfl, k_t (i := 886) (by decide +kernel) rfl⟩
theorem vX10_choicesOf : KCV mX10_choicesOf 1 := ⟨⟨k_t (i := 895) (by decide +kernel) rfl, k_t (i := 7) (by decide +kernel) rfl, (by decide +kernel), rfl, rfl⟩, k_t (i := 894) (by decide +kernel) rfl, k_s (i := 43) (by decide +kernel) rfl⟩
theorem vX10_choices : KCV mX10_choices 2 := ⟨⟨k_t (i := 891) (by decide +kernel) rfl, k_t (i := 7) (by decide +kernel) rfl, (by decide +kernel), rfl, rfl⟩, k_t (i := 889) (by decide +kernel) rfl, k_t (i := 890) (by decide +kernel) rfl⟩
theorem vX10_leastFar : KCV mX10_leastFar 2 := ⟨⟨k_t (i := 903) (by decide +kernel) rfl, k_t (i := 7) (by decide +kernel) rfl, (by decide +kernel), rfl, rfl⟩, k_t (i := 902) (by decide +kernel) rfl, k_s (i := 44) (by decide +kernel) rfl⟩
theorem vX10_best : KCV mX10_best 1 := ⟨⟨k_t (i := 899) (by decide +kernel) rfl, k_t (i := 7) (by decide +kernel) rfl, (by decide +kernel), rfl, rfl⟩, k_t (i := 897) (by decide +kernel) rfl, k_t (i := 898) (by decide +kernel) rfl⟩
theorem vX10_differs : KCV mX10_differs 2 := ⟨⟨k_t (i := 907) (by decide +kernel) rfl, k_t (i := 7) (by decide +kernel) rfl, (by decide +kernel), rfl, rfl⟩, k_t (i := 905) (by decide +kernel) rfl, k_t (i := 906) (by decide +kernel) rfl⟩
theorem vX10_kin : KCV mX10_kin 2 := ⟨⟨k_t (i := 911) (by decide +kernel) rfl, k_t (i := 7) (by decide +kernel) rfl, (by decide +kernel), rfl, rfl⟩, k_t (i := 909) (by decide +kernel) rfl, k_t (i := 910) (by decide +kernel) rfl⟩
theorem vX10_bearer : KCV mX10_bearer 1 := ⟨⟨k_t (i := 915) (by decide +kernel) rfl, k_t (i := 7) (by decide +kernel) rfl, (by decide +kernel), rfl, rfl⟩, k_t (i := 913) (by decide +kernel) rfl, k_t (i := 914) (by decide +kernel) rfl⟩
theorem vX10_fewest : KCV mX10_fewest 2 := ⟨⟨k_t (i := 923) (by decide +kernel) rfl, k_t (i := 7) (by decide +kernel) rfl, (by decide +kernel), rfl, rfl⟩, k_t (i := 922) (by decide +kernel) rfl, k_s (i := 45) (by decide +kernel) rfl⟩
theorem vX10_line : KCV mX10_line 3 := ⟨⟨k_t (i := 919) (by decide +kernel) rfl, k_t (i := 7) (by decide +kernel) rfl, (by decide +kernel), rfl, rfl⟩, k_t (i := 917) (by decide +kernel) rfl, k_t (i := 918) (by decide +kernel) rfl⟩
theorem vX10_isConfused : KCV mX10_isConfused 2 := ⟨⟨k_t (i := 939) (by decide +kernel) rfl, k_t (i := 7) (by decide +kernel) rfl, (by decide +kernel), rfl, rfl⟩, k_t (i := 938) (by decide +kernel) rfl, k_s (i := 48) (by decide +kernel) rfl⟩
theorem vX10_confused : KCV mX10_confused 0 := ⟨⟨k_t (i := 935) (by decide +kernel) rfl, k_t (i := 7) (by decide +kernel) rfl, (by decide +kernel), rfl, rfl⟩, k_t (i := 934) (by decide +kernel) rfl, k_s (i := 47) (by decide +kernel) rfl⟩
theorem vX10_founders : KCV mX10_founders 0 := ⟨⟨k_t (i := 931) (by decide +kernel) rfl, k_t (i := 7) (by decide +kernel) rfl, (by decide +kernel), rfl, rfl⟩, k_t (i := 930) (by decide +kernel) rfl, k_s (i := 46) (by decide +kernel) rfl⟩
theorem vX10_deepest : KCV mX10_deepest 0 := ⟨⟨k_t (i := 943) (by decide +kernel) rfl, k_t (i := 7) (by decide +kernel) rfl, (by decide +kernel), rfl, rfl⟩, k_t (i := 942) (by decide +kernel) rfl, k_s (i := 49) (by decide +kernel) rfl⟩
theorem vX10_differentShields : KCV mX10_differentShields 0 := ⟨⟨k_t (i := 947) (by decide +kernel) rfl, k_t (i := 7) (by decide +kernel) rfl, (by decide +kernel), rfl, rfl⟩, k_t (i := 946) (by decide +kernel) rfl, k_s (i := 50) (by decide +kernel) rfl⟩
theorem vX10_livingBy : KCV mX10_livingBy 1 := ⟨⟨k_t (i := 951) (by decide +kernel) rfl, k_t (i := 7) (by decide +kernel) rfl, (by decide +kernel), rfl, rfl⟩, k_t (i := 950) (by decide +kernel) rfl, k_s (i := 51) (by decide +kernel) rfl⟩
theorem vX10_count : KCV mX10_count 1 := ⟨⟨k_t (i := 927) (by decide +kernel) rfl, k_t (i := 7) (by decide +kernel) rfl, (by decide +kernel), rfl, rfl⟩, k_t (i := 925) (by decide +kernel) rfl, k_t (i := 926) (by decide +kernel) rfl⟩
theorem vX10_borne : KCV mX10_borne 2 := ⟨⟨k_t (i := 955) (by decide +kernel) rfl, k_t (i := 7) (by decide +kernel) rfl, (by decide +kernel), rfl, rfl⟩, k_t (i := 953) (by decide +kernel) rfl, k_t (i := 954) (by decide +kernel) rfl⟩
theorem vX10_unlike : KCV mX10_unlike 0 := ⟨⟨k_t (i := 959) (by decide +kernel) rfl, k_t (i := 7) (by decide +kernel) rfl, (by decide +kernel), rfl, rfl⟩, k_t (i := 957) (by decide +kernel) rfl, k_t (i := 958) (by decide +kernel) rfl⟩
theorem vX10_allChoices : KCV mX10_allChoices 0 := ⟨⟨k_t (i := 967) (by decide +kernel) rfl, k_t (i := 7) (by decide +kernel) rfl, (by decide +kernel), rfl, rfl⟩, k_t (i := 966) (by decide +kernel) rfl, k_s (i := 52) (by decide +kernel) rfl⟩
theorem vX10_ifDead : KCV mX10_ifDead 2 := ⟨⟨k_t (i := 963) (by decide +kernel) rfl, k_t (i := 7) (by decide +kernel) rfl, (by decide +kernel), rfl, rfl⟩, k_t (i := 961) (by decide +kernel) rfl, k_t (i := 962) (by decide +kernel) rfl⟩
theorem vX8_isShield : KCS mX8_isShield 1 := ⟨⟨k_t (i := 163) (by decide +kernel) rfl, k_t (i := 8) (by decide +kernel) rfl, (by decide +kernel), rfl, rfl⟩, k_t (i := 162) (by decide +kernel) rfl⟩
theorem vX8_isPlace : KCS mX8_isPlace 1 := ⟨⟨k_t (i := 198) (by decide +kernel) rfl, k_t (i := 8) (by decide +kernel) rfl, (by decide +kernel), rfl, rfl⟩, k_t (i := 197) (by decide +kernel) rfl⟩
theorem vX8_isMark : KCS mX8_isMark 1 := ⟨⟨k_t (i := 201) (by decide +kernel) rfl, k_t (i := 8) (by decide +kernel) rfl, (by decide +kernel), rfl, rfl⟩, k_t (i := 200) (by decide +kernel) rfl⟩
theorem vX8_markAt : KCS mX8_markAt 2 := ⟨⟨k_t (i := 216) (by decide +kernel) rfl, k_t (i := 8) (by decide +kernel) rfl, (by decide +kernel), rfl, rfl⟩, k_t (i := 215) (by decide +kernel) rfl⟩
theorem vX8_weightOf : KCS mX8_weightOf 1 := ⟨⟨k_t (i := 223) (by decide +kernel) rfl, k_t (i := 8) (by decide +kernel) rfl, (by decide +kernel), rfl, rfl⟩, k_t (i := 222) (by decide +kernel) rfl⟩
theorem vX8_withMark : KCS mX8_withMark 3 := ⟨⟨k_t (i := 219) (by decide +kernel) rfl, k_t (i := 8) (by decide +kernel) rfl, (by decide +kernel), rfl, rfl⟩, k_t (i := 218) (by decide +kernel) rfl⟩
theorem vX8_apart : KCS mX8_apart 2 := ⟨⟨k_t (i := 270) (by decide +kernel) rfl, k_t (i := 8) (by decide +kernel) rfl, (by decide +kernel), rfl, rfl⟩, k_t (i := 269) (by decide +kernel) rfl⟩
theorem vX5_length : KCV mX5_length 0 := ⟨⟨k_t (i := 286) (by decide +kernel) rfl, k_t (i := 4) (by decide +kernel) rfl, (by decide +kernel), rfl, rfl⟩, k_t (i := 284) (by decide +kernel) rfl, k_t (i := 285) (by decide +kernel) rfl⟩
theorem vX5_isFull : KCV mX5_isFull 0 := ⟨⟨k_t (i := 278) (by decide +kernel) rfl, k_t (i := 4) (by decide +kernel) rfl, (by decide +kernel), rfl, rfl⟩, k_t (i := 276) (by decide +kernel) rfl, k_t (i := 277) (by decide +kernel) rfl⟩
theorem vX5_put : KCV mX5_put 1 := ⟨⟨k_t (i := 282) (by decide +kernel) rfl, k_t (i := 4) (by decide +kernel) rfl, (by decide +kernel), rfl, rfl⟩, k_t (i := 280) (by decide +kernel) rfl, k_t (i := 281) (by decide +kernel) rfl⟩
theorem vX5_empty : KCV mX5_empty 0 := ⟨⟨k_t (i := 294) (by decide +kernel) rfl, k_t (i := 4) (by decide +kernel) rfl, (by decide +kernel), rfl, rfl⟩, k_t (i := 292) (by decide +kernel) rfl, k_t (i := 293) (by decide +kernel) rfl⟩
theorem vX5_signAt : KCV mX5_signAt 1 := ⟨⟨k_t (i := 306) (by decide +kernel) rfl, k_t (i := 4) (by decide +kernel) rfl, (by decide +kernel), rfl, rfl⟩, k_t (i := 304) (by decide +kernel) rfl, k_t (i := 305) (by decide +kernel) rfl⟩
theorem vX5_startsDeed : KCV mX5_startsDeed 1 := ⟨⟨k_t (i := 332) (by decide +kernel) rfl, k_t (i := 4) (by decide +kernel) rfl, (by decide +kernel), rfl, rfl⟩, k_t (i := 330) (by decide +kernel) rfl, k_t (i := 331) (by decide +kernel) rfl⟩
theorem vX5_digitAt : KCV mX5_digitAt 1 := ⟨⟨k_t (i := 345) (by decide +kernel) rfl, k_t (i := 4) (by decide +kernel) rfl, (by decide +kernel), rfl, rfl⟩, k_t (i := 343) (by decide +kernel) rfl, k_t (i := 344) (by decide +kernel) rfl⟩
theorem vX5_afterNumber : KCV mX5_afterNumber 1 := ⟨⟨k_t (i := 350) (by decide +kernel) rfl, k_t (i := 4) (by decide +kernel) rfl, (by decide +kernel), rfl, rfl⟩, k_t (i := 348) (by decide +kernel) rfl, k_t (i := 349) (by decide +kernel) rfl⟩
theorem vX5_numberAt : KCV mX5_numberAt 1 := ⟨⟨k_t (i := 354) (by decide +kernel) rfl, k_t (i := 4) (by decide +kernel) rfl, (by decide +kernel), rfl, rfl⟩, k_t (i := 352) (by decide +kernel) rfl, k_t (i := 353) (by decide +kernel) rfl⟩
theorem vX5_shieldAt : KCV mX5_shieldAt 1 := ⟨⟨k_t (i := 341) (by decide +kernel) rfl, k_t (i := 4) (by decide +kernel) rfl, (by decide +kernel), rfl, rfl⟩, k_t (i := 339) (by decide +kernel) rfl, k_t (i := 340) (by decide +kernel) rfl⟩
theorem vX5_firstFault : KCV mX5_firstFault 0 := ⟨⟨k_t (i := 302) (by decide +kernel) rfl, k_t (i := 4) (by decide +kernel) rfl, (by decide +kernel), rfl, rfl⟩, k_t (i := 300) (by decide +kernel) rfl, k_t (i := 301) (by decide +kernel) rfl⟩
theorem vX5_stateAfter : KCS mX5_stateAfter 2 := ⟨⟨k_t (i := 309) (by decide +kernel) rfl, k_t (i := 4) (by decide +kernel) rfl, (by decide +kernel), rfl, rfl⟩, k_t (i := 308) (by decide +kernel) rfl⟩
theorem vX5_stateAfterLetter : KCS mX5_stateAfterLetter 1 := ⟨⟨k_t (i := 315) (by decide +kernel) rfl, k_t (i := 4) (by decide +kernel) rfl, (by decide +kernel), rfl, rfl⟩, k_t (i := 314) (by decide +kernel) rfl⟩
theorem vX5_stateAfterFather : KCS mX5_stateAfterFather 1 := ⟨⟨k_t (i := 324) (by decide +kernel) rfl, k_t (i := 4) (by decide +kernel) rfl, (by decide +kernel), rfl, rfl⟩, k_t (i := 323) (by decide +kernel) rfl⟩
theorem vX5_stateAfterDeed : KCS mX5_stateAfterDeed 1 := ⟨⟨k_t (i := 312) (by decide +kernel) rfl, k_t (i := 4) (by decide +kernel) rfl, (by decide +kernel), rfl, rfl⟩, k_t (i := 311) (by decide +kernel) rfl⟩
theorem vX5_stateAfterDigit : KCS mX5_stateAfterDigit 3 := ⟨⟨k_t (i := 318) (by decide +kernel) rfl, k_t (i := 4) (by decide +kernel) rfl, (by decide +kernel), rfl, rfl⟩, k_t (i := 317) (by decide +kernel) rfl⟩
theorem vX5_isBetween : KCS mX5_isBetween 3 := ⟨⟨k_t (i := 321) (by decide +kernel) rfl, k_t (i := 4) (by decide +kernel) rfl, (by decide +kernel), rfl, rfl⟩, k_t (i := 320) (by decide +kernel) rfl⟩
theorem vX6_copyFrom : KCV mX6_copyFrom 1 := ⟨⟨k_t (i := 156) (by decide +kernel) rfl, k_t (i := 2) (by decide +kernel) rfl, (by decide +kernel), rfl, rfl⟩, k_t (i := 154) (by decide +kernel) rfl, k_t (i := 155) (by decide +kernel) rfl⟩
theorem vX6_size : KCV mX6_size 0 := ⟨⟨k_t (i := 383) (by decide +kernel) rfl, k_t (i := 2) (by decide +kernel) rfl, (by decide +kernel), rfl, rfl⟩, k_t (i := 381) (by decide +kernel) rfl, k_t (i := 382) (by decide +kernel) rfl⟩
theorem vX6_heirs : KCV mX6_heirs 0 := ⟨⟨k_t (i := 559) (by decide +kernel) rfl, k_t (i := 2) (by decide +kernel) rfl, (by decide +kernel), rfl, rfl⟩, k_t (i := 557) (by decide +kernel) rfl, k_t (i := 558) (by decide +kernel) rfl⟩
theorem vX6_refusals : KCV mX6_refusals 0 := ⟨⟨k_t (i := 563) (by decide +kernel) rfl, k_t (i := 2) (by decide +kernel) rfl, (by decide +kernel), rfl, rfl⟩, k_t (i := 561) (by decide +kernel) rfl, k_t (i := 562) (by decide +kernel) rfl⟩
theorem vX6_has : KCV mX6_has 1 := ⟨⟨k_t (i := 195) (by decide +kernel) rfl, k_t (i := 2) (by decide +kernel) rfl, (by decide +kernel), rfl, rfl⟩, k_t (i := 193) (by decide +kernel) rfl, k_t (i := 194) (by decide +kernel) rfl⟩
theorem vX6_shieldOf : KCV mX6_shieldOf 1 := ⟨⟨k_t (i := 213) (by decide +kernel) rfl, k_t (i := 2) (by decide +kernel) rfl, (by decide +kernel), rfl, rfl⟩, k_t (i := 211) (by decide +kernel) rfl, k_t (i := 212) (by decide +kernel) rfl⟩
theorem vX6_isAlive : KCV mX6_isAlive 1 := ⟨⟨k_t (i := 209) (by decide +kernel) rfl, k_t (i := 2) (by decide +kernel) rfl, (by decide +kernel), rfl, rfl⟩, k_t (i := 207) (by decide +kernel) rfl, k_t (i := 208) (by decide +kernel) rfl⟩
theorem vX6_fatherOf : KCV mX6_fatherOf 1 := ⟨⟨k_t (i := 235) (by decide +kernel) rfl, k_t (i := 2) (by decide +kernel) rfl, (by decide +kernel), rfl, rfl⟩, k_t (i := 233) (by decide +kernel) rfl, k_t (i := 234) (by decide +kernel) rfl⟩
theorem vX6_birthPlaceOf : KCV mX6_birthPlaceOf 1 := ⟨⟨k_t (i := 231) (by decide +kernel) rfl, k_t (i := 2) (by decide +kernel) rfl, (by decide +kernel), rfl, rfl⟩, k_t (i := 229) (by decide +kernel) rfl, k_t (i := 230) (by decide +kernel) rfl⟩
theorem vX6_birthMarkOf : KCV mX6_birthMarkOf 1 := ⟨⟨k_t (i := 375) (by decide +kernel) rfl, k_t (i := 2) (by decide +kernel) rfl, (by decide +kernel), rfl, rfl⟩, k_t (i := 373) (by decide +kernel) rfl, k_t (i := 374) (by decide +kernel) rfl⟩
theorem vX6_living : KCV mX6_living 0 := ⟨⟨k_t (i := 255) (by decide +kernel) rfl, k_t (i := 2) (by decide +kernel) rfl, (by decide +kernel), rfl, rfl⟩, k_t (i := 253) (by decide +kernel) rfl, k_t (i := 254) (by decide +kernel) rfl⟩
theorem vX6_livingWith : KCV mX6_livingWith 1 := ⟨⟨k_t (i := 167) (by decide +kernel) rfl, k_t (i := 2) (by decide +kernel) rfl, (by decide +kernel), rfl, rfl⟩, k_t (i := 165) (by decide +kernel) rfl, k_t (i := 166) (by decide +kernel) rfl⟩
theorem vX6_sonsOf : KCV mX6_sonsOf 1 := ⟨⟨k_t (i := 243) (by decide +kernel) rfl, k_t (i := 2) (by decide +kernel) rfl, (by decide +kernel), rfl, rfl⟩, k_t (i := 241) (by decide +kernel) rfl, k_t (i := 242) (by decide +kernel) rfl⟩
theorem vX6_areBrothers : KCV mX6_areBrothers 2 := ⟨⟨k_t (i := 239) (by decide +kernel) rfl, k_t (i := 2) (by decide +kernel) rfl, (by decide +kernel), rfl, rfl⟩, k_t (i := 237) (by decide +kernel) rfl, k_t (i := 238) (by decide +kernel) rfl⟩
theorem vX6_founderComes : KCV mX6_founderComes 1 := ⟨⟨k_t (i := 160) (by decide +kernel) rfl, k_t (i := 2) (by decide +kernel) rfl, (by decide +kernel), rfl, rfl⟩, k_t (i := 158) (by decide +kernel) rfl, k_t (i := 159) (by decide +kernel) rfl⟩
theorem vX6_sonComes : KCV mX6_sonComes 3 := ⟨⟨k_t (i := 191) (by decide +kernel) rfl, k_t (i := 2) (by decide +kernel) rfl, (by decide +kernel), rfl, rfl⟩, k_t (i := 189) (by decide +kernel) rfl, k_t (i := 190) (by decide +kernel) rfl⟩
theorem vX6_goes : KCV mX6_goes 1 := ⟨⟨k_t (i := 251) (by decide +kernel) rfl, k_t (i := 2) (by decide +kernel) rfl, (by decide +kernel), rfl, rfl⟩, k_t (i := 249) (by decide +kernel) rfl, k_t (i := 250) (by decide +kernel) rfl⟩
theorem vX6_becomesHeir : KCV mX6_becomesHeir 1 := ⟨⟨k_t (i := 263) (by decide +kernel) rfl, k_t (i := 2) (by decide +kernel) rfl, (by decide +kernel), rfl, rfl⟩, k_t (i := 261) (by decide +kernel) rfl, k_t (i := 262) (by decide +kernel) rfl⟩
theorem vX6_refuse : KCV mX6_refuse 1 := ⟨⟨k_t (i := 171) (by decide +kernel) rfl, k_t (i := 2) (by decide +kernel) rfl, (by decide +kernel), rfl, rfl⟩, k_t (i := 170) (by decide +kernel) rfl, k_s (i := 1) (by decide +kernel) rfl⟩
theorem vX6_add : KCV mX6_add 4 := ⟨⟨k_t (i := 175) (by decide +kernel) rfl, k_t (i := 2) (by decide +kernel) rfl, (by decide +kernel), rfl, rfl⟩, k_t (i := 174) (by decide +kernel) rfl, k_s (i := 2) (by decide +kernel) rfl⟩
theorem vX6_reasonAgainstSon : KCV mX6_reasonAgainstSon 3 := ⟨⟨k_t (i := 205) (by decide +kernel) rfl, k_t (i := 2) (by decide +kernel) rfl, (by decide +kernel), rfl, rfl⟩, k_t (i := 203) (by decide +kernel) rfl, k_t (i := 204) (by decide +kernel) rfl⟩
theorem vX6_cousinChanged : KCV mX6_cousinChanged 2 := ⟨⟨k_t (i := 227) (by decide +kernel) rfl, k_t (i := 2) (by decide +kernel) rfl, (by decide +kernel), rfl, rfl⟩, k_t (i := 225) (by decide +kernel) rfl, k_t (i := 226) (by decide +kernel) rfl⟩
theorem vX6_reasonAgainstHeir : KCV mX6_reasonAgainstHeir 1 := ⟨⟨k_t (i := 267) (by decide +kernel) rfl, k_t (i := 2) (by decide +kernel) rfl, (by decide +kernel), rfl, rfl⟩, k_t (i := 265) (by decide +kernel) rfl, k_t (i := 266) (by decide +kernel) rfl⟩
theorem vX7_has : KCV mX7_has 1 := ⟨⟨k_t (i := 508) (by decide +kernel) rfl, k_t (i := 6) (by decide +kernel) rfl, (by decide +kernel), rfl, rfl⟩, k_t (i := 506) (by decide +kernel) rfl, k_t (i := 507) (by decide +kernel) rfl⟩
theorem vX7_add : KCV mX7_add 1 := ⟨⟨k_t (i := 495) (by decide +kernel) rfl, k_t (i := 6) (by decide +kernel) rfl, (by decide +kernel), rfl, rfl⟩, k_t (i := 493) (by decide +kernel) rfl, k_t (i := 494) (by decide +kernel) rfl⟩
theorem vX7_empty : KCV mX7_empty 0 := ⟨⟨k_t (i := 491) (by decide +kernel) rfl, k_t (i := 6) (by decide +kernel) rfl, (by decide +kernel), rfl, rfl⟩, k_t (i := 489) (by decide +kernel) rfl, k_t (i := 490) (by decide +kernel) rfl⟩
theorem vX7_isWordEmpty : KCV mX7_isWordEmpty 1 := ⟨⟨k_t (i := 504) (by decide +kernel) rfl, k_t (i := 6) (by decide +kernel) rfl, (by decide +kernel), rfl, rfl⟩, k_t (i := 502) (by decide +kernel) rfl, k_t (i := 503) (by decide +kernel) rfl⟩
theorem vX1_leftByTrying : KCS mX1_leftByTrying 2 := ⟨⟨k_t (i := 428) (by decide +kernel) rfl, k_t (i := 10) (by decide +kernel) rfl, (by decide +kernel), rfl, rfl⟩, k_t (i := 427) (by decide +kernel) rfl⟩
theorem vX1_leftByPlaces : KCS mX1_leftByPlaces 2 := ⟨⟨k_t (i := 432) (by decide +kernel) rfl, k_t (i := 10) (by decide +kernel) rfl, (by decide +kernel), rfl, rfl⟩, k_t (i := 431) (by decide +kernel) rfl⟩
theorem vX1_livingApartAt : KCS mX1_livingApartAt 3 := ⟨⟨k_t (i := 438) (by decide +kernel) rfl, k_t (i := 10) (by decide +kernel) rfl, (by decide +kernel), rfl, rfl⟩, k_t (i := 437) (by decide +kernel) rfl⟩
theorem vX1_leftToAll : KCS mX1_leftToAll 1 := ⟨⟨k_t (i := 594) (by decide +kernel) rfl, k_t (i := 10) (by decide +kernel) rfl, (by decide +kernel), rfl, rfl⟩, k_t (i := 593) (by decide +kernel) rfl⟩
theorem vX1_farthest : KCS mX1_farthest 2 := ⟨⟨k_t (i := 449) (by decide +kernel) rfl, k_t (i := 10) (by decide +kernel) rfl, (by decide +kernel), rfl, rfl⟩, k_t (i := 448) (by decide +kernel) rfl⟩
theorem vX1_leastApart : KCS mX1_leastApart 3 := ⟨⟨k_t (i := 453) (by decide +kernel) rfl, k_t (i := 10) (by decide +kernel) rfl, (by decide +kernel), rfl, rfl⟩, k_t (i := 452) (by decide +kernel) rfl⟩
theorem vX2_size : KCV mX2_size 0 := ⟨⟨k_t (i := 567) (by decide +kernel) rfl, k_t (i := 3) (by decide +kernel) rfl, (by decide +kernel), rfl, rfl⟩, k_t (i := 565) (by decide +kernel) rfl, k_t (i := 566) (by decide +kernel) rfl⟩
theorem vX2_stateAt : KCV mX2_stateAt 1 := ⟨⟨k_t (i := 152) (by decide +kernel) rfl, k_t (i := 3) (by decide +kernel) rfl, (by decide +kernel), rfl, rfl⟩, k_t (i := 151) (by decide +kernel) rfl, k_s (i := 0) (by decide +kernel) rfl⟩
theorem vX2_note : KCV mX2_note 1 := ⟨⟨k_t (i := 148) (by decide +kernel) rfl, k_t (i := 3) (by decide +kernel) rfl, (by decide +kernel), rfl, rfl⟩, k_t (i := 146) (by decide +kernel) rfl, k_t (i := 147) (by decide +kernel) rfl⟩
theorem vX2_keepNoted : KCV mX2_keepNoted 0 := ⟨⟨k_t (i := 183) (by decide +kernel) rfl, k_t (i := 3) (by decide +kernel) rfl, (by decide +kernel), rfl, rfl⟩, k_t (i := 181) (by decide +kernel) rfl, k_t (i := 182) (by decide +kernel) rfl⟩
theorem vX2_takeBack : KCV mX2_takeBack 1 := ⟨⟨k_t (i := 603) (by decide +kernel) rfl, k_t (i := 3) (by decide +kernel) rfl, (by decide +kernel), rfl, rfl⟩, k_t (i := 601) (by decide +kernel) rfl, k_t (i := 602) (by decide +kernel) rfl⟩
theorem vX3_livingSons : KCS mX3_livingSons 2 := ⟨⟨k_t (i := 379) (by decide +kernel) rfl, k_t (i := 9) (by decide +kernel) rfl, (by decide +kernel), rfl, rfl⟩, k_t (i := 378) (by decide +kernel) rfl⟩
theorem vX3_livingBrothers : KCS mX3_livingBrothers 2 := ⟨⟨k_t (i := 388) (by decide +kernel) rfl, k_t (i := 9) (by decide +kernel) rfl, (by decide +kernel), rfl, rfl⟩, k_t (i := 387) (by decide +kernel) rfl⟩
theorem vX3_livingCousins : KCS mX3_livingCousins 2 := ⟨⟨k_t (i := 392) (by decide +kernel) rfl, k_t (i := 9) (by decide +kernel) rfl, (by decide +kernel), rfl, rfl⟩, k_t (i := 391) (by decide +kernel) rfl⟩
theorem vX3_descendants : KCS mX3_descendants 2 := ⟨⟨k_t (i := 395) (by decide +kernel) rfl, k_t (i := 9) (by decide +kernel) rfl, (by decide +kernel), rfl, rfl⟩, k_t (i := 394) (by decide +kernel) rfl⟩
theorem vX3_comesFrom : KCS mX3_comesFrom 3 := ⟨⟨k_t (i := 398) (by decide +kernel) rfl, k_t (i := 9) (by decide +kernel) rfl, (by decide +kernel), rfl, rfl⟩, k_t (i := 397) (by decide +kernel) rfl⟩
theorem vX3_stepsFromFounder : KCS mX3_stepsFromFounder 2 := ⟨⟨k_t (i := 401) (by decide +kernel) rfl, k_t (i := 9) (by decide +kernel) rfl, (by decide +kernel), rfl, rfl⟩, k_t (i := 400) (by decide +kernel) rfl⟩
theorem vX3_placesFromFather : KCS mX3_placesFromFather 2 := ⟨⟨k_t (i := 404) (by decide +kernel) rfl, k_t (i := 9) (by decide +kernel) rfl, (by decide +kernel), rfl, rfl⟩, k_t (i := 403) (by decide +kernel) rfl⟩
theorem vX3_nearness : KCS mX3_nearness 3 := ⟨⟨k_t (i := 468) (by decide +kernel) rfl, k_t (i := 9) (by decide +kernel) rfl, (by decide +kernel), rfl, rfl⟩, k_t (i := 467) (by decide +kernel) rfl⟩
theorem vX3_heirOf : KCS mX3_heirOf 2 := ⟨⟨k_t (i := 590) (by decide +kernel) rfl, k_t (i := 9) (by decide +kernel) rfl, (by decide +kernel), rfl, rfl⟩, k_t (i := 589) (by decide +kernel) rfl⟩
theorem vX4_fewest : KCV mX4_fewest 3 := ⟨⟨k_t (i := 482) (by decide +kernel) rfl, k_t (i := 5) (by decide +kernel) rfl, (by decide +kernel), rfl, rfl⟩, k_t (i := 480) (by decide +kernel) rfl, k_t (i := 481) (by decide +kernel) rfl⟩
theorem vX4_reaches : KCV mX4_reaches 4 := ⟨⟨k_t (i := 487) (by decide +kernel) rfl, k_t (i := 5) (by decide +kernel) rfl, (by decide +kernel), rfl, rfl⟩, k_t (i := 486) (by decide +kernel) rfl, k_s (i := 5) (by decide +kernel) rfl⟩
theorem vX4_goOn : KCV mX4_goOn 3 := ⟨⟨k_t (i := 500) (by decide +kernel) rfl, k_t (i := 5) (by decide +kernel) rfl, (by decide +kernel), rfl, rfl⟩, k_t (i := 499) (by decide +kernel) rfl, k_s (i := 6) (by decide +kernel) rfl⟩
theorem vX4_goOnFrom : KCV mX4_goOnFrom 4 := ⟨⟨k_t (i := 512) (by decide +kernel) rfl, k_t (i := 5) (by decide +kernel) rfl, (by decide +kernel), rfl, rfl⟩, k_t (i := 511) (by decide +kernel) rfl, k_s (i := 7) (by decide +kernel) rfl⟩
theorem vX0_founders : KCS mX0_founders 1 := ⟨⟨k_t (i := 523) (by decide +kernel) rfl, k_t (i := 12) (by decide +kernel) rfl, (by decide +kernel), rfl, rfl⟩, k_t (i := 522) (by decide +kernel) rfl⟩
theorem vX0_confusedPairs : KCS mX0_confusedPairs 1 := ⟨⟨k_t (i := 528) (by decide +kernel) rfl, k_t (i := 12) (by decide +kernel) rfl, (by decide +kernel), rfl, rfl⟩, k_t (i := 527) (by decide +kernel) rfl⟩
theorem vX0_areConfused : KCS mX0_areConfused 3 := ⟨⟨k_t (i := 531) (by decide +kernel) rfl, k_t (i := 12) (by decide +kernel) rfl, (by decide +kernel), rfl, rfl⟩, k_t (i := 530) (by decide +kernel) rfl⟩
theorem vX0_mostStepsFromFounder : KCS mX0_mostStepsFromFounder 1 := ⟨⟨k_t (i := 537) (by decide +kernel) rfl, k_t (i := 12) (by decide +kernel) rfl, (by decide +kernel), rfl, rfl⟩, k_t (i := 536) (by decide +kernel) rfl⟩
theorem vX0_differentShields : KCS mX0_differentShields 1 := ⟨⟨k_t (i := 544) (by decide +kernel) rfl, k_t (i := 12) (by decide +kernel) rfl, (by decide +kernel), rfl, rfl⟩, k_t (i := 543) (by decide +kernel) rfl⟩
theorem vX0_isFirstWithItsShield : KCS mX0_isFirstWithItsShield 2 := ⟨⟨k_t (i := 547) (by decide +kernel) rfl, k_t (i := 12) (by decide +kernel) rfl, (by decide +kernel), rfl, rfl⟩, k_t (i := 546) (by decide +kernel) rfl⟩
theorem vX0_farFromFather : KCS mX0_farFromFather 1 := ⟨⟨k_t (i := 550) (by decide +kernel) rfl, k_t (i := 12) (by decide +kernel) rfl, (by decide +kernel), rfl, rfl⟩, k_t (i := 549) (by decide +kernel) rfl⟩
theorem vX0_livingSonless : KCS mX0_livingSonless 1 := ⟨⟨k_t (i := 554) (by decide +kernel) rfl, k_t (i := 12) (by decide +kernel) rfl, (by decide +kernel), rfl, rfl⟩, k_t (i := 553) (by decide +kernel) rfl⟩
theorem vX0_livingWithMark : KCS mX0_livingWithMark 3 := ⟨⟨k_t (i := 574) (by decide +kernel) rfl, k_t (i := 12) (by decide +kernel) rfl, (by decide +kernel), rfl, rfl⟩, k_t (i := 573) (by decide +kernel) rfl⟩
theorem vX0_meanApart : KCS mX0_meanApart 1 := ⟨⟨k_t (i := 582) (by decide +kernel) rfl, k_t (i := 12) (by decide +kernel) rfl, (by decide +kernel), rfl, rfl⟩, k_t (i := 581) (by decide +kernel) rfl⟩
theorem vX9_found : KCV mX9_found 1 := ⟨⟨k_t (i := 144) (by decide +kernel) rfl, k_t (i := 1) (by decide +kernel) rfl, (by decide +kernel), rfl, rfl⟩, k_t (i := 142) (by decide +kernel) rfl, k_t (i := 143) (by decide +kernel) rfl⟩
theorem vX9_bear : KCV mX9_bear 3 := ⟨⟨k_t (i := 187) (by decide +kernel) rfl, k_t (i := 1) (by decide +kernel) rfl, (by decide +kernel), rfl, rfl⟩, k_t (i := 185) (by decide +kernel) rfl, k_t (i := 186) (by decide +kernel) rfl⟩
theorem vX9_die : KCV mX9_die 1 := ⟨⟨k_t (i := 247) (by decide +kernel) rfl, k_t (i := 1) (by decide +kernel) rfl, (by decide +kernel), rfl, rfl⟩, k_t (i := 245) (by decide +kernel) rfl, k_t (i := 246) (by decide +kernel) rfl⟩
theorem vX9_inherit : KCV mX9_inherit 1 := ⟨⟨k_t (i := 259) (by decide +kernel) rfl, k_t (i := 1) (by decide +kernel) rfl, (by decide +kernel), rfl, rfl⟩, k_t (i := 257) (by decide +kernel) rfl, k_t (i := 258) (by decide +kernel) rfl⟩
theorem vX9_keepIfChanged : KCV mX9_keepIfChanged 1 := ⟨⟨k_t (i := 179) (by decide +kernel) rfl, k_t (i := 1) (by decide +kernel) rfl, (by decide +kernel), rfl, rfl⟩, k_t (i := 178) (by decide +kernel) rfl, k_s (i := 3) (by decide +kernel) rfl⟩
theorem vX9_append : KCV mX9_append 1 := ⟨⟨k_t (i := 274) (by decide +kernel) rfl, k_t (i := 1) (by decide +kernel) rfl, (by decide +kernel), rfl, rfl⟩, k_t (i := 272) (by decide +kernel) rfl, k_t (i := 273) (by decide +kernel) rfl⟩
theorem vX9_clear : KCV mX9_clear 0 := ⟨⟨k_t (i := 290) (by decide +kernel) rfl, k_t (i := 1) (by decide +kernel) rfl, (by decide +kernel), rfl, rfl⟩, k_t (i := 288) (by decide +kernel) rfl, k_t (i := 289) (by decide +kernel) rfl⟩
theorem vX9_fault : KCV mX9_fault 0 := ⟨⟨k_t (i := 298) (by decide +kernel) rfl, k_t (i := 1) (by decide +kernel) rfl, (by decide +kernel), rfl, rfl⟩, k_t (i := 296) (by decide +kernel) rfl, k_t (i := 297) (by decide +kernel) rfl⟩
theorem vX9_enrol : KCV mX9_enrol 0 := ⟨⟨k_t (i := 328) (by decide +kernel) rfl, k_t (i := 1) (by decide +kernel) rfl, (by decide +kernel), rfl, rfl⟩, k_t (i := 326) (by decide +kernel) rfl, k_t (i := 327) (by decide +kernel) rfl⟩
theorem vX9_enrolDeed : KCV mX9_enrolDeed 1 := ⟨⟨k_t (i := 336) (by decide +kernel) rfl, k_t (i := 1) (by decide +kernel) rfl, (by decide +kernel), rfl, rfl⟩, k_t (i := 335) (by decide +kernel) rfl, k_s (i := 4) (by decide +kernel) rfl⟩
theorem vX9_why : KCV mX9_why 1 := ⟨⟨k_t (i := 359) (by decide +kernel) rfl, k_t (i := 1) (by decide +kernel) rfl, (by decide +kernel), rfl, rfl⟩, k_t (i := 357) (by decide +kernel) rfl, k_t (i := 358) (by decide +kernel) rfl⟩
theorem vX9_person : KCV mX9_person 2 := ⟨⟨k_t (i := 363) (by decide +kernel) rfl, k_t (i := 1) (by decide +kernel) rfl, (by decide +kernel), rfl, rfl⟩, k_t (i := 361) (by decide +kernel) rfl, k_t (i := 362) (by decide +kernel) rfl⟩
theorem vX9_orNotFound : KCS mX9_orNotFound 1 := ⟨⟨k_t (i := 370) (by decide +kernel) rfl, k_t (i := 1) (by decide +kernel) rfl, (by decide +kernel), rfl, rfl⟩, k_t (i := 369) (by decide +kernel) rfl⟩
theorem vX9_mark : KCV mX9_mark 2 := ⟨⟨k_t (i := 410) (by decide +kernel) rfl, k_t (i := 1) (by decide +kernel) rfl, (by decide +kernel), rfl, rfl⟩, k_t (i := 408) (by decide +kernel) rfl, k_t (i := 409) (by decide +kernel) rfl⟩
theorem vX9_whyNot : KCV mX9_whyNot 3 := ⟨⟨k_t (i := 416) (by decide +kernel) rfl, k_t (i := 1) (by decide +kernel) rfl, (by decide +kernel), rfl, rfl⟩, k_t (i := 414) (by decide +kernel) rfl, k_t (i := 415) (by decide +kernel) rfl⟩
theorem vX9_choices : KCV mX9_choices 2 := ⟨⟨k_t (i := 422) (by decide +kernel) rfl, k_t (i := 1) (by decide +kernel) rfl, (by decide +kernel), rfl, rfl⟩, k_t (i := 420) (by decide +kernel) rfl, k_t (i := 421) (by decide +kernel) rfl⟩
theorem vX9_best : KCV mX9_best 1 := ⟨⟨k_t (i := 446) (by decide +kernel) rfl, k_t (i := 1) (by decide +kernel) rfl, (by decide +kernel), rfl, rfl⟩, k_t (i := 444) (by decide +kernel) rfl, k_t (i := 445) (by decide +kernel) rfl⟩
theorem vX9_differs : KCV mX9_differs 2 := ⟨⟨k_t (i := 460) (by decide +kernel) rfl, k_t (i := 1) (by decide +kernel) rfl, (by decide +kernel), rfl, rfl⟩, k_t (i := 458) (by decide +kernel) rfl, k_t (i := 459) (by decide +kernel) rfl⟩
theorem vX9_kin : KCV mX9_kin 2 := ⟨⟨k_t (i := 465) (by decide +kernel) rfl, k_t (i := 1) (by decide +kernel) rfl, (by decide +kernel), rfl, rfl⟩, k_t (i := 463) (by decide +kernel) rfl, k_t (i := 464) (by decide +kernel) rfl⟩
theorem vX9_bearer : KCV mX9_bearer 1 := ⟨⟨k_t (i := 472) (by decide +kernel) rfl, k_t (i := 1) (by decide +kernel) rfl, (by decide +kernel), rfl, rfl⟩, k_t (i := 470) (by decide +kernel) rfl, k_t (i := 471) (by decide +kernel) rfl⟩
theorem vX9_line : KCV mX9_line 3 := ⟨⟨k_t (i := 478) (by decide +kernel) rfl, k_t (i := 1) (by decide +kernel) rfl, (by decide +kernel), rfl, rfl⟩, k_t (i := 476) (by decide +kernel) rfl, k_t (i := 477) (by decide +kernel) rfl⟩
theorem vX9_isWay : KCS mX9_isWay 1 := ⟨⟨k_t (i := 425) (by decide +kernel) rfl, k_t (i := 1) (by decide +kernel) rfl, (by decide +kernel), rfl, rfl⟩, k_t (i := 424) (by decide +kernel) rfl⟩
theorem vX9_count : KCV mX9_count 1 := ⟨⟨k_t (i := 518) (by decide +kernel) rfl, k_t (i := 1) (by decide +kernel) rfl, (by decide +kernel), rfl, rfl⟩, k_t (i := 516) (by decide +kernel) rfl, k_t (i := 517) (by decide +kernel) rfl⟩
theorem vX9_borne : KCV mX9_borne 2 := ⟨⟨k_t (i := 571) (by decide +kernel) rfl, k_t (i := 1) (by decide +kernel) rfl, (by decide +kernel), rfl, rfl⟩, k_t (i := 569) (by decide +kernel) rfl, k_t (i := 570) (by decide +kernel) rfl⟩
theorem vX9_unlike : KCV mX9_unlike 0 := ⟨⟨k_t (i := 579) (by decide +kernel) rfl, k_t (i := 1) (by decide +kernel) rfl, (by decide +kernel), rfl, rfl⟩, k_t (i := 577) (by decide +kernel) rfl, k_t (i := 578) (by decide +kernel) rfl⟩
theorem vX9_ifDead : KCV mX9_ifDead 2 := ⟨⟨k_t (i := 586) (by decide +kernel) rfl, k_t (i := 1) (by decide +kernel) rfl, (by decide +kernel), rfl, rfl⟩, k_t (i := 584) (by decide +kernel) rfl, k_t (i := 585) (by decide +kernel) rfl⟩
theorem vX9_undo : KCV mX9_undo 0 := ⟨⟨k_t (i := 599) (by decide +kernel) rfl, k_t (i := 1) (by decide +kernel) rfl, (by decide +kernel), rfl, rfl⟩, k_t (i := 597) (by decide +kernel) rfl, k_t (i := 598) (by decide +kernel) rfl⟩
theorem vX9_save : KCV mX9_save 0 := ⟨⟨k_t (i := 607) (by decide +kernel) rfl, k_t (i := 1) (by decide +kernel) rfl, (by decide +kernel), rfl, rfl⟩, k_t (i := 605) (by decide +kernel) rfl, k_t (i := 606) (by decide +kernel) rfl⟩
theorem vX9_restore : KCV mX9_restore 0 := ⟨⟨k_t (i := 611) (by decide +kernel) rfl, k_t (i := 1) (by decide +kernel) rfl, (by decide +kernel), rfl, rfl⟩, k_t (i := 609) (by decide +kernel) rfl, k_t (i := 610) (by decide +kernel) rfl⟩
theorem lRL_13 : Cond.methodLink RL 13 yX9_found ∈ k_tb := k_t (i := 141) (by decide +kernel) rfl
theorem lRX9_57 : Cond.methodLink RX9 57 yX2_note ∈ k_tb := k_t (i := 145) (by decide +kernel) rfl
theorem lRX2_22 : Cond.methodLink RX2 22 yX2_stateAt ∈ k_tb := k_t (i := 149) (by decide +kernel) rfl
theorem lRX2_26 : Cond.methodLink RX2 26 yX6_copyFrom ∈ k_tb := k_t (i := 153) (by decide +kernel) rfl
theorem lRX9_61 : Cond.methodLink RX9 61 yX6_founderComes ∈ k_tb := k_t (i := 157) (by decide +kernel) rfl
theorem lRX6_49 : Cond.methodLink RX6 49 yX8_isShield ∈ k_tb := k_t (i := 161) (by decide +kernel) rfl
theorem lRX6_54 : Cond.methodLink RX6 54 yX6_livingWith ∈ k_tb := k_t (i := 164) (by decide +kernel) rfl
theorem lRX6_57 : Cond.methodLink RX6 57 yX6_refuse ∈ k_tb := k_t (i := 168) (by decide +kernel) rfl
theorem lRX6_60 : Cond.methodLink RX6 60 yX6_add ∈ k_tb := k_t (i := 172) (by decide +kernel) rfl
theorem lRX9_65 : Cond.methodLink RX9 65 yX9_keepIfChanged ∈ k_tb := k_t (i := 176) (by decide +kernel) rfl
theorem lRX9_78 : Cond.methodLink RX9 78 yX2_keepNoted ∈ k_tb := k_t (i := 180) (by decide +kernel) rfl
theorem lRL_18 : Cond.methodLink RL 18 yX9_bear ∈ k_tb := k_t (i := 184) (by decide +kernel) rfl
theorem lRX9_68 : Cond.methodLink RX9 68 yX6_sonComes ∈ k_tb := k_t (i := 188) (by decide +kernel) rfl
theorem lRX6_38 : Cond.methodLink RX6 38 yX6_has ∈ k_tb := k_t (i := 192) (by decide +kernel) rfl
theorem lRX6_64 : Cond.methodLink RX6 64 yX8_isPlace ∈ k_tb := k_t (i := 196) (by decide +kernel) rfl
theorem lRX6_67 : Cond.methodLink RX6 67 yX8_isMark ∈ k_tb := k_t (i := 199) (by decide +kernel) rfl
theorem lRX6_70 : Cond.methodLink RX6 70 yX6_reasonAgainstSon ∈ k_tb := k_t (i := 202) (by decide +kernel) rfl
theorem lRX6_42 : Cond.methodLink RX6 42 yX6_isAlive ∈ k_tb := k_t (i := 206) (by decide +kernel) rfl
theorem lRX6_74 : Cond.methodLink RX6 74 yX6_shieldOf ∈ k_tb := k_t (i := 210) (by decide +kernel) rfl
theorem lRX6_91 : Cond.methodLink RX6 91 yX8_markAt ∈ k_tb := k_t (i := 214) (by decide +kernel) rfl
theorem lRX6_77 : Cond.methodLink RX6 77 yX8_withMark ∈ k_tb := k_t (i := 217) (by decide +kernel) rfl
theorem lRX8_9 : Cond.methodLink RX8 9 yX8_markAt ∈ k_tb := k_t (i := 220) (by decide +kernel) rfl
theorem lRX8_15 : Cond.methodLink RX8 15 yX8_weightOf ∈ k_tb := k_t (i := 221) (by decide +kernel) rfl
theorem lRX6_94 : Cond.methodLink RX6 94 yX6_cousinChanged ∈ k_tb := k_t (i := 224) (by decide +kernel) rfl
theorem lRX6_101 : Cond.methodLink RX6 101 yX6_birthPlaceOf ∈ k_tb := k_t (i := 228) (by decide +kernel) rfl
theorem lRX6_45 : Cond.methodLink RX6 45 yX6_fatherOf ∈ k_tb := k_t (i := 232) (by decide +kernel) rfl
theorem lRX6_104 : Cond.methodLink RX6 104 yX6_areBrothers ∈ k_tb := k_t (i := 236) (by decide +kernel) rfl
theorem lRX6_98 : Cond.methodLink RX6 98 yX6_sonsOf ∈ k_tb := k_t (i := 240) (by decide +kernel) rfl
theorem lRL_23 : Cond.methodLink RL 23 yX9_die ∈ k_tb := k_t (i := 244) (by decide +kernel) rfl
theorem lRX9_72 : Cond.methodLink RX9 72 yX6_goes ∈ k_tb := k_t (i := 248) (by decide +kernel) rfl
theorem lRX6_80 : Cond.methodLink RX6 80 yX6_living ∈ k_tb := k_t (i := 252) (by decide +kernel) rfl
theorem lRL_27 : Cond.methodLink RL 27 yX9_inherit ∈ k_tb := k_t (i := 256) (by decide +kernel) rfl
theorem lRX9_75 : Cond.methodLink RX9 75 yX6_becomesHeir ∈ k_tb := k_t (i := 260) (by decide +kernel) rfl
theorem lRX6_84 : Cond.methodLink RX6 84 yX6_reasonAgainstHeir ∈ k_tb := k_t (i := 264) (by decide +kernel) rfl
theorem lRX6_87 : Cond.methodLink RX6 87 yX8_apart ∈ k_tb := k_t (i := 268) (by decide +kernel) rfl
theorem lRL_31 : Cond.methodLink RL 31 yX9_append ∈ k_tb := k_t (i := 271) (by decide +kernel) rfl
theorem lRX9_81 : Cond.methodLink RX9 81 yX5_isFull ∈ k_tb := k_t (i := 275) (by decide +kernel) rfl
theorem lRX9_85 : Cond.methodLink RX9 85 yX5_put ∈ k_tb := k_t (i := 279) (by decide +kernel) rfl
theorem lRX9_89 : Cond.methodLink RX9 89 yX5_length ∈ k_tb := k_t (i := 283) (by decide +kernel) rfl
theorem lRL_35 : Cond.methodLink RL 35 yX9_clear ∈ k_tb := k_t (i := 287) (by decide +kernel) rfl
theorem lRX9_93 : Cond.methodLink RX9 93 yX5_empty ∈ k_tb := k_t (i := 291) (by decide +kernel) rfl
theorem lRL_40 : Cond.methodLink RL 40 yX9_fault ∈ k_tb := k_t (i := 295) (by decide +kernel) rfl
theorem lRX9_96 : Cond.methodLink RX9 96 yX5_firstFault ∈ k_tb := k_t (i := 299) (by decide +kernel) rfl
theorem lRX5_19 : Cond.methodLink RX5 19 yX5_signAt ∈ k_tb := k_t (i := 303) (by decide +kernel) rfl
theorem lRX5_35 : Cond.methodLink RX5 35 yX5_stateAfter ∈ k_tb := k_t (i := 307) (by decide +kernel) rfl
theorem lRX5_39 : Cond.methodLink RX5 39 yX5_stateAfterDeed ∈ k_tb := k_t (i := 310) (by decide +kernel) rfl
theorem lRX5_42 : Cond.methodLink RX5 42 yX5_stateAfterLetter ∈ k_tb := k_t (i := 313) (by decide +kernel) rfl
theorem lRX5_45 : Cond.methodLink RX5 45 yX5_stateAfterDigit ∈ k_tb := k_t (i := 316) (by decide +kernel) rfl
theorem lRX5_23 : Cond.methodLink RX5 23 yX5_isBetween ∈ k_tb := k_t (i := 319) (by decide +kernel) rfl
theorem lRX5_49 : Cond.methodLink RX5 49 yX5_stateAfterFather ∈ k_tb := k_t (i := 322) (by decide +kernel) rfl
theorem lRL_44 : Cond.methodLink RL 44 yX9_enrol ∈ k_tb := k_t (i := 325) (by decide +kernel) rfl
theorem lRX9_99 : Cond.methodLink RX9 99 yX5_startsDeed ∈ k_tb := k_t (i := 329) (by decide +kernel) rfl
theorem lRX9_103 : Cond.methodLink RX9 103 yX9_enrolDeed ∈ k_tb := k_t (i := 333) (by decide +kernel) rfl
theorem lRX9_106 : Cond.methodLink RX9 106 yX5_signAt ∈ k_tb := k_t (i := 337) (by decide +kernel) rfl
theorem lRX9_109 : Cond.methodLink RX9 109 yX5_shieldAt ∈ k_tb := k_t (i := 338) (by decide +kernel) rfl
theorem lRX5_27 : Cond.methodLink RX5 27 yX5_digitAt ∈ k_tb := k_t (i := 342) (by decide +kernel) rfl
theorem lRX5_30 : Cond.methodLink RX5 30 yX8_weightOf ∈ k_tb := k_t (i := 346) (by decide +kernel) rfl
theorem lRX9_112 : Cond.methodLink RX9 112 yX5_afterNumber ∈ k_tb := k_t (i := 347) (by decide +kernel) rfl
theorem lRX9_115 : Cond.methodLink RX9 115 yX5_numberAt ∈ k_tb := k_t (i := 351) (by decide +kernel) rfl
theorem lRX9_118 : Cond.methodLink RX9 118 yX5_digitAt ∈ k_tb := k_t (i := 355) (by decide +kernel) rfl
theorem lRL_48 : Cond.methodLink RL 48 yX9_why ∈ k_tb := k_t (i := 356) (by decide +kernel) rfl
theorem lRL_52 : Cond.methodLink RL 52 yX9_person ∈ k_tb := k_t (i := 360) (by decide +kernel) rfl
theorem lRX9_121 : Cond.methodLink RX9 121 yX6_has ∈ k_tb := k_t (i := 364) (by decide +kernel) rfl
theorem lRX9_124 : Cond.methodLink RX9 124 yX6_shieldOf ∈ k_tb := k_t (i := 365) (by decide +kernel) rfl
theorem lRX9_127 : Cond.methodLink RX9 127 yX6_isAlive ∈ k_tb := k_t (i := 366) (by decide +kernel) rfl
theorem lRX9_130 : Cond.methodLink RX9 130 yX6_fatherOf ∈ k_tb := k_t (i := 367) (by decide +kernel) rfl
theorem lRX9_133 : Cond.methodLink RX9 133 yX9_orNotFound ∈ k_tb := k_t (i := 368) (by decide +kernel) rfl
theorem lRX9_136 : Cond.methodLink RX9 136 yX6_birthPlaceOf ∈ k_tb := k_t (i := 371) (by decide +kernel) rfl
theorem lRX9_139 : Cond.methodLink RX9 139 yX6_birthMarkOf ∈ k_tb := k_t (i := 372) (by decide +kernel) rfl
theorem lRX9_142 : Cond.methodLink RX9 142 yX6_sonsOf ∈ k_tb := k_t (i := 376) (by decide +kernel) rfl
theorem lRX9_145 : Cond.methodLink RX9 145 yX3_livingSons ∈ k_tb := k_t (i := 377) (by decide +kernel) rfl
theorem lRX3_9 : Cond.methodLink RX3 9 yX6_size ∈ k_tb := k_t (i := 380) (by decide +kernel) rfl
theorem lRX3_15 : Cond.methodLink RX3 15 yX6_isAlive ∈ k_tb := k_t (i := 384) (by decide +kernel) rfl
theorem lRX3_19 : Cond.methodLink RX3 19 yX6_fatherOf ∈ k_tb := k_t (i := 385) (by decide +kernel) rfl
theorem lRX9_151 : Cond.methodLink RX9 151 yX3_livingBrothers ∈ k_tb := k_t (i := 386) (by decide +kernel) rfl
theorem lRX3_23 : Cond.methodLink RX3 23 yX6_areBrothers ∈ k_tb := k_t (i := 389) (by decide +kernel) rfl
theorem lRX9_154 : Cond.methodLink RX9 154 yX3_livingCousins ∈ k_tb := k_t (i := 390) (by decide +kernel) rfl
theorem lRX9_157 : Cond.methodLink RX9 157 yX3_descendants ∈ k_tb := k_t (i := 393) (by decide +kernel) rfl
theorem lRX3_27 : Cond.methodLink RX3 27 yX3_comesFrom ∈ k_tb := k_t (i := 396) (by decide +kernel) rfl
theorem lRX9_160 : Cond.methodLink RX9 160 yX3_stepsFromFounder ∈ k_tb := k_t (i := 399) (by decide +kernel) rfl
theorem lRX9_163 : Cond.methodLink RX9 163 yX3_placesFromFather ∈ k_tb := k_t (i := 402) (by decide +kernel) rfl
theorem lRX3_33 : Cond.methodLink RX3 33 yX6_shieldOf ∈ k_tb := k_t (i := 405) (by decide +kernel) rfl
theorem lRX3_36 : Cond.methodLink RX3 36 yX8_apart ∈ k_tb := k_t (i := 406) (by decide +kernel) rfl
theorem lRL_57 : Cond.methodLink RL 57 yX9_mark ∈ k_tb := k_t (i := 407) (by decide +kernel) rfl
theorem lRX9_166 : Cond.methodLink RX9 166 yX8_isPlace ∈ k_tb := k_t (i := 411) (by decide +kernel) rfl
theorem lRX9_171 : Cond.methodLink RX9 171 yX8_markAt ∈ k_tb := k_t (i := 412) (by decide +kernel) rfl
theorem lRL_61 : Cond.methodLink RL 61 yX9_whyNot ∈ k_tb := k_t (i := 413) (by decide +kernel) rfl
theorem lRX9_175 : Cond.methodLink RX9 175 yX8_isMark ∈ k_tb := k_t (i := 417) (by decide +kernel) rfl
theorem lRX9_178 : Cond.methodLink RX9 178 yX6_reasonAgainstSon ∈ k_tb := k_t (i := 418) (by decide +kernel) rfl
theorem lRL_65 : Cond.methodLink RL 65 yX9_choices ∈ k_tb := k_t (i := 419) (by decide +kernel) rfl
theorem lRX9_181 : Cond.methodLink RX9 181 yX9_isWay ∈ k_tb := k_t (i := 423) (by decide +kernel) rfl
theorem lRX9_184 : Cond.methodLink RX9 184 yX1_leftByTrying ∈ k_tb := k_t (i := 426) (by decide +kernel) rfl
theorem lRX1_9 : Cond.methodLink RX1 9 yX6_reasonAgainstSon ∈ k_tb := k_t (i := 429) (by decide +kernel) rfl
theorem lRX9_189 : Cond.methodLink RX9 189 yX1_leftByPlaces ∈ k_tb := k_t (i := 430) (by decide +kernel) rfl
theorem lRX1_15 : Cond.methodLink RX1 15 yX6_isAlive ∈ k_tb := k_t (i := 433) (by decide +kernel) rfl
theorem lRX1_19 : Cond.methodLink RX1 19 yX6_sonsOf ∈ k_tb := k_t (i := 434) (by decide +kernel) rfl
theorem lRX1_23 : Cond.methodLink RX1 23 yX6_cousinChanged ∈ k_tb := k_t (i := 435) (by decide +kernel) rfl
theorem lRX1_27 : Cond.methodLink RX1 27 yX1_livingApartAt ∈ k_tb := k_t (i := 436) (by decide +kernel) rfl
theorem lRX1_33 : Cond.methodLink RX1 33 yX6_shieldOf ∈ k_tb := k_t (i := 439) (by decide +kernel) rfl
theorem lRX1_36 : Cond.methodLink RX1 36 yX8_markAt ∈ k_tb := k_t (i := 440) (by decide +kernel) rfl
theorem lRX1_42 : Cond.methodLink RX1 42 yX6_size ∈ k_tb := k_t (i := 441) (by decide +kernel) rfl
theorem lRX1_46 : Cond.methodLink RX1 46 yX8_apart ∈ k_tb := k_t (i := 442) (by decide +kernel) rfl
theorem lRL_69 : Cond.methodLink RL 69 yX9_best ∈ k_tb := k_t (i := 443) (by decide +kernel) rfl
theorem lRX9_192 : Cond.methodLink RX9 192 yX1_farthest ∈ k_tb := k_t (i := 447) (by decide +kernel) rfl
theorem lRX1_53 : Cond.methodLink RX1 53 yX8_withMark ∈ k_tb := k_t (i := 450) (by decide +kernel) rfl
theorem lRX1_56 : Cond.methodLink RX1 56 yX1_leastApart ∈ k_tb := k_t (i := 451) (by decide +kernel) rfl
theorem lRX1_59 : Cond.methodLink RX1 59 Lib.Math.min.name ∈ k_tb := k_t (i := 454) (by decide +kernel) rfl
theorem lRL_73 : Cond.methodLink RL 73 yX9_differs ∈ k_tb := k_t (i := 457) (by decide +kernel) rfl
theorem lRX9_195 : Cond.methodLink RX9 195 yX8_apart ∈ k_tb := k_t (i := 461) (by decide +kernel) rfl
theorem lRL_77 : Cond.methodLink RL 77 yX9_kin ∈ k_tb := k_t (i := 462) (by decide +kernel) rfl
theorem lRX9_198 : Cond.methodLink RX9 198 yX3_nearness ∈ k_tb := k_t (i := 466) (by decide +kernel) rfl
theorem lRL_81 : Cond.methodLink RL 81 yX9_bearer ∈ k_tb := k_t (i := 469) (by decide +kernel) rfl
theorem lRX9_202 : Cond.methodLink RX9 202 yX8_isShield ∈ k_tb := k_t (i := 473) (by decide +kernel) rfl
theorem lRX9_205 : Cond.methodLink RX9 205 yX6_livingWith ∈ k_tb := k_t (i := 474) (by decide +kernel) rfl
theorem lRL_85 : Cond.methodLink RL 85 yX9_line ∈ k_tb := k_t (i := 475) (by decide +kernel) rfl
theorem lRX9_208 : Cond.methodLink RX9 208 yX4_fewest ∈ k_tb := k_t (i := 479) (by decide +kernel) rfl
theorem lRX4_24 : Cond.methodLink RX4 24 yX8_apart ∈ k_tb := k_t (i := 483) (by decide +kernel) rfl
theorem lRX4_30 : Cond.methodLink RX4 30 yX4_reaches ∈ k_tb := k_t (i := 484) (by decide +kernel) rfl
theorem lRX4_34 : Cond.methodLink RX4 34 yX7_empty ∈ k_tb := k_t (i := 488) (by decide +kernel) rfl
theorem lRX4_37 : Cond.methodLink RX4 37 yX7_add ∈ k_tb := k_t (i := 492) (by decide +kernel) rfl
theorem lRX7_15 : Cond.methodLink RX7 15 yX8_isShield ∈ k_tb := k_t (i := 496) (by decide +kernel) rfl
theorem lRX4_41 : Cond.methodLink RX4 41 yX4_goOn ∈ k_tb := k_t (i := 497) (by decide +kernel) rfl
theorem lRX4_49 : Cond.methodLink RX4 49 yX7_isWordEmpty ∈ k_tb := k_t (i := 501) (by decide +kernel) rfl
theorem lRX4_45 : Cond.methodLink RX4 45 yX7_has ∈ k_tb := k_t (i := 505) (by decide +kernel) rfl
theorem lRX4_52 : Cond.methodLink RX4 52 yX4_goOnFrom ∈ k_tb := k_t (i := 509) (by decide +kernel) rfl
theorem lRX4_56 : Cond.methodLink RX4 56 yX8_withMark ∈ k_tb := k_t (i := 513) (by decide +kernel) rfl
theorem lRX4_60 : Cond.methodLink RX4 60 yX6_livingWith ∈ k_tb := k_t (i := 514) (by decide +kernel) rfl
theorem lRL_89 : Cond.methodLink RL 89 yX9_count ∈ k_tb := k_t (i := 515) (by decide +kernel) rfl
theorem lRX9_211 : Cond.methodLink RX9 211 yX6_size ∈ k_tb := k_t (i := 519) (by decide +kernel) rfl
theorem lRX9_214 : Cond.methodLink RX9 214 yX6_living ∈ k_tb := k_t (i := 520) (by decide +kernel) rfl
theorem lRX9_217 : Cond.methodLink RX9 217 yX0_founders ∈ k_tb := k_t (i := 521) (by decide +kernel) rfl
theorem lRX0_9 : Cond.methodLink RX0 9 yX6_size ∈ k_tb := k_t (i := 524) (by decide +kernel) rfl
theorem lRX0_15 : Cond.methodLink RX0 15 yX6_fatherOf ∈ k_tb := k_t (i := 525) (by decide +kernel) rfl
theorem lRX9_223 : Cond.methodLink RX9 223 yX0_confusedPairs ∈ k_tb := k_t (i := 526) (by decide +kernel) rfl
theorem lRX0_19 : Cond.methodLink RX0 19 yX0_areConfused ∈ k_tb := k_t (i := 529) (by decide +kernel) rfl
theorem lRX0_25 : Cond.methodLink RX0 25 yX6_isAlive ∈ k_tb := k_t (i := 532) (by decide +kernel) rfl
theorem lRX0_29 : Cond.methodLink RX0 29 yX6_shieldOf ∈ k_tb := k_t (i := 533) (by decide +kernel) rfl
theorem lRX0_32 : Cond.methodLink RX0 32 yX8_apart ∈ k_tb := k_t (i := 534) (by decide +kernel) rfl
theorem lRX9_226 : Cond.methodLink RX9 226 yX0_mostStepsFromFounder ∈ k_tb := k_t (i := 535) (by decide +kernel) rfl
theorem lRX0_38 : Cond.methodLink RX0 38 yX3_stepsFromFounder ∈ k_tb := k_t (i := 538) (by decide +kernel) rfl
theorem lRX0_44 : Cond.methodLink RX0 44 Lib.Math.max.name ∈ k_tb := k_t (i := 539) (by decide +kernel) rfl
theorem lRX9_229 : Cond.methodLink RX9 229 yX0_differentShields ∈ k_tb := k_t (i := 542) (by decide +kernel) rfl
theorem lRX0_49 : Cond.methodLink RX0 49 yX0_isFirstWithItsShield ∈ k_tb := k_t (i := 545) (by decide +kernel) rfl
theorem lRX9_232 : Cond.methodLink RX9 232 yX0_farFromFather ∈ k_tb := k_t (i := 548) (by decide +kernel) rfl
theorem lRX0_53 : Cond.methodLink RX0 53 yX3_placesFromFather ∈ k_tb := k_t (i := 551) (by decide +kernel) rfl
theorem lRX9_235 : Cond.methodLink RX9 235 yX0_livingSonless ∈ k_tb := k_t (i := 552) (by decide +kernel) rfl
theorem lRX0_56 : Cond.methodLink RX0 56 yX6_sonsOf ∈ k_tb := k_t (i := 555) (by decide +kernel) rfl
theorem lRX9_238 : Cond.methodLink RX9 238 yX6_heirs ∈ k_tb := k_t (i := 556) (by decide +kernel) rfl
theorem lRX9_241 : Cond.methodLink RX9 241 yX6_refusals ∈ k_tb := k_t (i := 560) (by decide +kernel) rfl
theorem lRX9_244 : Cond.methodLink RX9 244 yX2_size ∈ k_tb := k_t (i := 564) (by decide +kernel) rfl
theorem lRL_93 : Cond.methodLink RL 93 yX9_borne ∈ k_tb := k_t (i := 568) (by decide +kernel) rfl
theorem lRX9_245 : Cond.methodLink RX9 245 yX0_livingWithMark ∈ k_tb := k_t (i := 572) (by decide +kernel) rfl
theorem lRX0_59 : Cond.methodLink RX0 59 yX8_markAt ∈ k_tb := k_t (i := 575) (by decide +kernel) rfl
theorem lRL_97 : Cond.methodLink RL 97 yX9_unlike ∈ k_tb := k_t (i := 576) (by decide +kernel) rfl
theorem lRX9_248 : Cond.methodLink RX9 248 yX0_meanApart ∈ k_tb := k_t (i := 580) (by decide +kernel) rfl
theorem lRL_102 : Cond.methodLink RL 102 yX9_ifDead ∈ k_tb := k_t (i := 583) (by decide +kernel) rfl
theorem lRX9_252 : Cond.methodLink RX9 252 yX6_copyFrom ∈ k_tb := k_t (i := 587) (by decide +kernel) rfl
theorem lRX9_255 : Cond.methodLink RX9 255 yX3_heirOf ∈ k_tb := k_t (i := 588) (by decide +kernel) rfl
theorem lRX3_42 : Cond.methodLink RX3 42 yX6_reasonAgainstHeir ∈ k_tb := k_t (i := 591) (by decide +kernel) rfl
theorem lRX9_258 : Cond.methodLink RX9 258 yX1_leftToAll ∈ k_tb := k_t (i := 592) (by decide +kernel) rfl
theorem lRX1_49 : Cond.methodLink RX1 49 yX1_leftByPlaces ∈ k_tb := k_t (i := 595) (by decide +kernel) rfl
theorem lRL_106 : Cond.methodLink RL 106 yX9_undo ∈ k_tb := k_t (i := 596) (by decide +kernel) rfl
theorem lRX9_261 : Cond.methodLink RX9 261 yX2_takeBack ∈ k_tb := k_t (i := 600) (by decide +kernel) rfl
theorem lRL_110 : Cond.methodLink RL 110 yX9_save ∈ k_tb := k_t (i := 604) (by decide +kernel) rfl
theorem lRL_114 : Cond.methodLink RL 114 yX9_restore ∈ k_tb := k_t (i := 608) (by decide +kernel) rfl
theorem lRL_109 : Cond.methodLink RL 109 yX10_undo ∈ k_tb := k_t (i := 664) (by decide +kernel) rfl
theorem lRX10_63 : Cond.methodLink RX10 63 yX10_copyState ∈ k_tb := k_t (i := 668) (by decide +kernel) rfl
theorem lRL_113 : Cond.methodLink RL 113 yX10_save ∈ k_tb := k_t (i := 671) (by decide +kernel) rfl
theorem lRX10_71 : Cond.methodLink RX10 71 yX10_living ∈ k_tb := k_t (i := 675) (by decide +kernel) rfl
theorem lRX10_45 : Cond.methodLink RX10 45 yX10_of ∈ k_tb := k_t (i := 679) (by decide +kernel) rfl
theorem lRL_117 : Cond.methodLink RL 117 yX10_restore ∈ k_tb := k_t (i := 683) (by decide +kernel) rfl
theorem lRX10_75 : Cond.methodLink RX10 75 yX10_record ∈ k_tb := k_t (i := 687) (by decide +kernel) rfl
theorem lRL_17 : Cond.methodLink RL 17 yX10_found ∈ k_tb := k_t (i := 691) (by decide +kernel) rfl
theorem lRX10_99 : Cond.methodLink RX10 99 yX10_whyNotFound ∈ k_tb := k_t (i := 695) (by decide +kernel) rfl
theorem lRX10_86 : Cond.methodLink RX10 86 yX10_isShield ∈ k_tb := k_t (i := 699) (by decide +kernel) rfl
theorem lRX10_41 : Cond.methodLink RX10 41 yX10_in ∈ k_tb := k_t (i := 702) (by decide +kernel) rfl
theorem lRX10_102 : Cond.methodLink RX10 102 yX10_foundNow ∈ k_tb := k_t (i := 705) (by decide +kernel) rfl
theorem lRX10_89 : Cond.methodLink RX10 89 yX10_bears ∈ k_tb := k_t (i := 709) (by decide +kernel) rfl
theorem lRX10_56 : Cond.methodLink RX10 56 yX10_lives ∈ k_tb := k_t (i := 713) (by decide +kernel) rfl
theorem lRX10_92 : Cond.methodLink RX10 92 yX10_refuse ∈ k_tb := k_t (i := 717) (by decide +kernel) rfl
theorem lRX10_95 : Cond.methodLink RX10 95 yX10_come ∈ k_tb := k_t (i := 721) (by decide +kernel) rfl
theorem lRX10_82 : Cond.methodLink RX10 82 yX10_lay ∈ k_tb := k_t (i := 725) (by decide +kernel) rfl
theorem lRL_22 : Cond.methodLink RL 22 yX10_bear ∈ k_tb := k_t (i := 729) (by decide +kernel) rfl
theorem lRX10_125 : Cond.methodLink RX10 125 yX10_whyNotBear ∈ k_tb := k_t (i := 733) (by decide +kernel) rfl
theorem lRX10_116 : Cond.methodLink RX10 116 yX10_isPerson ∈ k_tb := k_t (i := 737) (by decide +kernel) rfl
theorem lRX10_119 : Cond.methodLink RX10 119 yX10_isChange ∈ k_tb := k_t (i := 741) (by decide +kernel) rfl
theorem lRX10_128 : Cond.methodLink RX10 128 yX10_bearNow ∈ k_tb := k_t (i := 744) (by decide +kernel) rfl
theorem lRX10_122 : Cond.methodLink RX10 122 yX10_reason ∈ k_tb := k_t (i := 748) (by decide +kernel) rfl
theorem lRX10_53 : Cond.methodLink RX10 53 yX10_markOf ∈ k_tb := k_t (i := 752) (by decide +kernel) rfl
theorem lRX10_49 : Cond.methodLink RX10 49 yX10_power ∈ k_tb := k_t (i := 755) (by decide +kernel) rfl
theorem lRX10_105 : Cond.methodLink RX10 105 yX10_with ∈ k_tb := k_t (i := 758) (by decide +kernel) rfl
theorem lRX10_109 : Cond.methodLink RX10 109 yX10_isCousins ∈ k_tb := k_t (i := 761) (by decide +kernel) rfl
theorem lRX10_78 : Cond.methodLink RX10 78 yX10_areBrothers ∈ k_tb := k_t (i := 765) (by decide +kernel) rfl
theorem lRX10_112 : Cond.methodLink RX10 112 yX10_sonsOf ∈ k_tb := k_t (i := 769) (by decide +kernel) rfl
theorem lRL_26 : Cond.methodLink RL 26 yX10_die ∈ k_tb := k_t (i := 773) (by decide +kernel) rfl
theorem lRX10_131 : Cond.methodLink RX10 131 yX10_dieNow ∈ k_tb := k_t (i := 777) (by decide +kernel) rfl
theorem lRL_30 : Cond.methodLink RL 30 yX10_inherit ∈ k_tb := k_t (i := 781) (by decide +kernel) rfl
theorem lRX10_140 : Cond.methodLink RX10 140 yX10_whyNotInherit ∈ k_tb := k_t (i := 785) (by decide +kernel) rfl
theorem lRX10_143 : Cond.methodLink RX10 143 yX10_inheritNow ∈ k_tb := k_t (i := 789) (by decide +kernel) rfl
theorem lRX10_134 : Cond.methodLink RX10 134 yX10_eldest ∈ k_tb := k_t (i := 793) (by decide +kernel) rfl
theorem lRX10_137 : Cond.methodLink RX10 137 yX10_far ∈ k_tb := k_t (i := 797) (by decide +kernel) rfl
theorem lRL_34 : Cond.methodLink RL 34 yX10_append ∈ k_tb := k_t (i := 800) (by decide +kernel) rfl
theorem lRL_39 : Cond.methodLink RL 39 yX10_clear ∈ k_tb := k_t (i := 804) (by decide +kernel) rfl
theorem lRL_43 : Cond.methodLink RL 43 yX10_fault ∈ k_tb := k_t (i := 808) (by decide +kernel) rfl
theorem lRX10_174 : Cond.methodLink RX10 174 yX10_readPad ∈ k_tb := k_t (i := 812) (by decide +kernel) rfl
theorem lRX10_170 : Cond.methodLink RX10 170 yX10_readDeed ∈ k_tb := k_t (i := 816) (by decide +kernel) rfl
theorem lRX10_161 : Cond.methodLink RX10 161 yX10_readShield ∈ k_tb := k_t (i := 820) (by decide +kernel) rfl
theorem lRX10_155 : Cond.methodLink RX10 155 yX10_digit ∈ k_tb := k_t (i := 824) (by decide +kernel) rfl
theorem lRX10_152 : Cond.methodLink RX10 152 yX10_sees ∈ k_tb := k_t (i := 828) (by decide +kernel) rfl
theorem lRX10_164 : Cond.methodLink RX10 164 yX10_number ∈ k_tb := k_t (i := 832) (by decide +kernel) rfl
theorem lRX10_167 : Cond.methodLink RX10 167 yX10_takes ∈ k_tb := k_t (i := 836) (by decide +kernel) rfl
theorem lRL_47 : Cond.methodLink RL 47 yX10_enrol ∈ k_tb := k_t (i := 840) (by decide +kernel) rfl
theorem lRX10_177 : Cond.methodLink RX10 177 yX10_doDeed ∈ k_tb := k_t (i := 844) (by decide +kernel) rfl
theorem lRL_51 : Cond.methodLink RL 51 yX10_why ∈ k_tb := k_t (i := 848) (by decide +kernel) rfl
theorem lRL_56 : Cond.methodLink RL 56 yX10_person ∈ k_tb := k_t (i := 852) (by decide +kernel) rfl
theorem lRX10_186 : Cond.methodLink RX10 186 yX10_livingKin ∈ k_tb := k_t (i := 856) (by decide +kernel) rfl
theorem lRX10_180 : Cond.methodLink RX10 180 yX10_areCousins ∈ k_tb := k_t (i := 860) (by decide +kernel) rfl
theorem lRX10_189 : Cond.methodLink RX10 189 yX10_allFrom ∈ k_tb := k_t (i := 864) (by decide +kernel) rfl
theorem lRX10_183 : Cond.methodLink RX10 183 yX10_comesFrom ∈ k_tb := k_t (i := 868) (by decide +kernel) rfl
theorem lRX10_192 : Cond.methodLink RX10 192 yX10_depth ∈ k_tb := k_t (i := 872) (by decide +kernel) rfl
theorem lRX10_195 : Cond.methodLink RX10 195 yX10_farFromFather ∈ k_tb := k_t (i := 876) (by decide +kernel) rfl
theorem lRL_60 : Cond.methodLink RL 60 yX10_mark ∈ k_tb := k_t (i := 880) (by decide +kernel) rfl
theorem lRL_64 : Cond.methodLink RL 64 yX10_whyNot ∈ k_tb := k_t (i := 884) (by decide +kernel) rfl
theorem lRL_68 : Cond.methodLink RL 68 yX10_choices ∈ k_tb := k_t (i := 888) (by decide +kernel) rfl
theorem lRX10_198 : Cond.methodLink RX10 198 yX10_choicesOf ∈ k_tb := k_t (i := 892) (by decide +kernel) rfl
theorem lRL_72 : Cond.methodLink RL 72 yX10_best ∈ k_tb := k_t (i := 896) (by decide +kernel) rfl
theorem lRX10_201 : Cond.methodLink RX10 201 yX10_leastFar ∈ k_tb := k_t (i := 900) (by decide +kernel) rfl
theorem lRL_76 : Cond.methodLink RL 76 yX10_differs ∈ k_tb := k_t (i := 904) (by decide +kernel) rfl
theorem lRL_80 : Cond.methodLink RL 80 yX10_kin ∈ k_tb := k_t (i := 908) (by decide +kernel) rfl
theorem lRL_84 : Cond.methodLink RL 84 yX10_bearer ∈ k_tb := k_t (i := 912) (by decide +kernel) rfl
theorem lRL_88 : Cond.methodLink RL 88 yX10_line ∈ k_tb := k_t (i := 916) (by decide +kernel) rfl
theorem lRX10_204 : Cond.methodLink RX10 204 yX10_fewest ∈ k_tb := k_t (i := 920) (by decide +kernel) rfl
theorem lRL_92 : Cond.methodLink RL 92 yX10_count ∈ k_tb := k_t (i := 924) (by decide +kernel) rfl
theorem lRX10_210 : Cond.methodLink RX10 210 yX10_founders ∈ k_tb := k_t (i := 928) (by decide +kernel) rfl
theorem lRX10_213 : Cond.methodLink RX10 213 yX10_confused ∈ k_tb := k_t (i := 932) (by decide +kernel) rfl
theorem lRX10_207 : Cond.methodLink RX10 207 yX10_isConfused ∈ k_tb := k_t (i := 936) (by decide +kernel) rfl
theorem lRX10_216 : Cond.methodLink RX10 216 yX10_deepest ∈ k_tb := k_t (i := 940) (by decide +kernel) rfl
theorem lRX10_219 : Cond.methodLink RX10 219 yX10_differentShields ∈ k_tb := k_t (i := 944) (by decide +kernel) rfl
theorem lRX10_222 : Cond.methodLink RX10 222 yX10_livingBy ∈ k_tb := k_t (i := 948) (by decide +kernel) rfl
theorem lRL_96 : Cond.methodLink RL 96 yX10_borne ∈ k_tb := k_t (i := 952) (by decide +kernel) rfl
theorem lRL_101 : Cond.methodLink RL 101 yX10_unlike ∈ k_tb := k_t (i := 956) (by decide +kernel) rfl
theorem lRL_105 : Cond.methodLink RL 105 yX10_ifDead ∈ k_tb := k_t (i := 960) (by decide +kernel) rfl
theorem lRX10_225 : Cond.methodLink RX10 225 yX10_allChoices ∈ k_tb := k_t (i := 964) (by decide +kernel) rfl
theorem lM_max : Cond.static Lib.Math.max.name ∈ k_tb ∧ Cond.initialized "java/lang/Math" ∈ k_tb ∧ Cond.code Lib.Math.max.name Lib.Math.max.code 2 (some .int) ∈ k_tb := ⟨k_t (i := 540) (by decide +kernel) rfl, k_t (i := 11) (by decide +kernel) rfl, k_t (i := 541) (by decide +kernel) rfl⟩
theorem lM_min : Cond.static Lib.Math.min.name ∈ k_tb ∧ Cond.initialized "java/lang/Math" ∈ k_tb ∧ Cond.code Lib.Math.min.name Lib.Math.min.code 2 (some .int) ∈ k_tb := ⟨k_t (i := 455) (by decide +kernel) rfl, k_t (i := 11) (by decide +kernel) rfl, k_t (i := 456) (by decide +kernel) rfl⟩
theorem kwRX2 : ∀ w ∈ u_ws RX2 TX2 2, w ∈ k_tb := by decide +kernel
theorem kwRX4 : ∀ w ∈ u_ws RX4 TX4 3, w ∈ k_tb := by decide +kernel
theorem kwRX5 : ∀ w ∈ u_ws RX5 TX5 2, w ∈ k_tb := by decide +kernel
theorem kwRX6 : ∀ w ∈ u_ws RX6 TX6 8, w ∈ k_tb := by decide +kernel
theorem kwRX7 : ∀ w ∈ u_ws RX7 TX7 1, w ∈ k_tb := by decide +kernel
theorem kwRX9 : ∀ w ∈ u_ws RX9 TX9 10, w ∈ k_tb := by decide +kernel
theorem kwRX10 : ∀ w ∈ u_ws RX10 TX10 15, w ∈ k_tb := by decide +kernel
theorem fRX6_9 : KF RX6 9 3 0 := ⟨RX6, TX6, 8, rfl, by decide, kwRX6, k_t (i := 27) (by decide +kernel) rfl⟩
theorem fRX6_15 : KF RX6 15 3 1 := ⟨RX6, TX6, 8, rfl, by decide, kwRX6, k_t (i := 28) (by decide +kernel) rfl⟩
theorem fRX6_19 : KF RX6 19 3 2 := ⟨RX6, TX6, 8, rfl, by decide, kwRX6, k_t (i := 29) (by decide +kernel) rfl⟩
theorem fRX6_22 : KF RX6 22 3 3 := ⟨RX6, TX6, 8, rfl, by decide, kwRX6, k_t (i := 30) (by decide +kernel) rfl⟩
theorem fRX6_25 : KF RX6 25 3 4 := ⟨RX6, TX6, 8, rfl, by decide, kwRX6, k_t (i := 31) (by decide +kernel) rfl⟩
theorem fRX6_28 : KF RX6 28 3 5 := ⟨RX6, TX6, 8, rfl, by decide, kwRX6, k_t (i := 32) (by decide +kernel) rfl⟩
theorem pRX6_28 : KP RX6 28 3 5 .int := ⟨RX6, TX6, 8, tyX6, rfl, by decide, kwRX6, k_t (i := 32) (by decide +kernel) rfl, tyX6_ok, nmX6, rfl, by decide +kernel⟩
theorem fRX6_32 : KF RX6 32 3 6 := ⟨RX6, TX6, 8, rfl, by decide, kwRX6, k_t (i := 33) (by decide +kernel) rfl⟩
theorem pRX6_32 : KP RX6 32 3 6 .int := ⟨RX6, TX6, 8, tyX6, rfl, by decide, kwRX6, k_t (i := 33) (by decide +kernel) rfl, tyX6_ok, nmX6, rfl, by decide +kernel⟩
theorem fRX6_35 : KF RX6 35 3 7 := ⟨RX6, TX6, 8, rfl, by decide, kwRX6, k_t (i := 34) (by decide +kernel) rfl⟩
theorem pRX6_35 : KP RX6 35 3 7 .int := ⟨RX6, TX6, 8, tyX6, rfl, by decide, kwRX6, k_t (i := 34) (by decide +kernel) rfl, tyX6_ok, nmX6, rfl, by decide +kernel⟩
theorem fRX2_11 : KF RX2 11 0 0 := ⟨RX2, TX2, 2, rfl, by decide, kwRX2, k_t (i := 63) (by decide +kernel) rfl⟩
theorem fRX2_17 : KF RX2 17 0 1 := ⟨RX2, TX2, 2, rfl, by decide, kwRX2, k_t (i := 64) (by decide +kernel) rfl⟩
theorem pRX2_17 : KP RX2 17 0 1 .int := ⟨RX2, TX2, 2, tyX2, rfl, by decide, kwRX2, k_t (i := 64) (by decide +kernel) rfl, tyX2_ok, nmX2, rfl, by decide +kernel⟩
theorem fRX5_11 : KF RX5 11 2 0 := ⟨RX5, TX5, 2, rfl, by decide, kwRX5, k_t (i := 76) (by decide +kernel) rfl⟩
theorem fRX5_15 : KF RX5 15 2 1 := ⟨RX5, TX5, 2, rfl, by decide, kwRX5, k_t (i := 77) (by decide +kernel) rfl⟩
theorem pRX5_15 : KP RX5 15 2 1 .int := ⟨RX5, TX5, 2, tyX5, rfl, by decide, kwRX5, k_t (i := 77) (by decide +kernel) rfl, tyX5_ok, nmX5, rfl, by decide +kernel⟩
theorem fRX7_11 : KF RX7 11 4 0 := ⟨RX7, TX7, 1, rfl, by decide, kwRX7, k_t (i := 95) (by decide +kernel) rfl⟩
theorem fRX4_12 : KF RX4 12 1 0 := ⟨RX4, TX4, 3, rfl, by decide, kwRX4, k_t (i := 100) (by decide +kernel) rfl⟩
theorem fRX4_18 : KF RX4 18 1 1 := ⟨RX4, TX4, 3, rfl, by decide, kwRX4, k_t (i := 101) (by decide +kernel) rfl⟩
theorem pRX4_18 : KP RX4 18 1 1 (.object RX7) := ⟨RX4, TX4, 3, tyX4, rfl, by decide, kwRX4, k_t (i := 101) (by decide +kernel) rfl, tyX4_ok, nmX4, rfl, by decide +kernel⟩
theorem fRX4_21 : KF RX4 21 1 2 := ⟨RX4, TX4, 3, rfl, by decide, kwRX4, k_t (i := 102) (by decide +kernel) rfl⟩
theorem pRX4_21 : KP RX4 21 1 2 (.object RX7) := ⟨RX4, TX4, 3, tyX4, rfl, by decide, kwRX4, k_t (i := 102) (by decide +kernel) rfl, tyX4_ok, nmX4, rfl, by decide +kernel⟩
theorem fRX9_10 : KF RX9 10 5 0 := ⟨RX9, TX9, 10, rfl, by decide, kwRX9, k_t (i := 110) (by decide +kernel) rfl⟩
theorem fRX9_16 : KF RX9 16 5 1 := ⟨RX9, TX9, 10, rfl, by decide, kwRX9, k_t (i := 111) (by decide +kernel) rfl⟩
theorem fRX9_19 : KF RX9 19 5 2 := ⟨RX9, TX9, 10, rfl, by decide, kwRX9, k_t (i := 112) (by decide +kernel) rfl⟩
theorem fRX9_25 : KF RX9 25 5 3 := ⟨RX9, TX9, 10, rfl, by decide, kwRX9, k_t (i := 113) (by decide +kernel) rfl⟩
theorem fRX9_32 : KF RX9 32 5 4 := ⟨RX9, TX9, 10, rfl, by decide, kwRX9, k_t (i := 114) (by decide +kernel) rfl⟩
theorem fRX9_39 : KF RX9 39 5 5 := ⟨RX9, TX9, 10, rfl, by decide, kwRX9, k_t (i := 115) (by decide +kernel) rfl⟩
theorem fRX9_43 : KF RX9 43 5 6 := ⟨RX9, TX9, 10, rfl, by decide, kwRX9, k_t (i := 116) (by decide +kernel) rfl⟩
theorem pRX9_43 : KP RX9 43 5 6 .boolean := ⟨RX9, TX9, 10, tyX9, rfl, by decide, kwRX9, k_t (i := 116) (by decide +kernel) rfl, tyX9_ok, nmX9, rfl, by decide +kernel⟩
theorem fRX9_47 : KF RX9 47 5 7 := ⟨RX9, TX9, 10, rfl, by decide, kwRX9, k_t (i := 117) (by decide +kernel) rfl⟩
theorem pRX9_47 : KP RX9 47 5 7 .int := ⟨RX9, TX9, 10, tyX9, rfl, by decide, kwRX9, k_t (i := 117) (by decide +kernel) rfl, tyX9_ok, nmX9, rfl, by decide +kernel⟩
theorem fRX9_51 : KF RX9 51 5 8 := ⟨RX9, TX9, 10, rfl, by decide, kwRX9, k_t (i := 118) (by decide +kernel) rfl⟩
theorem pRX9_51 : KP RX9 51 5 8 .int := ⟨RX9, TX9, 10, tyX9, rfl, by decide, kwRX9, k_t (i := 118) (by decide +kernel) rfl, tyX9_ok, nmX9, rfl, by decide +kernel⟩
theorem fRX9_54 : KF RX9 54 5 9 := ⟨RX9, TX9, 10, rfl, by decide, kwRX9, k_t (i := 119) (by decide +kernel) rfl⟩
theorem pRX9_54 : KP RX9 54 5 9 .int := ⟨RX9, TX9, 10, tyX9, rfl, by decide, kwRX9, k_t (i := 119) (by decide +kernel) rfl, tyX9_ok, nmX9, rfl, by decide +kernel⟩
theorem fRX10_7 : KF RX10 7 6 0 := ⟨RX10, TX10, 15, rfl, by decide, kwRX10, k_t (i := 618) (by decide +kernel) rfl⟩
theorem fRX10_13 : KF RX10 13 6 1 := ⟨RX10, TX10, 15, rfl, by decide, kwRX10, k_t (i := 619) (by decide +kernel) rfl⟩
theorem fRX10_60 : KF RX10 60 6 2 := ⟨RX10, TX10, 15, rfl, by decide, kwRX10, k_t (i := 620) (by decide +kernel) rfl⟩
theorem pRX10_60 : KP RX10 60 6 2 .int := ⟨RX10, TX10, 15, tyX10, rfl, by decide, kwRX10, k_t (i := 620) (by decide +kernel) rfl, tyX10_ok, nmX10, rfl, by decide +kernel⟩
theorem fRX10_16 : KF RX10 16 6 3 := ⟨RX10, TX10, 15, rfl, by decide, kwRX10, k_t (i := 621) (by decide +kernel) rfl⟩
theorem fRX10_67 : KF RX10 67 6 4 := ⟨RX10, TX10, 15, rfl, by decide, kwRX10, k_t (i := 622) (by decide +kernel) rfl⟩
theorem pRX10_67 : KP RX10 67 6 4 .boolean := ⟨RX10, TX10, 15, tyX10, rfl, by decide, kwRX10, k_t (i := 622) (by decide +kernel) rfl, tyX10_ok, nmX10, rfl, by decide +kernel⟩
theorem fRX10_19 : KF RX10 19 6 5 := ⟨RX10, TX10, 15, rfl, by decide, kwRX10, k_t (i := 623) (by decide +kernel) rfl⟩
theorem fRX10_146 : KF RX10 146 6 6 := ⟨RX10, TX10, 15, rfl, by decide, kwRX10, k_t (i := 624) (by decide +kernel) rfl⟩
theorem pRX10_146 : KP RX10 146 6 6 .int := ⟨RX10, TX10, 15, tyX10, rfl, by decide, kwRX10, k_t (i := 624) (by decide +kernel) rfl, tyX10_ok, nmX10, rfl, by decide +kernel⟩
theorem fRX10_22 : KF RX10 22 6 7 := ⟨RX10, TX10, 15, rfl, by decide, kwRX10, k_t (i := 625) (by decide +kernel) rfl⟩
theorem pRX10_22 : KP RX10 22 6 7 .int := ⟨RX10, TX10, 15, tyX10, rfl, by decide, kwRX10, k_t (i := 625) (by decide +kernel) rfl, tyX10_ok, nmX10, rfl, by decide +kernel⟩
theorem fRX10_26 : KF RX10 26 6 8 := ⟨RX10, TX10, 15, rfl, by decide, kwRX10, k_t (i := 626) (by decide +kernel) rfl⟩
theorem pRX10_26 : KP RX10 26 6 8 .int := ⟨RX10, TX10, 15, tyX10, rfl, by decide, kwRX10, k_t (i := 626) (by decide +kernel) rfl, tyX10_ok, nmX10, rfl, by decide +kernel⟩
theorem fRX10_29 : KF RX10 29 6 9 := ⟨RX10, TX10, 15, rfl, by decide, kwRX10, k_t (i := 627) (by decide +kernel) rfl⟩
theorem pRX10_29 : KP RX10 29 6 9 .int := ⟨RX10, TX10, 15, tyX10, rfl, by decide, kwRX10, k_t (i := 627) (by decide +kernel) rfl, tyX10_ok, nmX10, rfl, by decide +kernel⟩
theorem fRX10_149 : KF RX10 149 6 10 := ⟨RX10, TX10, 15, rfl, by decide, kwRX10, k_t (i := 628) (by decide +kernel) rfl⟩
theorem pRX10_149 : KP RX10 149 6 10 .int := ⟨RX10, TX10, 15, tyX10, rfl, by decide, kwRX10, k_t (i := 628) (by decide +kernel) rfl, tyX10_ok, nmX10, rfl, by decide +kernel⟩
theorem fRX10_32 : KF RX10 32 6 11 := ⟨RX10, TX10, 15, rfl, by decide, kwRX10, k_t (i := 629) (by decide +kernel) rfl⟩
theorem fRX10_158 : KF RX10 158 6 12 := ⟨RX10, TX10, 15, rfl, by decide, kwRX10, k_t (i := 630) (by decide +kernel) rfl⟩
theorem pRX10_158 : KP RX10 158 6 12 .int := ⟨RX10, TX10, 15, tyX10, rfl, by decide, kwRX10, k_t (i := 630) (by decide +kernel) rfl, tyX10_ok, nmX10, rfl, by decide +kernel⟩
theorem fRX10_35 : KF RX10 35 6 13 := ⟨RX10, TX10, 15, rfl, by decide, kwRX10, k_t (i := 631) (by decide +kernel) rfl⟩
theorem fRX10_38 : KF RX10 38 6 14 := ⟨RX10, TX10, 15, rfl, by decide, kwRX10, k_t (i := 632) (by decide +kernel) rfl⟩
end
section
/-! ===== numbers, and rows that speak of them ===== -/
abbrev QF (r : Option KV) (M : KM) : Option KV → KM → Prop := fun a b => a = r ∧ b = M
def bI (b : Bool) : Int32 := if b then 1 else 0
theorem bI_t : bI true = 1 := rfl
theorem bI_f : bI false = 0 := rfl
theorem bI_nar (b : Bool) : narrow .boolean (.int (bI b)) = .int (bI b) := by cases b <;> decide
theorem bI_eq0 {b : Bool} : bI b = 0 ↔ b = false := by cases b <;> decide
theorem bI_eq1 {b : Bool} : bI b = 1 ↔ b = true := by cases b <;> decide
theorem bI_inj {a b : Bool} : bI a = bI b ↔ a = b := by cases a <;> cases b <;> decide
def e1 : Option Nat → Int32
  | none => -1
  | some k => nI k
def e4 : Option Nat → Int32
  | none => -4
  | some k => nI k
theorem nI_neg {k : Nat} {m : Int32} (hk : k < 2 ^ 31) (hm : m.toInt < 0) : ¬ nI k = m := fun h => by
  have := congrArg Int32.toInt h
  rw [nI_toInt hk] at this
  omega
theorem e1_eq {o : Option Nat} (h : ∀ k, o = some k → k < 2 ^ 31) : e1 o = -1 ↔ o = none := by
  cases o with
  | none => simp [e1]
  | some k =>
    simp only [e1, reduceCtorEq, iff_false]
    exact nI_neg (h k rfl) (by decide)
theorem e4_eq {o : Option Nat} (h : ∀ k, o = some k → k < 2 ^ 31) : e4 o = -4 ↔ o = none := by
  cases o with
  | none => simp [e4]
  | some k =>
    simp only [e4, reduceCtorEq, iff_false]
    exact nI_neg (h k rfl) (by decide)
/-- the number below n that an int means -/
def pOf (n : Nat) (x : Int32) : Option Nat := if 0 ≤ x.toInt ∧ x.toInt < (n : Int) then some x.toInt.toNat else none
theorem pOf_some {n p : Nat} {x : Int32} (h : pOf n x = some p) : p < n ∧ x = nI p := by
  unfold pOf at h
  split at h
  · rename_i h1
    cases h
    refine ⟨by omega, ?_⟩
    have hx : x.toInt.toNat < 2 ^ 31 := by
      have := Int32.toInt_lt x
      omega
    apply Int32.toInt_inj.mp
    rw [nI_toInt hx]
    omega
  · cases h
theorem pOf_none {n : Nat} {x : Int32} (h : pOf n x = none) : x.toInt < 0 ∨ (n : Int) ≤ x.toInt := by
  unfold pOf at h
  split at h
  · cases h
  · omega
theorem pOf_nI {n p : Nat} (hp : p < n) (hn : n < 2 ^ 31) : pOf n (nI p) = some p := by
  unfold pOf
  rw [nI_toInt (by omega), if_pos ⟨by omega, by omega⟩]
  simp
theorem pOf_big {n p : Nat} (hp : n ≤ p) (hn : p < 2 ^ 31) : pOf n (nI p) = none := by
  unfold pOf
  rw [nI_toInt hn, if_neg (by omega)]
theorem pOf_m1 {n : Nat} : pOf n (-1) = none := by
  unfold pOf
  rw [if_neg]
  intro h
  have : (-1 : Int32).toInt = -1 := by decide
  omega
theorem pOf_m4 {n : Nat} : pOf n (-4) = none := by
  unfold pOf
  rw [if_neg]
  intro h
  have : (-4 : Int32).toInt = -4 := by decide
  omega
theorem pOf_e1 {n : Nat} {o : Option Nat} (h : ∀ k, o = some k → k < n) (hn : n < 2 ^ 31) : pOf n (e1 o) = o := by
  cases o with
  | none => exact pOf_m1
  | some k => exact pOf_nI (h k rfl) hn
theorem i32_lt {x y : Int32} : x < y ↔ x.toInt < y.toInt := Int32.lt_iff_toInt_lt
theorem i32_le {x y : Int32} : x ≤ y ↔ x.toInt ≤ y.toInt := Int32.le_iff_toInt_le
theorem pOf_iff {n : Nat} {x : Int32} : (pOf n x).isSome = true ↔ (0 ≤ x.toInt ∧ x.toInt < (n : Int)) := by
  unfold pOf
  split <;> simp_all
/-- how many below n -/
def cn (P : Nat → Bool) : Nat → Nat
  | 0 => 0
  | n + 1 => cn P n + if P n then 1 else 0
theorem cn_le (P : Nat → Bool) : ∀ n, cn P n ≤ n
  | 0 => Nat.le_refl 0
  | n + 1 => by
    have := cn_le P n
    unfold cn
    split <;> omega
theorem cn_t {P : Nat → Bool} {n : Nat} (h : P n = true) : cn P (n + 1) = cn P n + 1 := by simp [cn, h]
theorem cn_f {P : Nat → Bool} {n : Nat} (h : P n = false) : cn P (n + 1) = cn P n := by simp [cn, h]
theorem cn_congr {P Q : Nat → Bool} : ∀ {n : Nat}, (∀ i, i < n → P i = Q i) → cn P n = cn Q n
  | 0, _ => rfl
  | n + 1, h => by
    unfold cn
    rw [cn_congr (fun i hi => h i (by omega)), h n (by omega)]
section MoreRows
variable {I : KI} {Z : KZ} {M M' : KM} {loc : List (Option KV)} {st : List KV} {pc q t : Nat} {off : Int} {x y : Int32}
theorem go_ri (hd : decode I.2.1 pc = .ok (.ireturn, 1)) (hr : I.2.2.2.1 = some .int) (h : x = y) (hM : M = M') : Go I (Zm (fun a b => a = some (vI y) ∧ b = M')) M loc [vI x] pc :=
  go_ireti hd hr ⟨by rw [h], hM⟩
theorem go_rz {b : Bool} (hd : decode I.2.1 pc = .ok (.ireturn, 1)) (hr : I.2.2.2.1 = some .boolean) (h : x = bI b) (hM : M = M') : Go I (Zm (fun a b' => a = some (vI (bI b)) ∧ b' = M')) M loc [vI x] pc := by
  subst h
  exact go_iretz hd hr (bI_nar b) ⟨rfl, hM⟩
theorem go_rv (hd : decode I.2.1 pc = .ok (.return_, 1)) (hr : I.2.2.2.1 = none) (hM : M = M') : Go I (Zm (fun a b' => a = none ∧ b' = M')) M loc [] pc :=
  go_vret hd hr ⟨rfl, hM⟩
theorem go_rd {x y : UInt64} (hd : decode I.2.1 pc = .ok (.dreturn, 1)) (hr : I.2.2.2.1 = some .double) (h : x = y) (hM : M = M') : Go I (Zm (fun a b' => a = some (vD y) ∧ b' = M')) M loc [vD x] pc :=
  go_dret hd hr ⟨by rw [h], hM⟩
theorem go_loc {l1 l2 : List (Option KV)} (h : l1 = l2) (k : Go I Z M l2 st pc) : Go I Z M l1 st pc := h ▸ k
theorem go_mem (h : M = M') (k : Go I Z M' loc st pc) : Go I Z M loc st pc := h ▸ k
theorem go_topi {v : Int32} (h : x = v) (k : Go I Z M loc (vI v :: st) pc) : Go I Z M loc (vI x :: st) pc := h ▸ k
theorem go_if_eqB {b : Bool} (hd : decode I.2.1 pc = .ok (.ifCond .eq off, 3)) (ht : (pc : Int) + off = (t : Int)) (hq : pc + 3 = q) (k1 : b = false → Go I Z M loc st t) (k2 : b = true → Go I Z M loc st q) : Go I Z M loc (vI (bI b) :: st) pc :=
  go_if_eq hd ht hq (fun z => k1 (bI_eq0.mp z)) (fun z => k2 (by cases b; exact absurd rfl z; rfl))
theorem go_if_neB {b : Bool} (hd : decode I.2.1 pc = .ok (.ifCond .ne off, 3)) (ht : (pc : Int) + off = (t : Int)) (hq : pc + 3 = q) (k1 : b = true → Go I Z M loc st t) (k2 : b = false → Go I Z M loc st q) : Go I Z M loc (vI (bI b) :: st) pc :=
  go_if_ne hd ht hq (fun z => k1 (by cases b; exact absurd rfl z; rfl)) (fun z => k2 (by cases b; rfl; exact absurd (by decide) z))
theorem go_icmp_ltN (a b : Nat) (hd : decode I.2.1 pc = .ok (.if_icmp .lt off, 3)) (ht : (pc : Int) + off = (t : Int)) (hq : pc + 3 = q) (hx : x = nI a) (hy : y = nI b) (ha : a < 2 ^ 31) (hb : b < 2 ^ 31) (k1 : a < b → Go I Z M loc st t) (k2 : b ≤ a → Go I Z M loc st q) : Go I Z M loc (vI y :: vI x :: st) pc := by
  subst hx; subst hy
  exact go_icmp_lt hd ht hq (fun z => k1 ((nI_ltI ha hb).mp z)) (fun z => k2 (Nat.le_of_not_lt fun w => z ((nI_ltI ha hb).mpr w)))
theorem go_icmp_geN (a b : Nat) (hd : decode I.2.1 pc = .ok (.if_icmp .ge off, 3)) (ht : (pc : Int) + off = (t : Int)) (hq : pc + 3 = q) (hx : x = nI a) (hy : y = nI b) (ha : a < 2 ^ 31) (hb : b < 2 ^ 31) (k1 : b ≤ a → Go I Z M loc st t) (k2 : a < b → Go I Z M loc st q) : Go I Z M loc (vI y :: vI x :: st) pc := by
  subst hx; subst hy
  exact go_icmp_ge hd ht hq (fun z => k1 ((nI_leI hb ha).mp z)) (fun z => k2 (Nat.lt_of_not_le fun w => z ((nI_leI hb ha).mpr w)))
theorem go_icmp_gtN (a b : Nat) (hd : decode I.2.1 pc = .ok (.if_icmp .gt off, 3)) (ht : (pc : Int) + off = (t : Int)) (hq : pc + 3 = q) (hx : x = nI a) (hy : y = nI b) (ha : a < 2 ^ 31) (hb : b < 2 ^ 31) (k1 : b < a → Go I Z M loc st t) (k2 : a ≤ b → Go I Z M loc st q) : Go I Z M loc (vI y :: vI x :: st) pc := by
  subst hx; subst hy
  exact go_icmp_gt hd ht hq (fun z => k1 ((nI_ltI hb ha).mp z)) (fun z => k2 (Nat.le_of_not_lt fun w => z ((nI_ltI hb ha).mpr w)))
theorem go_icmp_leN (a b : Nat) (hd : decode I.2.1 pc = .ok (.if_icmp .le off, 3)) (ht : (pc : Int) + off = (t : Int)) (hq : pc + 3 = q) (hx : x = nI a) (hy : y = nI b) (ha : a < 2 ^ 31) (hb : b < 2 ^ 31) (k1 : a ≤ b → Go I Z M loc st t) (k2 : b < a → Go I Z M loc st q) : Go I Z M loc (vI y :: vI x :: st) pc := by
  subst hx; subst hy
  exact go_icmp_le hd ht hq (fun z => k1 ((nI_leI ha hb).mp z)) (fun z => k2 (Nat.lt_of_not_le fun w => z ((nI_leI ha hb).mpr w)))
theorem go_icmp_eqN (a b : Nat) (hd : decode I.2.1 pc = .ok (.if_icmp .eq off, 3)) (ht : (pc : Int) + off = (t : Int)) (hq : pc + 3 = q) (hx : x = nI a) (hy : y = nI b) (ha : a < 2 ^ 31) (hb : b < 2 ^ 31) (k1 : a = b → Go I Z M loc st t) (k2 : ¬ a = b → Go I Z M loc st q) : Go I Z M loc (vI y :: vI x :: st) pc := by
  subst hx; subst hy
  exact go_icmp_eq hd ht hq (fun z => k1 ((nI_eq ha hb).mp z)) (fun z => k2 fun w => z ((nI_eq ha hb).mpr w))
theorem go_icmp_neN (a b : Nat) (hd : decode I.2.1 pc = .ok (.if_icmp .ne off, 3)) (ht : (pc : Int) + off = (t : Int)) (hq : pc + 3 = q) (hx : x = nI a) (hy : y = nI b) (ha : a < 2 ^ 31) (hb : b < 2 ^ 31) (k1 : ¬ a = b → Go I Z M loc st t) (k2 : a = b → Go I Z M loc st q) : Go I Z M loc (vI y :: vI x :: st) pc := by
  subst hx; subst hy
  exact go_icmp_ne hd ht hq (fun z => k1 fun w => z ((nI_eq ha hb).mpr w)) (fun z => k2 (by
    apply (nI_eq ha hb).mp
    exact Classical.byContradiction fun w => z w))
/-- two tops that are booleans -/
theorem go_icmp_neB {a b : Bool} (hd : decode I.2.1 pc = .ok (.if_icmp .ne off, 3)) (ht : (pc : Int) + off = (t : Int)) (hq : pc + 3 = q) (k1 : ¬ a = b → Go I Z M loc st t) (k2 : a = b → Go I Z M loc st q) : Go I Z M loc (vI (bI b) :: vI (bI a) :: st) pc :=
  go_icmp_ne hd ht hq (fun z => k1 fun w => z (bI_inj.mpr w)) (fun z => k2 (bI_inj.mp (Classical.byContradiction fun w => z w)))
end MoreRows
/-! ===== shields as numbers ===== -/
def mk (a k : Nat) : Nat := a / 5 ^ k % 5
def wm (a k m : Nat) : Nat := a + m * 5 ^ k - mk a k * 5 ^ k
def ap (a b : Nat) : Nat := cn (fun k => mk a k != mk b k) 6
theorem mk_lt (a k : Nat) : mk a k < 5 := Nat.mod_lt _ (by decide)
theorem ap_le (a b : Nat) : ap a b ≤ 6 := cn_le _ 6
theorem k_l5 : (5 : Int32) = nI 5 := rfl
theorem nI_div5 {a : Nat} (h : a < 2 ^ 31) : nI a / 5 = nI (a / 5) := by rw [k_l5]; exact pk_div h (by decide) (by decide)
theorem nI_rem5 {a : Nat} (h : a < 2 ^ 31) : nI a - nI a / 5 * 5 = nI (a % 5) := by rw [k_l5]; exact pk_rem h (by decide) (by decide)
theorem nI_mul5 (a : Nat) : nI a * 5 = nI (a * 5) := by rw [k_l5]; exact pk_mul a 5
theorem mk_wle (a k : Nat) : mk a k * 5 ^ k ≤ a := by
  unfold mk
  calc a / 5 ^ k % 5 * 5 ^ k ≤ a / 5 ^ k * 5 ^ k := Nat.mul_le_mul_right _ (Nat.mod_le _ _)
    _ ≤ a := Nat.div_mul_le_self a (5 ^ k)
theorem wm_nI (a k m : Nat) : nI a + (nI m - nI (mk a k)) * nI (5 ^ k) = nI (wm a k m) := by
  have h1 : nI (wm a k m) + nI (mk a k * 5 ^ k) = nI (a + m * 5 ^ k) := by
    rw [nI_add]
    congr 1
    unfold wm
    have := mk_wle a k
    omega
  have h2 : nI (wm a k m) = nI (a + m * 5 ^ k) - nI (mk a k * 5 ^ k) := by
    rw [← h1, Int32.add_sub_cancel]
  rw [h2, ← nI_add, ← pk_mul, ← pk_mul, Int32.sub_mul]
  rw [Int32.sub_eq_add_neg, Int32.sub_eq_add_neg, Int32.add_assoc]
theorem pow5_lt {k : Nat} (h : k < 6) : 5 ^ k ≤ 3125 := by
  rcases (show k = 0 ∨ k = 1 ∨ k = 2 ∨ k = 3 ∨ k = 4 ∨ k = 5 by omega) with rfl | rfl | rfl | rfl | rfl | rfl <;> decide
end
section
theorem k_in15625 (x : Int32) (h0 : ¬ x < 0) (h1 : ¬ (15625 : Int32) ≤ x) : (1 : Int32) = bI (pOf 15625 x).isSome := by
  have e0 : (0 : Int32).toInt = 0 := by decide
  have e1 : (15625 : Int32).toInt = 15625 := by decide
  rw [i32_lt, e0] at h0
  rw [i32_le, e1] at h1
  rw [show (pOf 15625 x).isSome = true from pOf_iff.mpr ⟨by omega, by omega⟩]
  rfl
theorem k_out15625 (x : Int32) (h : x < 0 ∨ (15625 : Int32) ≤ x) : (0 : Int32) = bI (pOf 15625 x).isSome := by
  have e0 : (0 : Int32).toInt = 0 := by decide
  have e1 : (15625 : Int32).toInt = 15625 := by decide
  rw [i32_lt, e0, i32_le, e1] at h
  have h2 : ¬ (pOf 15625 x).isSome = true := fun z => by
    have := pOf_iff.mp z
    omega
  rw [Bool.not_eq_true] at h2
  rw [h2]; rfl
theorem ok_isShield (M : KM) (x : Int32) : OkF mX8_isShield [vI x] M (some (vI (bI (pOf 15625 x).isSome))) M := by
  refine ok_of (by decide) rfl (Nat.le_of_ble_eq_true rfl) ⟨rfl, rfl⟩ ?_
  show Go mX8_isShield (Zm (QF (some (vI (bI (pOf 15625 x).isSome))) M)) M [some (vI x)] [] 0
  refine go_iload_n (q := 1) dX8_isShield_0 rfl rfl rfl ?_
  refine go_if_lt (q := 4) (t := 15) dX8_isShield_1 (by decide) rfl (fun c_1 => ?_) (fun c_1 => ?_)
  · refine go_iconst (q := 16) (v := 0) dX8_isShield_15 (by decide) rfl ?_
    exact go_rz dX8_isShield_16 rfl (k_out15625 _ (by first | exact Or.inl (by assumption) | exact Or.inr (by assumption))) rfl
  · refine go_iload_n (q := 5) dX8_isShield_4 rfl rfl rfl ?_
    refine go_sipush (q := 8) (v := 15625) dX8_isShield_5 (by decide) rfl ?_
    refine go_icmp_ge (q := 11) (t := 15) dX8_isShield_8 (by decide) rfl (fun c_8 => ?_) (fun c_8 => ?_)
    · refine go_iconst (q := 16) (v := 0) dX8_isShield_15 (by decide) rfl ?_
      exact go_rz dX8_isShield_16 rfl (k_out15625 _ (by first | exact Or.inl (by assumption) | exact Or.inr (by assumption))) rfl
    · refine go_iconst (q := 12) (v := 1) dX8_isShield_11 (by decide) rfl ?_
      refine go_goto (q := 16) dX8_isShield_12 (by decide) ?_
      exact go_rz dX8_isShield_16 rfl (k_in15625 _ (by assumption) (by assumption)) rfl
theorem k_in6 (x : Int32) (h0 : ¬ x < 0) (h1 : ¬ (6 : Int32) ≤ x) : (1 : Int32) = bI (pOf 6 x).isSome := by
  have e0 : (0 : Int32).toInt = 0 := by decide
  have e1 : (6 : Int32).toInt = 6 := by decide
  rw [i32_lt, e0] at h0
  rw [i32_le, e1] at h1
  rw [show (pOf 6 x).isSome = true from pOf_iff.mpr ⟨by omega, by omega⟩]
  rfl
theorem k_out6 (x : Int32) (h : x < 0 ∨ (6 : Int32) ≤ x) : (0 : Int32) = bI (pOf 6 x).isSome := by
  have e0 : (0 : Int32).toInt = 0 := by decide
  have e1 : (6 : Int32).toInt = 6 := by decide
  rw [i32_lt, e0, i32_le, e1] at h
  have h2 : ¬ (pOf 6 x).isSome = true := fun z => by
    have := pOf_iff.mp z
    omega
  rw [Bool.not_eq_true] at h2
  rw [h2]; rfl
theorem ok_isPlace (M : KM) (x : Int32) : OkF mX8_isPlace [vI x] M (some (vI (bI (pOf 6 x).isSome))) M := by
  refine ok_of (by decide) rfl (Nat.le_of_ble_eq_true rfl) ⟨rfl, rfl⟩ ?_
  show Go mX8_isPlace (Zm (QF (some (vI (bI (pOf 6 x).isSome))) M)) M [some (vI x)] [] 0
  refine go_iload_n (q := 1) dX8_isPlace_0 rfl rfl rfl ?_
  refine go_if_lt (q := 4) (t := 14) dX8_isPlace_1 (by decide) rfl (fun c_1 => ?_) (fun c_1 => ?_)
  · refine go_iconst (q := 15) (v := 0) dX8_isPlace_14 (by decide) rfl ?_
    exact go_rz dX8_isPlace_15 rfl (k_out6 _ (by first | exact Or.inl (by assumption) | exact Or.inr (by assumption))) rfl
  · refine go_iload_n (q := 5) dX8_isPlace_4 rfl rfl rfl ?_
    refine go_bipush (q := 7) (v := 6) dX8_isPlace_5 (by decide) rfl ?_
    refine go_icmp_ge (q := 10) (t := 14) dX8_isPlace_7 (by decide) rfl (fun c_7 => ?_) (fun c_7 => ?_)
    · refine go_iconst (q := 15) (v := 0) dX8_isPlace_14 (by decide) rfl ?_
      exact go_rz dX8_isPlace_15 rfl (k_out6 _ (by first | exact Or.inl (by assumption) | exact Or.inr (by assumption))) rfl
    · refine go_iconst (q := 11) (v := 1) dX8_isPlace_10 (by decide) rfl ?_
      refine go_goto (q := 15) dX8_isPlace_11 (by decide) ?_
      exact go_rz dX8_isPlace_15 rfl (k_in6 _ (by assumption) (by assumption)) rfl
theorem k_in5 (x : Int32) (h0 : ¬ x < 0) (h1 : ¬ (5 : Int32) ≤ x) : (1 : Int32) = bI (pOf 5 x).isSome := by
  have e0 : (0 : Int32).toInt = 0 := by decide
  have e1 : (5 : Int32).toInt = 5 := by decide
  rw [i32_lt, e0] at h0
  rw [i32_le, e1] at h1
  rw [show (pOf 5 x).isSome = true from pOf_iff.mpr ⟨by omega, by omega⟩]
  rfl
theorem k_out5 (x : Int32) (h : x < 0 ∨ (5 : Int32) ≤ x) : (0 : Int32) = bI (pOf 5 x).isSome := by
  have e0 : (0 : Int32).toInt = 0 := by decide
  have e1 : (5 : Int32).toInt = 5 := by decide
  rw [i32_lt, e0, i32_le, e1] at h
  have h2 : ¬ (pOf 5 x).isSome = true := fun z => by
    have := pOf_iff.mp z
    omega
  rw [Bool.not_eq_true] at h2
  rw [h2]; rfl
theorem ok_isMark (M : KM) (x : Int32) : OkF mX8_isMark [vI x] M (some (vI (bI (pOf 5 x).isSome))) M := by
  refine ok_of (by decide) rfl (Nat.le_of_ble_eq_true rfl) ⟨rfl, rfl⟩ ?_
  show Go mX8_isMark (Zm (QF (some (vI (bI (pOf 5 x).isSome))) M)) M [some (vI x)] [] 0
  refine go_iload_n (q := 1) dX8_isMark_0 rfl rfl rfl ?_
  refine go_if_lt (q := 4) (t := 13) dX8_isMark_1 (by decide) rfl (fun c_1 => ?_) (fun c_1 => ?_)
  · refine go_iconst (q := 14) (v := 0) dX8_isMark_13 (by decide) rfl ?_
    exact go_rz dX8_isMark_14 rfl (k_out5 _ (by first | exact Or.inl (by assumption) | exact Or.inr (by assumption))) rfl
  · refine go_iload_n (q := 5) dX8_isMark_4 rfl rfl rfl ?_
    refine go_iconst (q := 6) (v := 5) dX8_isMark_5 (by decide) rfl ?_
    refine go_icmp_ge (q := 9) (t := 13) dX8_isMark_6 (by decide) rfl (fun c_6 => ?_) (fun c_6 => ?_)
    · refine go_iconst (q := 14) (v := 0) dX8_isMark_13 (by decide) rfl ?_
      exact go_rz dX8_isMark_14 rfl (k_out5 _ (by first | exact Or.inl (by assumption) | exact Or.inr (by assumption))) rfl
    · refine go_iconst (q := 10) (v := 1) dX8_isMark_9 (by decide) rfl ?_
      refine go_goto (q := 14) dX8_isMark_10 (by decide) ?_
      exact go_rz dX8_isMark_14 rfl (k_in5 _ (by assumption) (by assumption)) rfl
theorem div_pow {a j : Nat} : a / 5 ^ j / 5 = a / 5 ^ (j + 1) := by rw [Nat.div_div_eq_div_mul, ← Nat.pow_succ]
theorem div_small {a j : Nat} (ha : a < 2 ^ 31) : a / 5 ^ j < 2 ^ 31 := Nat.lt_of_le_of_lt (Nat.div_le_self _ _) ha
theorem lp_markAt {M : KM} {a k : Nat} (ha : a < 2 ^ 31) (hk : k < 6) : ∀ (d : Nat) (j : Nat) (x y : Int32), k - j < d → (x = nI (a / 5 ^ j)) → (y = nI j) → (j ≤ k) → Go mX8_markAt (Zm (QF (some (vI (nI (mk a k)))) M)) M [some (vI (nI a)), some (vI (nI k)), some (vI x), some (vI y)] [] 4 := by
  intro d
  induction d with
  | zero => intro j x y hd; exact absurd hd (Nat.not_lt_zero _)
  | succ d ih =>
    intro j x y hd h0 h1 h2
    refine go_iload_n (q := 5) dX8_markAt_4 rfl rfl rfl ?_
    refine go_iload_n (q := 6) dX8_markAt_5 rfl rfl rfl ?_
    refine go_icmp_geN j k (q := 9) (t := 25) dX8_markAt_6 (by decide) rfl h1 rfl (by omega) (by omega) (fun c_6 => ?_) (fun c_6 => ?_)
    · refine go_iload_n (q := 26) dX8_markAt_25 rfl rfl rfl ?_
      refine go_iconst (q := 27) (v := 5) dX8_markAt_26 (by decide) rfl ?_
      refine go_irem (q := 28) dX8_markAt_27 (by decide) rfl ?_
      exact go_ri dX8_markAt_28 rfl (by rw [h0, nI_rem5 (div_small ha), show j = k by omega]; rfl) rfl
    · refine go_iload_n (q := 10) dX8_markAt_9 rfl rfl rfl ?_
      refine go_bipush (q := 12) (v := 6) dX8_markAt_10 (by decide) rfl ?_
      refine go_icmp_geN j 6 (q := 15) (t := 25) dX8_markAt_12 (by decide) rfl h1 rfl (by omega) (by omega) (fun c_12 => ?_) (fun c_12 => ?_)
      · omega
      · refine go_iload_n (q := 16) dX8_markAt_15 rfl rfl rfl ?_
        refine go_iconst (q := 17) (v := 5) dX8_markAt_16 (by decide) rfl ?_
        refine go_idiv (q := 18) dX8_markAt_17 (by decide) rfl ?_
        refine go_topi (v := nI (a / 5 ^ (j + 1))) (by rw [h0, nI_div5 (div_small ha), div_pow]) ?_
        refine go_istore_n (q := 19) dX8_markAt_18 rfl (by decide) rfl rfl ?_
        refine go_iinc (q := 22) (v := 1) dX8_markAt_19 (by decide) rfl (by decide) rfl rfl ?_
        refine go_goto (q := 4) dX8_markAt_22 (by decide) ?_
        exact ih (j + 1) _ _ (by omega) rfl (by rw [h1, nI_1]) (by omega)
theorem ok_markAt {M : KM} {a k : Nat} (ha : a < 2 ^ 31) (hk : k < 6) : OkF mX8_markAt [vI (nI a), vI (nI k)] M (some (vI (nI (mk a k)))) M := by
  refine ok_of (by decide) rfl (Nat.le_of_ble_eq_true rfl) ⟨rfl, rfl⟩ ?_
  show Go mX8_markAt (Zm (QF (some (vI (nI (mk a k)))) M)) M [some (vI (nI a)), some (vI (nI k)), none, none] [] 0
  refine go_iload_n (q := 1) dX8_markAt_0 rfl rfl rfl ?_
  refine go_istore_n (q := 2) dX8_markAt_1 rfl (by decide) rfl rfl ?_
  refine go_iconst (q := 3) (v := 0) dX8_markAt_2 (by decide) rfl ?_
  refine go_istore_n (q := 4) dX8_markAt_3 rfl (by decide) rfl rfl ?_
  exact lp_markAt ha hk (k + 1) 0 _ _ (by omega) (by simp) rfl (by omega)
theorem lp_weightOf {M : KM} {k : Nat} (hk : k < 6) : ∀ (d : Nat) (j : Nat) (x y : Int32), k - j < d → (x = nI (5 ^ j)) → (y = nI j) → (j ≤ k) → Go mX8_weightOf (Zm (QF (some (vI (nI (5 ^ k)))) M)) M [some (vI (nI k)), some (vI x), some (vI y)] [] 4 := by
  intro d
  induction d with
  | zero => intro j x y hd; exact absurd hd (Nat.not_lt_zero _)
  | succ d ih =>
    intro j x y hd h0 h1 h2
    refine go_iload_n (q := 5) dX8_weightOf_4 rfl rfl rfl ?_
    refine go_iload_n (q := 6) dX8_weightOf_5 rfl rfl rfl ?_
    refine go_icmp_geN j k (q := 9) (t := 25) dX8_weightOf_6 (by decide) rfl h1 rfl (by omega) (by omega) (fun c_6 => ?_) (fun c_6 => ?_)
    · refine go_iload_n (q := 26) dX8_weightOf_25 rfl rfl rfl ?_
      exact go_ri dX8_weightOf_26 rfl (by rw [h0, show j = k by omega]) rfl
    · refine go_iload_n (q := 10) dX8_weightOf_9 rfl rfl rfl ?_
      refine go_bipush (q := 12) (v := 6) dX8_weightOf_10 (by decide) rfl ?_
      refine go_icmp_geN j 6 (q := 15) (t := 25) dX8_weightOf_12 (by decide) rfl h1 rfl (by omega) (by omega) (fun c_12 => ?_) (fun c_12 => ?_)
      · omega
      · refine go_iload_n (q := 16) dX8_weightOf_15 rfl rfl rfl ?_
        refine go_iconst (q := 17) (v := 5) dX8_weightOf_16 (by decide) rfl ?_
        refine go_imul (q := 18) dX8_weightOf_17 rfl ?_
        refine go_topi (v := nI (5 ^ (j + 1))) (by rw [h0, nI_mul5, ← Nat.pow_succ]) ?_
        refine go_istore_n (q := 19) dX8_weightOf_18 rfl (by decide) rfl rfl ?_
        refine go_iinc (q := 22) (v := 1) dX8_weightOf_19 (by decide) rfl (by decide) rfl rfl ?_
        refine go_goto (q := 4) dX8_weightOf_22 (by decide) ?_
        exact ih (j + 1) _ _ (by omega) rfl (by rw [h1, nI_1]) (by omega)
theorem ok_weightOf {M : KM} {k : Nat} (hk : k < 6) : OkF mX8_weightOf [vI (nI k)] M (some (vI (nI (5 ^ k)))) M := by
  refine ok_of (by decide) rfl (Nat.le_of_ble_eq_true rfl) ⟨rfl, rfl⟩ ?_
  show Go mX8_weightOf (Zm (QF (some (vI (nI (5 ^ k)))) M)) M [some (vI (nI k)), none, none] [] 0
  refine go_iconst (q := 1) (v := 1) dX8_weightOf_0 (by decide) rfl ?_
  refine go_istore_n (q := 2) dX8_weightOf_1 rfl (by decide) rfl rfl ?_
  refine go_iconst (q := 3) (v := 0) dX8_weightOf_2 (by decide) rfl ?_
  refine go_istore_n (q := 4) dX8_weightOf_3 rfl (by decide) rfl rfl ?_
  exact lp_weightOf hk (k + 1) 0 _ _ (by omega) (by simp; rfl) rfl (by omega)
theorem ok_withMark {M : KM} {a k m : Nat} (ha : a < 2 ^ 31) (hk : k < 6) : OkF mX8_withMark [vI (nI a), vI (nI k), vI (nI m)] M (some (vI (nI (wm a k m)))) M := by
  refine ok_of (by decide) rfl (Nat.le_of_ble_eq_true rfl) ⟨rfl, rfl⟩ ?_
  show Go mX8_withMark (Zm (QF (some (vI (nI (wm a k m)))) M)) M [some (vI (nI a)), some (vI (nI k)), some (vI (nI m))] [] 0
  refine go_iload_n (q := 1) dX8_withMark_0 rfl rfl rfl ?_
  refine go_iload_n (q := 2) dX8_withMark_1 rfl rfl rfl ?_
  refine go_iload_n (q := 3) dX8_withMark_2 rfl rfl rfl ?_
  refine go_iload_n (q := 4) dX8_withMark_3 rfl rfl rfl ?_
  refine go_cS2 (cal := mX8_markAt) (q := 7) dX8_withMark_4 lRX8_9 vX8_markAt ⟨by decide, by decide⟩ (Nat.le_of_ble_eq_true rfl) (ok_markAt ha hk) rfl ?_
  refine go_isub (q := 8) dX8_withMark_7 rfl ?_
  refine go_iload_n (q := 9) dX8_withMark_8 rfl rfl rfl ?_
  refine go_cS1 (cal := mX8_weightOf) (q := 12) dX8_withMark_9 lRX8_15 vX8_weightOf ⟨by decide, by decide⟩ (Nat.le_of_ble_eq_true rfl) (ok_weightOf hk) rfl ?_
  refine go_imul (q := 13) dX8_withMark_12 rfl ?_
  refine go_iadd (q := 14) dX8_withMark_13 rfl ?_
  exact go_ri dX8_withMark_14 rfl (wm_nI a k m) rfl
theorem lp_apart {M : KM} {a b : Nat} (ha : a < 2 ^ 31) (hb : b < 2 ^ 31) : ∀ (d : Nat) (j : Nat) (x y z w : Int32), 6 - j < d → (x = nI (a / 5 ^ j)) → (y = nI (b / 5 ^ j)) → (z = nI (cn (fun k => mk a k != mk b k) j)) → (w = nI j) → (j ≤ 6) → Go mX8_apart (Zm (QF (some (vI (nI (ap a b)))) M)) M [some (vI x), some (vI y), some (vI z), some (vI w)] [] 4 := by
  intro d
  induction d with
  | zero => intro j x y z w hd; exact absurd hd (Nat.not_lt_zero _)
  | succ d ih =>
    intro j x y z w hd h0 h1 h2 h3 h4
    refine go_iload_n (q := 5) dX8_apart_4 rfl rfl rfl ?_
    refine go_bipush (q := 7) (v := 6) dX8_apart_5 (by decide) rfl ?_
    refine go_icmp_geN j 6 (q := 10) (t := 36) dX8_apart_7 (by decide) rfl h3 rfl (by omega) (by omega) (fun c_7 => ?_) (fun c_7 => ?_)
    · refine go_iload_n (q := 37) dX8_apart_36 rfl rfl rfl ?_
      exact go_ri dX8_apart_37 rfl (by rw [h2, show j = 6 by omega]; rfl) rfl
    · refine go_iload_n (q := 11) dX8_apart_10 rfl rfl rfl ?_
      refine go_iconst (q := 12) (v := 5) dX8_apart_11 (by decide) rfl ?_
      refine go_irem (q := 13) dX8_apart_12 (by decide) rfl ?_
      refine go_topi (v := nI (mk a j)) (by rw [h0, nI_rem5 (div_small ha)]; rfl) ?_
      refine go_iload_n (q := 14) dX8_apart_13 rfl rfl rfl ?_
      refine go_iconst (q := 15) (v := 5) dX8_apart_14 (by decide) rfl ?_
      refine go_irem (q := 16) dX8_apart_15 (by decide) rfl ?_
      refine go_topi (v := nI (mk b j)) (by rw [h1, nI_rem5 (div_small hb)]; rfl) ?_
      refine go_icmp_eqN (mk a j) (mk b j) (q := 19) (t := 22) dX8_apart_16 (by decide) rfl rfl rfl (by have := mk_lt a j; omega) (by have := mk_lt b j; omega) (fun c_16 => ?_) (fun c_16 => ?_)
      · refine go_iload_n (q := 23) dX8_apart_22 rfl rfl rfl ?_
        refine go_iconst (q := 24) (v := 5) dX8_apart_23 (by decide) rfl ?_
        refine go_idiv (q := 25) dX8_apart_24 (by decide) rfl ?_
        refine go_topi (v := nI (a / 5 ^ (j + 1))) (by rw [h0, nI_div5 (div_small ha), div_pow]) ?_
        refine go_istore_n (q := 26) dX8_apart_25 rfl (by decide) rfl rfl ?_
        refine go_iload_n (q := 27) dX8_apart_26 rfl rfl rfl ?_
        refine go_iconst (q := 28) (v := 5) dX8_apart_27 (by decide) rfl ?_
        refine go_idiv (q := 29) dX8_apart_28 (by decide) rfl ?_
        refine go_topi (v := nI (b / 5 ^ (j + 1))) (by rw [h1, nI_div5 (div_small hb), div_pow]) ?_
        refine go_istore_n (q := 30) dX8_apart_29 rfl (by decide) rfl rfl ?_
        refine go_iinc (q := 33) (v := 1) dX8_apart_30 (by decide) rfl (by decide) rfl rfl ?_
        refine go_goto (q := 4) dX8_apart_33 (by decide) ?_
        exact ih (j + 1) _ _ _ _ (by omega) rfl rfl (by rw [h2, cn_f (by simp [c_16])]) (by rw [h3, nI_1]) (by omega)
      · refine go_iinc (q := 22) (v := 1) dX8_apart_19 (by decide) rfl (by decide) rfl rfl ?_
        refine go_iload_n (q := 23) dX8_apart_22 rfl rfl rfl ?_
        refine go_iconst (q := 24) (v := 5) dX8_apart_23 (by decide) rfl ?_
        refine go_idiv (q := 25) dX8_apart_24 (by decide) rfl ?_
        refine go_topi (v := nI (a / 5 ^ (j + 1))) (by rw [h0, nI_div5 (div_small ha), div_pow]) ?_
        refine go_istore_n (q := 26) dX8_apart_25 rfl (by decide) rfl rfl ?_
        refine go_iload_n (q := 27) dX8_apart_26 rfl rfl rfl ?_
        refine go_iconst (q := 28) (v := 5) dX8_apart_27 (by decide) rfl ?_
        refine go_idiv (q := 29) dX8_apart_28 (by decide) rfl ?_
        refine go_topi (v := nI (b / 5 ^ (j + 1))) (by rw [h1, nI_div5 (div_small hb), div_pow]) ?_
        refine go_istore_n (q := 30) dX8_apart_29 rfl (by decide) rfl rfl ?_
        refine go_iinc (q := 33) (v := 1) dX8_apart_30 (by decide) rfl (by decide) rfl rfl ?_
        refine go_goto (q := 4) dX8_apart_33 (by decide) ?_
        exact ih (j + 1) _ _ _ _ (by omega) rfl rfl (by rw [h2, cn_t (by simp [c_16]), nI_1]) (by rw [h3, nI_1]) (by omega)
theorem ok_apart {M : KM} {a b : Nat} (ha : a < 2 ^ 31) (hb : b < 2 ^ 31) : OkF mX8_apart [vI (nI a), vI (nI b)] M (some (vI (nI (ap a b)))) M := by
  refine ok_of (by decide) rfl (Nat.le_of_ble_eq_true rfl) ⟨rfl, rfl⟩ ?_
  show Go mX8_apart (Zm (QF (some (vI (nI (ap a b)))) M)) M [some (vI (nI a)), some (vI (nI b)), none, none] [] 0
  refine go_iconst (q := 1) (v := 0) dX8_apart_0 (by decide) rfl ?_
  refine go_istore_n (q := 2) dX8_apart_1 rfl (by decide) rfl rfl ?_
  refine go_iconst (q := 3) (v := 0) dX8_apart_2 (by decide) rfl ?_
  refine go_istore_n (q := 4) dX8_apart_3 rfl (by decide) rfl rfl ?_
  exact lp_apart ha hb 7 0 _ _ _ _ (by omega) (by simp) (by simp) rfl rfl (by omega)
end
section
/-! ===== a roll as a value, and how a Roll holds it ===== -/
abbrev RO : Type := Nat × (Nat → Nat) × (Nat → Bool) × (Nat → Option (Nat × Nat × Nat)) × Nat × Nat
def rN (R : RO) : Nat := R.1
def rS (R : RO) (p : Nat) : Nat := R.2.1 p
def rL (R : RO) (p : Nat) : Bool := R.2.2.1 p
def rB (R : RO) (p : Nat) : Option (Nat × Nat × Nat) := R.2.2.2.1 p
def rH (R : RO) : Nat := R.2.2.2.2.1
def rF (R : RO) : Nat := R.2.2.2.2.2
def rP (R : RO) (p : Nat) : Option Nat := (rB R p).map (fun b => b.1)
def rK (R : RO) (p : Nat) : Option Nat := (rB R p).map (fun b => b.2.1)
def rM (R : RO) (p : Nat) : Option Nat := (rB R p).map (fun b => b.2.2)
/-- a roll that can be: persons, fathers before their sons, at most four sons, no shield borne by two living -/
def rW (R : RO) : Prop := rN R ≤ 20 ∧ (∀ p, p < rN R → rS R p < 15625) ∧ (∀ p f k m, p < rN R → rB R p = some (f, k, m) → f < p ∧ k < 6 ∧ m < 5) ∧ (∀ f, cn (fun i => rP R i == some f) (rN R) ≤ 4) ∧ (∀ p q, p < rN R → q < rN R → rL R p = true → rL R q = true → rS R p = rS R q → p = q)
def RA (M : KM) (i : Nat) (R : RO) : Prop := M.1 1 i 5 = nI (rN R) ∧ M.1 1 i 6 = nI (rH R) ∧ M.1 1 i 7 = nI (rF R) ∧ rN R ≤ 20 ∧ (∀ p, p < 20 → ∃ b, M.1 3 i p = bI b) ∧ ∀ p, p < rN R → M.1 2 i p = nI (rS R p) ∧ M.1 3 i p = bI (rL R p) ∧ M.1 4 i p = e1 (rP R p) ∧ M.1 5 i p = e1 (rK R p) ∧ M.1 6 i p = e1 (rM R p)
section RAx
variable {M : KM} {i p : Nat} {R : RO}
theorem RA.sz (h : RA M i R) : M.1 1 i 5 = nI (rN R) := h.1
theorem RA.he (h : RA M i R) : M.1 1 i 6 = nI (rH R) := h.2.1
theorem RA.re (h : RA M i R) : M.1 1 i 7 = nI (rF R) := h.2.2.1
theorem RA.le (h : RA M i R) : rN R ≤ 20 := h.2.2.2.1
theorem RA.sh (h : RA M i R) (hp : p < rN R) : M.1 2 i p = nI (rS R p) := (h.2.2.2.2.2 p hp).1
theorem RA.al (h : RA M i R) (hp : p < rN R) : M.1 3 i p = bI (rL R p) := (h.2.2.2.2.2 p hp).2.1
theorem RA.fa (h : RA M i R) (hp : p < rN R) : M.1 4 i p = e1 (rP R p) := (h.2.2.2.2.2 p hp).2.2.1
theorem RA.pl (h : RA M i R) (hp : p < rN R) : M.1 5 i p = e1 (rK R p) := (h.2.2.2.2.2 p hp).2.2.2.1
theorem RA.mk (h : RA M i R) (hp : p < rN R) : M.1 6 i p = e1 (rM R p) := (h.2.2.2.2.2 p hp).2.2.2.2
theorem RA.z (h : RA M i R) (hp : p < 20) : ∃ b, M.1 3 i p = bI b := h.2.2.2.2.1 p hp
theorem RA.lt (h : RA M i R) (hp : p < rN R) : p < 20 := Nat.lt_of_lt_of_le hp h.le
theorem rP_lt (h : rW R) (hp : p < rN R) : ∀ f, rP R p = some f → f < p := fun f hf => by
  unfold rP at hf
  cases hb : rB R p with
  | none => rw [hb] at hf; cases hf
  | some b =>
    obtain ⟨g, k, m⟩ := b
    rw [hb] at hf
    cases hf
    exact (h.2.2.1 p _ k m hp hb).1
theorem rK_lt (h : rW R) (hp : p < rN R) : ∀ f, rK R p = some f → f < 6 := fun f hf => by
  unfold rK at hf
  cases hb : rB R p with
  | none => rw [hb] at hf; cases hf
  | some b =>
    obtain ⟨g, k, m⟩ := b
    rw [hb] at hf
    cases hf
    exact (h.2.2.1 p g _ m hp hb).2.1
theorem rM_lt (h : rW R) (hp : p < rN R) : ∀ f, rM R p = some f → f < 5 := fun f hf => by
  unfold rM at hf
  cases hb : rB R p with
  | none => rw [hb] at hf; cases hf
  | some b =>
    obtain ⟨g, k, m⟩ := b
    rw [hb] at hf
    cases hf
    exact (h.2.2.1 p g k _ hp hb).2.2
theorem rP_n (h : rW R) (hp : p < rN R) : ∀ f, rP R p = some f → f < rN R := fun f hf => Nat.lt_trans (rP_lt h hp f hf) hp
end RAx
def oS (R : RO) (o : Option Nat) : Nat := match o with | some p => rS R p | none => 0
def oL (R : RO) (o : Option Nat) : Bool := match o with | some p => rL R p | none => false
theorem oL_some {R : RO} {p : Nat} : oL R (some p) = rL R p := rfl
def oP (R : RO) (o : Option Nat) : Option Nat := match o with | some p => rP R p | none => none
def oK (R : RO) (o : Option Nat) : Option Nat := match o with | some p => rK R p | none => none
def oM (R : RO) (o : Option Nat) : Option Nat := match o with | some p => rM R p | none => none
/-- brothers -/
def br (R : RO) (a b : Option Nat) : Bool := match a, b with
  | some p, some q => p != q && (rP R p != none && rP R p == rP R q)
  | _, _ => false
/-- the least, the last below n; whether there is one -/
def fst1 (P : Nat → Bool) : Nat → Option Nat
  | 0 => none
  | n + 1 => match fst1 P n with
    | some k => some k
    | none => if P n then some n else none
def lst1 (P : Nat → Bool) : Nat → Option Nat
  | 0 => none
  | n + 1 => if P n then some n else lst1 P n
def ex (P : Nat → Bool) : Nat → Bool
  | 0 => false
  | n + 1 => ex P n || P n
theorem fst1_none {P : Nat → Bool} : ∀ {n : Nat}, fst1 P n = none ↔ ∀ i, i < n → P i = false
  | 0 => by simp [fst1]
  | n + 1 => by
    unfold fst1
    cases h : fst1 P n with
    | none =>
      have h2 := fst1_none.mp h
      simp only
      constructor
      · intro h3 i hi
        by_cases hin : i < n
        · exact h2 i hin
        · have : i = n := by omega
          subst this
          by_cases h4 : P i = true
          · rw [if_pos h4] at h3; cases h3
          · simpa using h4
      · intro h3
        rw [if_neg (by rw [h3 n (by omega)]; decide)]
    | some k =>
      simp only [reduceCtorEq, false_iff]
      intro h3
      have : fst1 P n = none := fst1_none.mpr (fun i hi => h3 i (by omega))
      rw [h] at this; cases this
theorem fst1_some {P : Nat → Bool} : ∀ {n k : Nat}, fst1 P n = some k ↔ k < n ∧ P k = true ∧ ∀ i, i < k → P i = false
  | 0, k => by simp [fst1]
  | n + 1, k => by
    unfold fst1
    cases h : fst1 P n with
    | none =>
      have h2 := fst1_none.mp h
      simp only
      constructor
      · intro h3
        by_cases h4 : P n = true
        · rw [if_pos h4] at h3
          cases h3
          exact ⟨by omega, h4, h2⟩
        · rw [if_neg h4] at h3; cases h3
      · intro ⟨h3, h4, h5⟩
        have : k = n := by
          by_cases hk : k < n
          · rw [h2 k hk] at h4; cases h4
          · omega
        subst this
        rw [if_pos h4]
    | some j =>
      have h2 := fst1_some.mp h
      simp only [Option.some.injEq]
      constructor
      · rintro rfl
        exact ⟨by omega, h2.2.1, h2.2.2⟩
      · intro ⟨h3, h4, h5⟩
        by_cases a : j < k
        · rw [h5 j a] at h2; cases h2.2.1
        · by_cases b : k < j
          · rw [h2.2.2 k b] at h4; cases h4
          · omega
theorem ex_iff {P : Nat → Bool} : ∀ {n : Nat}, ex P n = true ↔ ∃ i, i < n ∧ P i = true
  | 0 => by simp [ex]
  | n + 1 => by
    unfold ex
    rw [Bool.or_eq_true, ex_iff]
    constructor
    · rintro (⟨i, h1, h2⟩ | h)
      · exact ⟨i, by omega, h2⟩
      · exact ⟨n, by omega, h⟩
    · rintro ⟨i, h1, h2⟩
      by_cases hi : i < n
      · exact Or.inl ⟨i, hi, h2⟩
      · have : i = n := by omega
        subst this
        exact Or.inr h2
theorem ex_f {P : Nat → Bool} {n : Nat} (h : ∀ i, i < n → P i = false) : ex P n = false := by
  rw [← Bool.not_eq_true, ex_iff]
  rintro ⟨i, h1, h2⟩
  rw [h i h1] at h2; cases h2
theorem ex_t {P : Nat → Bool} {n i : Nat} (hi : i < n) (h : P i = true) : ex P n = true := ex_iff.mpr ⟨i, hi, h⟩
theorem k_hasT {n : Nat} (hn : n ≤ 20) {x : Int32} (h0 : ¬ x < 0) (h1 : ¬ nI n ≤ x) : (1 : Int32) = bI (pOf n x).isSome := by
  have e0 : (0 : Int32).toInt = 0 := by decide
  rw [i32_lt, e0] at h0
  rw [i32_le, nI_toInt (by omega)] at h1
  rw [show (pOf n x).isSome = true from pOf_iff.mpr ⟨by omega, by omega⟩]
  rfl
theorem k_hasF {n : Nat} (hn : n ≤ 20) {x : Int32} (h : x < 0 ∨ nI n ≤ x ∨ (20 : Int32) ≤ x) : (0 : Int32) = bI (pOf n x).isSome := by
  have e0 : (0 : Int32).toInt = 0 := by decide
  have e20 : (20 : Int32).toInt = 20 := by decide
  rw [i32_lt, e0, i32_le, nI_toInt (by omega), i32_le, e20] at h
  have h2 : ¬ (pOf n x).isSome = true := fun z => by
    have := pOf_iff.mp z
    omega
  rw [Bool.not_eq_true] at h2
  rw [h2]; rfl
theorem ok_size {M : KM} {i : Nat} {R : RO} (hi : i < 8) (hR : RA M i R) : OkF mX6_size [vR 1 i] M (some (vI (nI (rN R)))) M := by
  refine ok_of (by decide) rfl (Nat.le_of_ble_eq_true rfl) ⟨rfl, rfl⟩ ?_
  show Go mX6_size (Zm (QF (some (vI (nI (rN R)))) M)) M [some (vR 1 i)] [] 0
  refine go_aload_n (q := 1) dX6_size_0 rfl rfl rfl ?_
  refine go_getf (q := 4) dX6_size_1 fRX6_28 rfl hi rfl rfl ?_
  refine go_topi hR.sz ?_
  exact go_ri dX6_size_4 rfl (by rfl) rfl
theorem ok_heirs {M : KM} {i : Nat} {R : RO} (hi : i < 8) (hR : RA M i R) : OkF mX6_heirs [vR 1 i] M (some (vI (nI (rH R)))) M := by
  refine ok_of (by decide) rfl (Nat.le_of_ble_eq_true rfl) ⟨rfl, rfl⟩ ?_
  show Go mX6_heirs (Zm (QF (some (vI (nI (rH R)))) M)) M [some (vR 1 i)] [] 0
  refine go_aload_n (q := 1) dX6_heirs_0 rfl rfl rfl ?_
  refine go_getf (q := 4) dX6_heirs_1 fRX6_32 rfl hi rfl rfl ?_
  refine go_topi hR.he ?_
  exact go_ri dX6_heirs_4 rfl (by rfl) rfl
theorem ok_refusals {M : KM} {i : Nat} {R : RO} (hi : i < 8) (hR : RA M i R) : OkF mX6_refusals [vR 1 i] M (some (vI (nI (rF R)))) M := by
  refine ok_of (by decide) rfl (Nat.le_of_ble_eq_true rfl) ⟨rfl, rfl⟩ ?_
  show Go mX6_refusals (Zm (QF (some (vI (nI (rF R)))) M)) M [some (vR 1 i)] [] 0
  refine go_aload_n (q := 1) dX6_refusals_0 rfl rfl rfl ?_
  refine go_getf (q := 4) dX6_refusals_1 fRX6_35 rfl hi rfl rfl ?_
  refine go_topi hR.re ?_
  exact go_ri dX6_refusals_4 rfl (by rfl) rfl
theorem ok_has {M : KM} {i : Nat} {R : RO} (hi : i < 8) (hR : RA M i R) (x : Int32) : OkF mX6_has [vR 1 i, vI x] M (some (vI (bI (pOf (rN R) x).isSome))) M := by
  refine ok_of (by decide) rfl (Nat.le_of_ble_eq_true rfl) ⟨rfl, rfl⟩ ?_
  show Go mX6_has (Zm (QF (some (vI (bI (pOf (rN R) x).isSome))) M)) M [some (vR 1 i), some (vI x)] [] 0
  refine go_iload_n (q := 1) dX6_has_0 rfl rfl rfl ?_
  refine go_if_lt (q := 4) (t := 22) dX6_has_1 (by decide) rfl (fun c_1 => ?_) (fun c_1 => ?_)
  · refine go_iconst (q := 23) (v := 0) dX6_has_22 (by decide) rfl ?_
    exact go_rz dX6_has_23 rfl (k_hasF hR.le (by first | exact Or.inl (by assumption) | exact Or.inr (Or.inl (by assumption)) | exact Or.inr (Or.inr (by assumption)))) rfl
  · refine go_iload_n (q := 5) dX6_has_4 rfl rfl rfl ?_
    refine go_aload_n (q := 6) dX6_has_5 rfl rfl rfl ?_
    refine go_getf (q := 9) dX6_has_6 fRX6_28 rfl hi rfl rfl ?_
    refine go_topi hR.sz ?_
    refine go_icmp_ge (q := 12) (t := 22) dX6_has_9 (by decide) rfl (fun c_9 => ?_) (fun c_9 => ?_)
    · refine go_iconst (q := 23) (v := 0) dX6_has_22 (by decide) rfl ?_
      exact go_rz dX6_has_23 rfl (k_hasF hR.le (by first | exact Or.inl (by assumption) | exact Or.inr (Or.inl (by assumption)) | exact Or.inr (Or.inr (by assumption)))) rfl
    · refine go_iload_n (q := 13) dX6_has_12 rfl rfl rfl ?_
      refine go_bipush (q := 15) (v := 20) dX6_has_13 (by decide) rfl ?_
      refine go_icmp_ge (q := 18) (t := 22) dX6_has_15 (by decide) rfl (fun c_15 => ?_) (fun c_15 => ?_)
      · refine go_iconst (q := 23) (v := 0) dX6_has_22 (by decide) rfl ?_
        exact go_rz dX6_has_23 rfl (k_hasF hR.le (by first | exact Or.inl (by assumption) | exact Or.inr (Or.inl (by assumption)) | exact Or.inr (Or.inr (by assumption)))) rfl
      · refine go_iconst (q := 19) (v := 1) dX6_has_18 (by decide) rfl ?_
        refine go_goto (q := 23) dX6_has_19 (by decide) ?_
        exact go_rz dX6_has_23 rfl (k_hasT hR.le (by assumption) (by assumption)) rfl
theorem ok_shieldOf {M : KM} {i : Nat} {R : RO} (hi : i < 8) (hR : RA M i R) (x : Int32) : OkF mX6_shieldOf [vR 1 i, vI x] M (some (vI (nI (oS R (pOf (rN R) x))))) M := by
  refine ok_of (by decide) rfl (Nat.le_of_ble_eq_true rfl) ⟨rfl, rfl⟩ ?_
  show Go mX6_shieldOf (Zm (QF (some (vI (nI (oS R (pOf (rN R) x))))) M)) M [some (vR 1 i), some (vI x)] [] 0
  refine go_aload_n (q := 1) dX6_shieldOf_0 rfl rfl rfl ?_
  refine go_iload_n (q := 2) dX6_shieldOf_1 rfl rfl rfl ?_
  refine go_cV1 (cal := mX6_has) (q := 5) dX6_shieldOf_2 lRX6_38 vX6_has ⟨by decide, by decide⟩ rfl hi (Nat.le_of_ble_eq_true rfl) (ok_has hi hR _) rfl ?_
  refine go_if_eqB (q := 8) (t := 17) dX6_shieldOf_5 (by decide) rfl (fun c_5 => ?_) (fun c_5 => ?_)
  · refine go_iconst (q := 18) (v := 0) dX6_shieldOf_17 (by decide) rfl ?_
    exact go_ri dX6_shieldOf_18 rfl (by rw [Option.isSome_eq_false_iff, Option.isNone_iff_eq_none] at c_5; rw [c_5]; rfl) rfl
  · obtain ⟨p, hp⟩ := Option.isSome_iff_exists.mp c_5
    obtain ⟨hlt, rfl⟩ := pOf_some hp
    refine go_aload_n (q := 9) dX6_shieldOf_8 rfl rfl rfl ?_
    refine go_getf (q := 12) dX6_shieldOf_9 fRX6_9 rfl hi rfl rfl ?_
    refine go_iload_n (q := 13) dX6_shieldOf_12 rfl rfl rfl ?_
    refine go_iald (q := 14) p dX6_shieldOf_13 rfl rfl hi rfl (hR.lt hlt) rfl ?_
    refine go_goto (q := 18) dX6_shieldOf_14 (by decide) ?_
    exact go_ri dX6_shieldOf_18 rfl (by rw [hp]; exact hR.sh hlt) rfl
theorem ok_fatherOf {M : KM} {i : Nat} {R : RO} (hi : i < 8) (hR : RA M i R) (x : Int32) : OkF mX6_fatherOf [vR 1 i, vI x] M (some (vI (e1 (oP R (pOf (rN R) x))))) M := by
  refine ok_of (by decide) rfl (Nat.le_of_ble_eq_true rfl) ⟨rfl, rfl⟩ ?_
  show Go mX6_fatherOf (Zm (QF (some (vI (e1 (oP R (pOf (rN R) x))))) M)) M [some (vR 1 i), some (vI x)] [] 0
  refine go_aload_n (q := 1) dX6_fatherOf_0 rfl rfl rfl ?_
  refine go_iload_n (q := 2) dX6_fatherOf_1 rfl rfl rfl ?_
  refine go_cV1 (cal := mX6_has) (q := 5) dX6_fatherOf_2 lRX6_38 vX6_has ⟨by decide, by decide⟩ rfl hi (Nat.le_of_ble_eq_true rfl) (ok_has hi hR _) rfl ?_
  refine go_if_eqB (q := 8) (t := 17) dX6_fatherOf_5 (by decide) rfl (fun c_5 => ?_) (fun c_5 => ?_)
  · refine go_iconst (q := 18) (v := (-1)) dX6_fatherOf_17 (by decide) rfl ?_
    exact go_ri dX6_fatherOf_18 rfl (by rw [Option.isSome_eq_false_iff, Option.isNone_iff_eq_none] at c_5; rw [c_5]; rfl) rfl
  · obtain ⟨p, hp⟩ := Option.isSome_iff_exists.mp c_5
    obtain ⟨hlt, rfl⟩ := pOf_some hp
    refine go_aload_n (q := 9) dX6_fatherOf_8 rfl rfl rfl ?_
    refine go_getf (q := 12) dX6_fatherOf_9 fRX6_19 rfl hi rfl rfl ?_
    refine go_iload_n (q := 13) dX6_fatherOf_12 rfl rfl rfl ?_
    refine go_iald (q := 14) p dX6_fatherOf_13 rfl rfl hi rfl (hR.lt hlt) rfl ?_
    refine go_goto (q := 18) dX6_fatherOf_14 (by decide) ?_
    exact go_ri dX6_fatherOf_18 rfl (by rw [hp]; exact hR.fa hlt) rfl
theorem ok_birthPlaceOf {M : KM} {i : Nat} {R : RO} (hi : i < 8) (hR : RA M i R) (x : Int32) : OkF mX6_birthPlaceOf [vR 1 i, vI x] M (some (vI (e1 (oK R (pOf (rN R) x))))) M := by
  refine ok_of (by decide) rfl (Nat.le_of_ble_eq_true rfl) ⟨rfl, rfl⟩ ?_
  show Go mX6_birthPlaceOf (Zm (QF (some (vI (e1 (oK R (pOf (rN R) x))))) M)) M [some (vR 1 i), some (vI x)] [] 0
  refine go_aload_n (q := 1) dX6_birthPlaceOf_0 rfl rfl rfl ?_
  refine go_iload_n (q := 2) dX6_birthPlaceOf_1 rfl rfl rfl ?_
  refine go_cV1 (cal := mX6_has) (q := 5) dX6_birthPlaceOf_2 lRX6_38 vX6_has ⟨by decide, by decide⟩ rfl hi (Nat.le_of_ble_eq_true rfl) (ok_has hi hR _) rfl ?_
  refine go_if_eqB (q := 8) (t := 17) dX6_birthPlaceOf_5 (by decide) rfl (fun c_5 => ?_) (fun c_5 => ?_)
  · refine go_iconst (q := 18) (v := (-1)) dX6_birthPlaceOf_17 (by decide) rfl ?_
    exact go_ri dX6_birthPlaceOf_18 rfl (by rw [Option.isSome_eq_false_iff, Option.isNone_iff_eq_none] at c_5; rw [c_5]; rfl) rfl
  · obtain ⟨p, hp⟩ := Option.isSome_iff_exists.mp c_5
    obtain ⟨hlt, rfl⟩ := pOf_some hp
    refine go_aload_n (q := 9) dX6_birthPlaceOf_8 rfl rfl rfl ?_
    refine go_getf (q := 12) dX6_birthPlaceOf_9 fRX6_22 rfl hi rfl rfl ?_
    refine go_iload_n (q := 13) dX6_birthPlaceOf_12 rfl rfl rfl ?_
    refine go_iald (q := 14) p dX6_birthPlaceOf_13 rfl rfl hi rfl (hR.lt hlt) rfl ?_
    refine go_goto (q := 18) dX6_birthPlaceOf_14 (by decide) ?_
    exact go_ri dX6_birthPlaceOf_18 rfl (by rw [hp]; exact hR.pl hlt) rfl
theorem ok_birthMarkOf {M : KM} {i : Nat} {R : RO} (hi : i < 8) (hR : RA M i R) (x : Int32) : OkF mX6_birthMarkOf [vR 1 i, vI x] M (some (vI (e1 (oM R (pOf (rN R) x))))) M := by
  refine ok_of (by decide) rfl (Nat.le_of_ble_eq_true rfl) ⟨rfl, rfl⟩ ?_
  show Go mX6_birthMarkOf (Zm (QF (some (vI (e1 (oM R (pOf (rN R) x))))) M)) M [some (vR 1 i), some (vI x)] [] 0
  refine go_aload_n (q := 1) dX6_birthMarkOf_0 rfl rfl rfl ?_
  refine go_iload_n (q := 2) dX6_birthMarkOf_1 rfl rfl rfl ?_
  refine go_cV1 (cal := mX6_has) (q := 5) dX6_birthMarkOf_2 lRX6_38 vX6_has ⟨by decide, by decide⟩ rfl hi (Nat.le_of_ble_eq_true rfl) (ok_has hi hR _) rfl ?_
  refine go_if_eqB (q := 8) (t := 17) dX6_birthMarkOf_5 (by decide) rfl (fun c_5 => ?_) (fun c_5 => ?_)
  · refine go_iconst (q := 18) (v := (-1)) dX6_birthMarkOf_17 (by decide) rfl ?_
    exact go_ri dX6_birthMarkOf_18 rfl (by rw [Option.isSome_eq_false_iff, Option.isNone_iff_eq_none] at c_5; rw [c_5]; rfl) rfl
  · obtain ⟨p, hp⟩ := Option.isSome_iff_exists.mp c_5
    obtain ⟨hlt, rfl⟩ := pOf_some hp
    refine go_aload_n (q := 9) dX6_birthMarkOf_8 rfl rfl rfl ?_
    refine go_getf (q := 12) dX6_birthMarkOf_9 fRX6_25 rfl hi rfl rfl ?_
    refine go_iload_n (q := 13) dX6_birthMarkOf_12 rfl rfl rfl ?_
    refine go_iald (q := 14) p dX6_birthMarkOf_13 rfl rfl hi rfl (hR.lt hlt) rfl ?_
    refine go_goto (q := 18) dX6_birthMarkOf_14 (by decide) ?_
    exact go_ri dX6_birthMarkOf_18 rfl (by rw [hp]; exact hR.mk hlt) rfl
theorem ok_isAlive {M : KM} {i : Nat} {R : RO} (hi : i < 8) (hR : RA M i R) (x : Int32) : OkF mX6_isAlive [vR 1 i, vI x] M (some (vI (bI (oL R (pOf (rN R) x))))) M := by
  refine ok_of (by decide) rfl (Nat.le_of_ble_eq_true rfl) ⟨rfl, rfl⟩ ?_
  show Go mX6_isAlive (Zm (QF (some (vI (bI (oL R (pOf (rN R) x))))) M)) M [some (vR 1 i), some (vI x)] [] 0
  refine go_aload_n (q := 1) dX6_isAlive_0 rfl rfl rfl ?_
  refine go_iload_n (q := 2) dX6_isAlive_1 rfl rfl rfl ?_
  refine go_cV1 (cal := mX6_has) (q := 5) dX6_isAlive_2 lRX6_38 vX6_has ⟨by decide, by decide⟩ rfl hi (Nat.le_of_ble_eq_true rfl) (ok_has hi hR _) rfl ?_
  refine go_if_eqB (q := 8) (t := 21) dX6_isAlive_5 (by decide) rfl (fun c_5 => ?_) (fun c_5 => ?_)
  · refine go_iconst (q := 22) (v := 0) dX6_isAlive_21 (by decide) rfl ?_
    exact go_rz dX6_isAlive_22 rfl (by rw [Option.isSome_eq_false_iff, Option.isNone_iff_eq_none] at c_5; rw [c_5]; rfl) rfl
  · obtain ⟨p, hp⟩ := Option.isSome_iff_exists.mp c_5
    obtain ⟨hlt, rfl⟩ := pOf_some hp
    refine go_aload_n (q := 9) dX6_isAlive_8 rfl rfl rfl ?_
    refine go_getf (q := 12) dX6_isAlive_9 fRX6_15 rfl hi rfl rfl ?_
    refine go_iload_n (q := 13) dX6_isAlive_12 rfl rfl rfl ?_
    refine go_zald (q := 14) p dX6_isAlive_13 hi rfl (hR.lt hlt) rfl ?_
    refine go_topi (hR.al hlt) ?_
    refine go_if_eqB (q := 17) (t := 21) dX6_isAlive_14 (by decide) rfl (fun c_14 => ?_) (fun c_14 => ?_)
    · refine go_iconst (q := 22) (v := 0) dX6_isAlive_21 (by decide) rfl ?_
      exact go_rz dX6_isAlive_22 rfl (by rw [hp]; show _ = bI (rL R p); rw [c_14]; rfl) rfl
    · refine go_iconst (q := 18) (v := 1) dX6_isAlive_17 (by decide) rfl ?_
      refine go_goto (q := 22) dX6_isAlive_18 (by decide) ?_
      exact go_rz dX6_isAlive_22 rfl (by rw [hp]; show _ = bI (rL R p); rw [c_14]; rfl) rfl
theorem pOf_at {M : KM} {i : Nat} {R : RO} (hR : RA M i R) {j : Nat} (hj : j < rN R) : pOf (rN R) (nI j) = some j := pOf_nI hj (by have := hR.le; omega)
theorem lp_living {M : KM} {i : Nat} {R : RO} (hi : i < 8) (hR : RA M i R) : ∀ (d : Nat) (j : Nat) (x y : Int32), rN R - j < d → (x = nI (cn (rL R) j)) → (y = nI j) → (j ≤ rN R) → Go mX6_living (Zm (QF (some (vI (nI (cn (rL R) (rN R))))) M)) M [some (vR 1 i), some (vI x), some (vI y)] [] 4 := by
  intro d
  induction d with
  | zero => intro j x y hd; exact absurd hd (Nat.not_lt_zero _)
  | succ d ih =>
    intro j x y hd h0 h1 h2
    refine go_iload_n (q := 5) dX6_living_4 rfl rfl rfl ?_
    refine go_aload_n (q := 6) dX6_living_5 rfl rfl rfl ?_
    refine go_getf (q := 9) dX6_living_6 fRX6_28 rfl hi rfl rfl ?_
    refine go_topi hR.sz ?_
    refine go_icmp_geN j (rN R) (q := 12) (t := 29) dX6_living_9 (by decide) rfl h1 rfl (by have := hR.le; omega) (by have := hR.le; omega) (fun c_9 => ?_) (fun c_9 => ?_)
    · refine go_iload_n (q := 30) dX6_living_29 rfl rfl rfl ?_
      exact go_ri dX6_living_30 rfl (by rw [h0, show j = rN R by omega]) rfl
    · subst h1
      refine go_aload_n (q := 13) dX6_living_12 rfl rfl rfl ?_
      refine go_iload_n (q := 14) dX6_living_13 rfl rfl rfl ?_
      refine go_cV1 (cal := mX6_isAlive) (q := 17) dX6_living_14 lRX6_42 vX6_isAlive ⟨by decide, by decide⟩ rfl hi (Nat.le_of_ble_eq_true rfl) (ok_isAlive hi hR _) rfl ?_
      refine go_if_eqB (q := 20) (t := 23) dX6_living_17 (by decide) rfl (fun c_17 => ?_) (fun c_17 => ?_)
      · rw [pOf_at hR c_9, oL_some] at c_17
        refine go_iinc (q := 26) (v := 1) dX6_living_23 (by decide) rfl (by decide) rfl rfl ?_
        refine go_goto (q := 4) dX6_living_26 (by decide) ?_
        exact ih (j + 1) _ _ (by omega) (by rw [h0, cn_f c_17]) (nI_1 j) (by omega)
      · rw [pOf_at hR c_9, oL_some] at c_17
        refine go_iinc (q := 23) (v := 1) dX6_living_20 (by decide) rfl (by decide) rfl rfl ?_
        refine go_iinc (q := 26) (v := 1) dX6_living_23 (by decide) rfl (by decide) rfl rfl ?_
        refine go_goto (q := 4) dX6_living_26 (by decide) ?_
        exact ih (j + 1) _ _ (by omega) (by rw [h0, cn_t c_17, nI_1]) (nI_1 j) (by omega)
theorem ok_living {M : KM} {i : Nat} {R : RO} (hi : i < 8) (hR : RA M i R) : OkF mX6_living [vR 1 i] M (some (vI (nI (cn (rL R) (rN R))))) M := by
  refine ok_of (by decide) rfl (Nat.le_of_ble_eq_true rfl) ⟨rfl, rfl⟩ ?_
  show Go mX6_living (Zm (QF (some (vI (nI (cn (rL R) (rN R))))) M)) M [some (vR 1 i), none, none] [] 0
  refine go_iconst (q := 1) (v := 0) dX6_living_0 (by decide) rfl ?_
  refine go_istore_n (q := 2) dX6_living_1 rfl (by decide) rfl rfl ?_
  refine go_iconst (q := 3) (v := 0) dX6_living_2 (by decide) rfl ?_
  refine go_istore_n (q := 4) dX6_living_3 rfl (by decide) rfl rfl ?_
  exact lp_living hi hR (rN R + 1) 0 _ _ (by omega) rfl rfl (by omega)
theorem oP_some {R : RO} {p : Nat} : oP R (some p) = rP R p := rfl
theorem oK_some {R : RO} {p : Nat} : oK R (some p) = rK R p := rfl
theorem oM_some {R : RO} {p : Nat} : oM R (some p) = rM R p := rfl
theorem oS_some {R : RO} {p : Nat} : oS R (some p) = rS R p := rfl
/-- the living person who bears a shield (the first one) -/
def bear (R : RO) (s : Nat) : Option Nat := fst1 (fun p => rL R p && rS R p == s) (rN R)
theorem lp_livingWith {M : KM} {i : Nat} {R : RO} (hi : i < 8) (hR : RA M i R) (hW : rW R) {s : Nat} (hs : s < 2 ^ 31) : ∀ (d : Nat) (j : Nat) (y : Int32), rN R - j < d → (∀ a, a < j → (rL R a && rS R a == s) = false) → (y = nI j) → (j ≤ rN R) → Go mX6_livingWith (Zm (QF (some (vI (e1 (bear R s)))) M)) M [some (vR 1 i), some (vI (nI s)), some (vI y)] [] 2 := by
  intro d
  induction d with
  | zero => intro j y hd; exact absurd hd (Nat.not_lt_zero _)
  | succ d ih =>
    intro j y hd h0 h1 h2
    refine go_iload_n (q := 3) dX6_livingWith_2 rfl rfl rfl ?_
    refine go_aload_n (q := 4) dX6_livingWith_3 rfl rfl rfl ?_
    refine go_getf (q := 7) dX6_livingWith_4 fRX6_28 rfl hi rfl rfl ?_
    refine go_topi hR.sz ?_
    refine go_icmp_geN j (rN R) (q := 10) (t := 43) dX6_livingWith_7 (by decide) rfl h1 rfl (by have := hR.le; omega) (by have := hR.le; omega) (fun c_7 => ?_) (fun c_7 => ?_)
    · refine go_iconst (q := 44) (v := (-1)) dX6_livingWith_43 (by decide) rfl ?_
      exact go_ri dX6_livingWith_44 rfl (by rw [show bear R s = none from fst1_none.mpr (fun a ha => h0 a (by omega))]; rfl) rfl
    · subst h1
      refine go_iload_n (q := 11) dX6_livingWith_10 rfl rfl rfl ?_
      refine go_bipush (q := 13) (v := 20) dX6_livingWith_11 (by decide) rfl ?_
      refine go_icmp_geN j 20 (q := 16) (t := 43) dX6_livingWith_13 (by decide) rfl rfl rfl (by have := hR.le; omega) (by omega) (fun c_13 => ?_) (fun c_13 => ?_)
      · have := hR.le; omega
      · refine go_aload_n (q := 17) dX6_livingWith_16 rfl rfl rfl ?_
        refine go_getf (q := 20) dX6_livingWith_17 fRX6_15 rfl hi rfl rfl ?_
        refine go_iload_n (q := 21) dX6_livingWith_20 rfl rfl rfl ?_
        refine go_zald (q := 22) j dX6_livingWith_21 hi rfl (hR.lt c_7) rfl ?_
        refine go_topi (hR.al c_7) ?_
        refine go_if_eqB (q := 25) (t := 37) dX6_livingWith_22 (by decide) rfl (fun c_22 => ?_) (fun c_22 => ?_)
        · refine go_iinc (q := 40) (v := 1) dX6_livingWith_37 (by decide) rfl (by decide) rfl rfl ?_
          refine go_goto (q := 2) dX6_livingWith_40 (by decide) ?_
          exact ih (j + 1) _ (by omega) (fun a ha => by
            by_cases hj : a = j
            · subst hj; simp [c_22]
            · exact h0 a (by omega)) (nI_1 j) (by omega)
        · refine go_aload_n (q := 26) dX6_livingWith_25 rfl rfl rfl ?_
          refine go_getf (q := 29) dX6_livingWith_26 fRX6_9 rfl hi rfl rfl ?_
          refine go_iload_n (q := 30) dX6_livingWith_29 rfl rfl rfl ?_
          refine go_iald (q := 31) j dX6_livingWith_30 rfl rfl hi rfl (hR.lt c_7) rfl ?_
          refine go_topi (hR.sh c_7) ?_
          refine go_iload_n (q := 32) dX6_livingWith_31 rfl rfl rfl ?_
          refine go_icmp_neN (rS R j) s (q := 35) (t := 37) dX6_livingWith_32 (by decide) rfl rfl rfl (by have := hW.2.1 j c_7; omega) hs (fun c_32 => ?_) (fun c_32 => ?_)
          · refine go_iinc (q := 40) (v := 1) dX6_livingWith_37 (by decide) rfl (by decide) rfl rfl ?_
            refine go_goto (q := 2) dX6_livingWith_40 (by decide) ?_
            exact ih (j + 1) _ (by omega) (fun a ha => by
              by_cases hj : a = j
              · subst hj; simp [c_32]
              · exact h0 a (by omega)) (nI_1 j) (by omega)
          · refine go_iload_n (q := 36) dX6_livingWith_35 rfl rfl rfl ?_
            exact go_ri dX6_livingWith_36 rfl (by rw [show bear R s = some j from fst1_some.mpr ⟨c_7, by simp [c_22, c_32], h0⟩]; rfl) rfl
theorem ok_livingWith {M : KM} {i : Nat} {R : RO} (hi : i < 8) (hR : RA M i R) (hW : rW R) {s : Nat} (hs : s < 2 ^ 31) : OkF mX6_livingWith [vR 1 i, vI (nI s)] M (some (vI (e1 (bear R s)))) M := by
  refine ok_of (by decide) rfl (Nat.le_of_ble_eq_true rfl) ⟨rfl, rfl⟩ ?_
  show Go mX6_livingWith (Zm (QF (some (vI (e1 (bear R s)))) M)) M [some (vR 1 i), some (vI (nI s)), none] [] 0
  refine go_iconst (q := 1) (v := 0) dX6_livingWith_0 (by decide) rfl ?_
  refine go_istore_n (q := 2) dX6_livingWith_1 rfl (by decide) rfl rfl ?_
  exact lp_livingWith hi hR hW hs (rN R + 1) 0 _ (by omega) (fun a ha => absurd ha (Nat.not_lt_zero _)) rfl (by omega)
/-- how many sons -/
def sonsN (R : RO) (f : Nat) : Nat := cn (fun i => rP R i == some f) (rN R)
theorem e1_nI {o : Option Nat} {f : Nat} (h : ∀ k, o = some k → k < 2 ^ 31) (hf : f < 2 ^ 31) : e1 o = nI f ↔ o = some f := by
  cases o with
  | none =>
    simp only [e1, reduceCtorEq, iff_false]
    exact fun z => nI_neg hf (by decide) z.symm
  | some k => simp only [e1, nI_eq (h k rfl) hf, Option.some.injEq]
theorem rP_big {R : RO} {p : Nat} (hW : rW R) (hp : p < rN R) : ∀ k, rP R p = some k → k < 2 ^ 31 := fun k h => by
  have := rP_n hW hp k h
  have := hW.1
  omega
theorem rK_big {R : RO} {p : Nat} (hW : rW R) (hp : p < rN R) : ∀ k, rK R p = some k → k < 2 ^ 31 := fun k h => by
  have := rK_lt hW hp k h
  omega
theorem lp_sonsOf {M : KM} {i : Nat} {R : RO} (hi : i < 8) (hR : RA M i R) (hW : rW R) {f : Nat} (hf : f < 2 ^ 31) : ∀ (d : Nat) (j : Nat) (x y : Int32), rN R - j < d → (x = nI (cn (fun i => rP R i == some f) j)) → (y = nI j) → (j ≤ rN R) → Go mX6_sonsOf (Zm (QF (some (vI (nI (sonsN R f)))) M)) M [some (vR 1 i), some (vI (nI f)), some (vI x), some (vI y)] [] 4 := by
  intro d
  induction d with
  | zero => intro j x y hd; exact absurd hd (Nat.not_lt_zero _)
  | succ d ih =>
    intro j x y hd h0 h1 h2
    refine go_iload_n (q := 5) dX6_sonsOf_4 rfl rfl rfl ?_
    refine go_aload_n (q := 6) dX6_sonsOf_5 rfl rfl rfl ?_
    refine go_getf (q := 9) dX6_sonsOf_6 fRX6_28 rfl hi rfl rfl ?_
    refine go_topi hR.sz ?_
    refine go_icmp_geN j (rN R) (q := 12) (t := 30) dX6_sonsOf_9 (by decide) rfl h1 rfl (by have := hR.le; omega) (by have := hR.le; omega) (fun c_9 => ?_) (fun c_9 => ?_)
    · refine go_iload_n (q := 31) dX6_sonsOf_30 rfl rfl rfl ?_
      exact go_ri dX6_sonsOf_31 rfl (by rw [h0, show j = rN R by omega]; rfl) rfl
    · subst h1
      refine go_aload_n (q := 13) dX6_sonsOf_12 rfl rfl rfl ?_
      refine go_iload_n (q := 14) dX6_sonsOf_13 rfl rfl rfl ?_
      refine go_cV1 (cal := mX6_fatherOf) (q := 17) dX6_sonsOf_14 lRX6_45 vX6_fatherOf ⟨by decide, by decide⟩ rfl hi (Nat.le_of_ble_eq_true rfl) (ok_fatherOf hi hR _) rfl ?_
      refine go_iload_n (q := 18) dX6_sonsOf_17 rfl rfl rfl ?_
      rw [pOf_at hR c_9, oP_some]
      refine go_icmp_ne (q := 21) (t := 24) dX6_sonsOf_18 (by decide) rfl (fun c_18 => ?_) (fun c_18 => ?_)
      · refine go_iinc (q := 27) (v := 1) dX6_sonsOf_24 (by decide) rfl (by decide) rfl rfl ?_
        refine go_goto (q := 4) dX6_sonsOf_27 (by decide) ?_
        exact ih (j + 1) _ _ (by omega) (by rw [h0, cn_f (by simpa using fun z => c_18 ((e1_nI (rP_big hW c_9) hf).mpr z))]) (nI_1 j) (by omega)
      · refine go_iinc (q := 24) (v := 1) dX6_sonsOf_21 (by decide) rfl (by decide) rfl rfl ?_
        refine go_iinc (q := 27) (v := 1) dX6_sonsOf_24 (by decide) rfl (by decide) rfl rfl ?_
        refine go_goto (q := 4) dX6_sonsOf_27 (by decide) ?_
        exact ih (j + 1) _ _ (by omega) (by rw [h0, cn_t (by simpa using (e1_nI (rP_big hW c_9) hf).mp (Classical.not_not.mp c_18)), nI_1]) (nI_1 j) (by omega)
theorem ok_sonsOf {M : KM} {i : Nat} {R : RO} (hi : i < 8) (hR : RA M i R) (hW : rW R) {f : Nat} (hf : f < 2 ^ 31) : OkF mX6_sonsOf [vR 1 i, vI (nI f)] M (some (vI (nI (sonsN R f)))) M := by
  refine ok_of (by decide) rfl (Nat.le_of_ble_eq_true rfl) ⟨rfl, rfl⟩ ?_
  show Go mX6_sonsOf (Zm (QF (some (vI (nI (sonsN R f)))) M)) M [some (vR 1 i), some (vI (nI f)), none, none] [] 0
  refine go_iconst (q := 1) (v := 0) dX6_sonsOf_0 (by decide) rfl ?_
  refine go_istore_n (q := 2) dX6_sonsOf_1 rfl (by decide) rfl rfl ?_
  refine go_iconst (q := 3) (v := 0) dX6_sonsOf_2 (by decide) rfl ?_
  refine go_istore_n (q := 4) dX6_sonsOf_3 rfl (by decide) rfl rfl ?_
  exact lp_sonsOf hi hR hW hf (rN R + 1) 0 _ _ (by omega) rfl rfl (by omega)
theorem e1_inj {a b : Option Nat} (ha : ∀ k, a = some k → k < 2 ^ 31) (hb : ∀ k, b = some k → k < 2 ^ 31) (h : e1 a = e1 b) : a = b := by
  cases b with
  | none => exact (e1_eq ha).mp h
  | some k => exact (e1_nI ha (hb k rfl)).mp h
theorem ok_areBrothers {M : KM} {i : Nat} {R : RO} (hi : i < 8) (hR : RA M i R) (hW : rW R) (x y : Int32) : OkF mX6_areBrothers [vR 1 i, vI x, vI y] M (some (vI (bI (br R (pOf (rN R) x) (pOf (rN R) y))))) M := by
  refine ok_of (by decide) rfl (Nat.le_of_ble_eq_true rfl) ⟨rfl, rfl⟩ ?_
  show Go mX6_areBrothers (Zm (QF (some (vI (bI (br R (pOf (rN R) x) (pOf (rN R) y))))) M)) M [some (vR 1 i), some (vI x), some (vI y)] [] 0
  refine go_aload_n (q := 1) dX6_areBrothers_0 rfl rfl rfl ?_
  refine go_iload_n (q := 2) dX6_areBrothers_1 rfl rfl rfl ?_
  refine go_cV1 (cal := mX6_has) (q := 5) dX6_areBrothers_2 lRX6_38 vX6_has ⟨by decide, by decide⟩ rfl hi (Nat.le_of_ble_eq_true rfl) (ok_has hi hR _) rfl ?_
  refine go_if_eqB (q := 8) (t := 50) dX6_areBrothers_5 (by decide) rfl (fun c_5 => ?_) (fun c_5 => ?_)
  · refine go_iconst (q := 51) (v := 0) dX6_areBrothers_50 (by decide) rfl ?_
    exact go_rz dX6_areBrothers_51 rfl (by rw [Option.isSome_eq_false_iff, Option.isNone_iff_eq_none] at c_5; rw [c_5]; rfl) rfl
  · obtain ⟨p, hp⟩ := Option.isSome_iff_exists.mp c_5
    obtain ⟨hlt, rfl⟩ := pOf_some hp
    refine go_aload_n (q := 9) dX6_areBrothers_8 rfl rfl rfl ?_
    refine go_iload_n (q := 10) dX6_areBrothers_9 rfl rfl rfl ?_
    refine go_cV1 (cal := mX6_has) (q := 13) dX6_areBrothers_10 lRX6_38 vX6_has ⟨by decide, by decide⟩ rfl hi (Nat.le_of_ble_eq_true rfl) (ok_has hi hR _) rfl ?_
    refine go_if_eqB (q := 16) (t := 50) dX6_areBrothers_13 (by decide) rfl (fun c_13 => ?_) (fun c_13 => ?_)
    · refine go_iconst (q := 51) (v := 0) dX6_areBrothers_50 (by decide) rfl ?_
      exact go_rz dX6_areBrothers_51 rfl (by rw [Option.isSome_eq_false_iff, Option.isNone_iff_eq_none] at c_13; rw [c_13]; cases pOf (rN R) _ <;> rfl) rfl
    · obtain ⟨p2, hp2⟩ := Option.isSome_iff_exists.mp c_13
      obtain ⟨hlt2, rfl⟩ := pOf_some hp2
      refine go_iload_n (q := 17) dX6_areBrothers_16 rfl rfl rfl ?_
      refine go_iload_n (q := 18) dX6_areBrothers_17 rfl rfl rfl ?_
      refine go_icmp_eqN p p2 (q := 21) (t := 50) dX6_areBrothers_18 (by decide) rfl rfl rfl (by have := hR.lt hlt; omega) (by have := hR.lt hlt2; omega) (fun c_18 => ?_) (fun c_18 => ?_)
      · refine go_iconst (q := 51) (v := 0) dX6_areBrothers_50 (by decide) rfl ?_
        exact go_rz dX6_areBrothers_51 rfl (by rw [hp, hp2]; simp [br, c_18, bI]) rfl
      · refine go_aload_n (q := 22) dX6_areBrothers_21 rfl rfl rfl ?_
        refine go_getf (q := 25) dX6_areBrothers_22 fRX6_19 rfl hi rfl rfl ?_
        refine go_iload_n (q := 26) dX6_areBrothers_25 rfl rfl rfl ?_
        refine go_iald (q := 27) p dX6_areBrothers_26 rfl rfl hi rfl (hR.lt hlt) rfl ?_
        refine go_topi (hR.fa hlt) ?_
        refine go_iconst (q := 28) (v := (-1)) dX6_areBrothers_27 (by decide) rfl ?_
        refine go_icmp_eq (q := 31) (t := 50) dX6_areBrothers_28 (by decide) rfl (fun c_28 => ?_) (fun c_28 => ?_)
        · refine go_iconst (q := 51) (v := 0) dX6_areBrothers_50 (by decide) rfl ?_
          exact go_rz dX6_areBrothers_51 rfl (by rw [hp, hp2]; simp [br, (e1_eq (rP_big hW hlt)).mp c_28, bI]) rfl
        · refine go_aload_n (q := 32) dX6_areBrothers_31 rfl rfl rfl ?_
          refine go_getf (q := 35) dX6_areBrothers_32 fRX6_19 rfl hi rfl rfl ?_
          refine go_iload_n (q := 36) dX6_areBrothers_35 rfl rfl rfl ?_
          refine go_iald (q := 37) p dX6_areBrothers_36 rfl rfl hi rfl (hR.lt hlt) rfl ?_
          refine go_topi (hR.fa hlt) ?_
          refine go_aload_n (q := 38) dX6_areBrothers_37 rfl rfl rfl ?_
          refine go_getf (q := 41) dX6_areBrothers_38 fRX6_19 rfl hi rfl rfl ?_
          refine go_iload_n (q := 42) dX6_areBrothers_41 rfl rfl rfl ?_
          refine go_iald (q := 43) p2 dX6_areBrothers_42 rfl rfl hi rfl (hR.lt hlt2) rfl ?_
          refine go_topi (hR.fa hlt2) ?_
          refine go_icmp_ne (q := 46) (t := 50) dX6_areBrothers_43 (by decide) rfl (fun c_43 => ?_) (fun c_43 => ?_)
          · refine go_iconst (q := 51) (v := 0) dX6_areBrothers_50 (by decide) rfl ?_
            exact go_rz dX6_areBrothers_51 rfl (by rw [hp, hp2]; have : ¬ rP R p = rP R p2 := fun z => c_43 (by rw [z]); simp [br, this, bI]) rfl
          · refine go_iconst (q := 47) (v := 1) dX6_areBrothers_46 (by decide) rfl ?_
            refine go_goto (q := 51) dX6_areBrothers_47 (by decide) ?_
            exact go_rz dX6_areBrothers_51 rfl (by rw [hp, hp2]; have h1 : ¬ rP R p = none := fun z => c_28 ((e1_eq (rP_big hW hlt)).mpr z); have h2 : rP R p = rP R p2 := e1_inj (rP_big hW hlt) (rP_big hW hlt2) (Classical.not_not.mp c_43); rw [h2] at h1; simp [br, c_18, h2, h1, bI]) rfl
/-- a living cousin of a son of f changed a mark at k -/
def cousB (R : RO) (f k : Nat) (p : Nat) : Bool := rL R p && (rK R p == some k && br R (rP R p) (some f))
def cous (R : RO) (f k : Nat) : Bool := ex (cousB R f k) (rN R)
theorem lp_cousinChanged {M : KM} {i : Nat} {R : RO} (hi : i < 8) (hR : RA M i R) (hW : rW R) {f k : Nat} (hf : f < rN R) (hk : k < 6) : ∀ (d : Nat) (j : Nat) (y : Int32), rN R - j < d → (∀ a, a < j → cousB R f k a = false) → (y = nI j) → (j ≤ rN R) → Go mX6_cousinChanged (Zm (QF (some (vI (bI (cous R f k)))) M)) M [some (vR 1 i), some (vI (nI f)), some (vI (nI k)), some (vI y)] [] 2 := by
  intro d
  induction d with
  | zero => intro j y hd; exact absurd hd (Nat.not_lt_zero _)
  | succ d ih =>
    intro j y hd h0 h1 h2
    refine go_iload_n (q := 3) dX6_cousinChanged_2 rfl rfl rfl ?_
    refine go_aload_n (q := 4) dX6_cousinChanged_3 rfl rfl rfl ?_
    refine go_getf (q := 7) dX6_cousinChanged_4 fRX6_28 rfl hi rfl rfl ?_
    refine go_topi hR.sz ?_
    refine go_icmp_geN j (rN R) (q := 10) (t := 48) dX6_cousinChanged_7 (by decide) rfl h1 rfl (by have := hR.le; omega) (by have := hR.le; omega) (fun c_7 => ?_) (fun c_7 => ?_)
    · refine go_iconst (q := 49) (v := 0) dX6_cousinChanged_48 (by decide) rfl ?_
      exact go_rz dX6_cousinChanged_49 rfl (by rw [show cous R f k = false from ex_f (fun a ha => h0 a (by omega))]; rfl) rfl
    · subst h1
      refine go_aload_n (q := 11) dX6_cousinChanged_10 rfl rfl rfl ?_
      refine go_iload_n (q := 12) dX6_cousinChanged_11 rfl rfl rfl ?_
      refine go_cV1 (cal := mX6_isAlive) (q := 15) dX6_cousinChanged_12 lRX6_42 vX6_isAlive ⟨by decide, by decide⟩ rfl hi (Nat.le_of_ble_eq_true rfl) (ok_isAlive hi hR _) rfl ?_
      refine go_if_eqB (q := 18) (t := 42) dX6_cousinChanged_15 (by decide) rfl (fun c_15 => ?_) (fun c_15 => ?_)
      · rw [pOf_at hR c_7, oL_some] at c_15
        refine go_iinc (q := 45) (v := 1) dX6_cousinChanged_42 (by decide) rfl (by decide) rfl rfl ?_
        refine go_goto (q := 2) dX6_cousinChanged_45 (by decide) ?_
        exact ih (j + 1) _ (by omega) (fun a ha => by
          by_cases hj : a = j
          · subst hj
            simp [cousB, c_15]
          · exact h0 a (by omega)) (nI_1 j) (by omega)
      · rw [pOf_at hR c_7, oL_some] at c_15
        refine go_aload_n (q := 19) dX6_cousinChanged_18 rfl rfl rfl ?_
        refine go_iload_n (q := 20) dX6_cousinChanged_19 rfl rfl rfl ?_
        refine go_cV1 (cal := mX6_birthPlaceOf) (q := 23) dX6_cousinChanged_20 lRX6_101 vX6_birthPlaceOf ⟨by decide, by decide⟩ rfl hi (Nat.le_of_ble_eq_true rfl) (ok_birthPlaceOf hi hR _) rfl ?_
        refine go_iload_n (q := 24) dX6_cousinChanged_23 rfl rfl rfl ?_
        rw [pOf_at hR c_7, oK_some]
        refine go_icmp_ne (q := 27) (t := 42) dX6_cousinChanged_24 (by decide) rfl (fun c_24 => ?_) (fun c_24 => ?_)
        · refine go_iinc (q := 45) (v := 1) dX6_cousinChanged_42 (by decide) rfl (by decide) rfl rfl ?_
          refine go_goto (q := 2) dX6_cousinChanged_45 (by decide) ?_
          exact ih (j + 1) _ (by omega) (fun a ha => by
            by_cases hj : a = j
            · subst hj
              have h : ¬ rK R a = some k := fun z => c_24 ((e1_nI (rK_big hW c_7) (by omega)).mpr z)
              simp [cousB, h]
            · exact h0 a (by omega)) (nI_1 j) (by omega)
        · refine go_aload_n (q := 28) dX6_cousinChanged_27 rfl rfl rfl ?_
          refine go_aload_n (q := 29) dX6_cousinChanged_28 rfl rfl rfl ?_
          refine go_iload_n (q := 30) dX6_cousinChanged_29 rfl rfl rfl ?_
          refine go_cV1 (cal := mX6_fatherOf) (q := 33) dX6_cousinChanged_30 lRX6_45 vX6_fatherOf ⟨by decide, by decide⟩ rfl hi (Nat.le_of_ble_eq_true rfl) (ok_fatherOf hi hR _) rfl ?_
          refine go_iload_n (q := 34) dX6_cousinChanged_33 rfl rfl rfl ?_
          rw [pOf_at hR c_7, oP_some]
          refine go_cV2 (cal := mX6_areBrothers) (q := 37) dX6_cousinChanged_34 lRX6_104 vX6_areBrothers ⟨by decide, by decide⟩ rfl hi (Nat.le_of_ble_eq_true rfl) (ok_areBrothers hi hR hW _ _) rfl ?_
          rw [pOf_e1 (rP_n hW c_7) (by have := hR.le; omega), pOf_at hR hf]
          refine go_if_eqB (q := 40) (t := 42) dX6_cousinChanged_37 (by decide) rfl (fun c_37 => ?_) (fun c_37 => ?_)
          · refine go_iinc (q := 45) (v := 1) dX6_cousinChanged_42 (by decide) rfl (by decide) rfl rfl ?_
            refine go_goto (q := 2) dX6_cousinChanged_45 (by decide) ?_
            exact ih (j + 1) _ (by omega) (fun a ha => by
              by_cases hj : a = j
              · subst hj
                simp [cousB, c_37]
              · exact h0 a (by omega)) (nI_1 j) (by omega)
          · refine go_iconst (q := 41) (v := 1) dX6_cousinChanged_40 (by decide) rfl ?_
            exact go_rz dX6_cousinChanged_41 rfl (by rw [show cous R f k = true from ex_t c_7 (by simp [cousB, c_15, c_37, (e1_nI (rK_big hW c_7) (by omega)).mp (Classical.not_not.mp c_24)])]; rfl) rfl
theorem ok_cousinChanged {M : KM} {i : Nat} {R : RO} (hi : i < 8) (hR : RA M i R) (hW : rW R) {f k : Nat} (hf : f < rN R) (hk : k < 6) : OkF mX6_cousinChanged [vR 1 i, vI (nI f), vI (nI k)] M (some (vI (bI (cous R f k)))) M := by
  refine ok_of (by decide) rfl (Nat.le_of_ble_eq_true rfl) ⟨rfl, rfl⟩ ?_
  show Go mX6_cousinChanged (Zm (QF (some (vI (bI (cous R f k)))) M)) M [some (vR 1 i), some (vI (nI f)), some (vI (nI k)), none] [] 0
  refine go_iconst (q := 1) (v := 0) dX6_cousinChanged_0 (by decide) rfl ?_
  refine go_istore_n (q := 2) dX6_cousinChanged_1 rfl (by decide) rfl rfl ?_
  exact lp_cousinChanged hi hR hW hf hk (rN R + 1) 0 _ (by omega) (fun a ha => absurd ha (Nat.not_lt_zero _)) rfl (by omega)
end
section
theorem wm_lt {a k m : Nat} (ha : a < 15625) (hk : k < 6) (hm : m < 5) : wm a k m < 15625 := by
  unfold wm mk
  rcases (show k = 0 ∨ k = 1 ∨ k = 2 ∨ k = 3 ∨ k = 4 ∨ k = 5 by omega) with rfl | rfl | rfl | rfl | rfl | rfl <;> simp only [Nat.reducePow] <;> omega
theorem bear_some {R : RO} {s p : Nat} : bear R s = some p → p < rN R ∧ rL R p = true ∧ rS R p = s := fun h => by
  obtain ⟨h1, h2, -⟩ := fst1_some.mp h
  simp only [Bool.and_eq_true, beq_iff_eq] at h2
  exact ⟨h1, h2.1, h2.2⟩
theorem bear_big {R : RO} {s : Nat} (hW : rW R) : ∀ k, bear R s = some k → k < 2 ^ 31 := fun k h => by
  have := (bear_some h).1
  have := hW.1
  omega
/-- why a son is not born: 0 if he is -/
def whyS (R : RO) (f k m : Nat) : Nat := if rL R f = false then 1 else if mk (rS R f) k = m then 2 else if ¬ bear R (wm (rS R f) k m) = none then 3 else if cous R f k = true then 4 else if 4 ≤ sonsN R f then 5 else 0
/-- an elder brother lives -/
def eldB (R : RO) (p : Nat) : Bool := ex (fun j => rL R j && br R (some j) (some p)) p
/-- why somebody does not become heir -/
def whyH (R : RO) (p : Nat) : Nat := match rP R p with
  | none => 7
  | some f => if rL R f = true then 7 else if eldB R p = true then 8 else if ¬ bear R (rS R f) = none then 3 else 0
theorem sonsN_le {R : RO} (hW : rW R) (f : Nat) : sonsN R f ≤ 4 := hW.2.2.2.1 f
theorem ok_reasonAgainstSon {M : KM} {i : Nat} {R : RO} (hi : i < 8) (hR : RA M i R) (hW : rW R) {f k m : Nat} (hf : f < rN R) (hk : k < 6) (hm : m < 5) : OkF mX6_reasonAgainstSon [vR 1 i, vI (nI f), vI (nI k), vI (nI m)] M (some (vI (nI (whyS R f k m)))) M := by
  refine ok_of (by decide) rfl (Nat.le_of_ble_eq_true rfl) ⟨rfl, rfl⟩ ?_
  show Go mX6_reasonAgainstSon (Zm (QF (some (vI (nI (whyS R f k m)))) M)) M [some (vR 1 i), some (vI (nI f)), some (vI (nI k)), some (vI (nI m))] [] 0
  refine go_aload_n (q := 1) dX6_reasonAgainstSon_0 rfl rfl rfl ?_
  refine go_iload_n (q := 2) dX6_reasonAgainstSon_1 rfl rfl rfl ?_
  refine go_cV1 (cal := mX6_isAlive) (q := 5) dX6_reasonAgainstSon_2 lRX6_42 vX6_isAlive ⟨by decide, by decide⟩ rfl hi (Nat.le_of_ble_eq_true rfl) (ok_isAlive hi hR _) rfl ?_
  refine go_if_neB (q := 8) (t := 10) dX6_reasonAgainstSon_5 (by decide) rfl (fun c_5 => ?_) (fun c_5 => ?_)
  · rw [pOf_at hR hf, oL_some] at c_5
    refine go_aload_n (q := 11) dX6_reasonAgainstSon_10 rfl rfl rfl ?_
    refine go_iload_n (q := 12) dX6_reasonAgainstSon_11 rfl rfl rfl ?_
    refine go_cV1 (cal := mX6_shieldOf) (q := 15) dX6_reasonAgainstSon_12 lRX6_74 vX6_shieldOf ⟨by decide, by decide⟩ rfl hi (Nat.le_of_ble_eq_true rfl) (ok_shieldOf hi hR _) rfl ?_
    rw [pOf_at hR hf, oS_some]
    refine go_iload_n (q := 16) dX6_reasonAgainstSon_15 rfl rfl rfl ?_
    refine go_cS2 (cal := mX8_markAt) (q := 19) dX6_reasonAgainstSon_16 lRX6_91 vX8_markAt ⟨by decide, by decide⟩ (Nat.le_of_ble_eq_true rfl) (ok_markAt (by have := hW.2.1 f hf; omega) hk) rfl ?_
    refine go_iload_n (q := 20) dX6_reasonAgainstSon_19 rfl rfl rfl ?_
    refine go_icmp_neN (mk (rS R f) k) m (q := 23) (t := 25) dX6_reasonAgainstSon_20 (by decide) rfl rfl rfl (by have := mk_lt (rS R f) k; omega) (by omega) (fun c_20 => ?_) (fun c_20 => ?_)
    · refine go_aload_n (q := 26) dX6_reasonAgainstSon_25 rfl rfl rfl ?_
      refine go_aload_n (q := 27) dX6_reasonAgainstSon_26 rfl rfl rfl ?_
      refine go_iload_n (q := 28) dX6_reasonAgainstSon_27 rfl rfl rfl ?_
      refine go_cV1 (cal := mX6_shieldOf) (q := 31) dX6_reasonAgainstSon_28 lRX6_74 vX6_shieldOf ⟨by decide, by decide⟩ rfl hi (Nat.le_of_ble_eq_true rfl) (ok_shieldOf hi hR _) rfl ?_
      rw [pOf_at hR hf, oS_some]
      refine go_iload_n (q := 32) dX6_reasonAgainstSon_31 rfl rfl rfl ?_
      refine go_iload_n (q := 33) dX6_reasonAgainstSon_32 rfl rfl rfl ?_
      refine go_cS3 (cal := mX8_withMark) (q := 36) dX6_reasonAgainstSon_33 lRX6_77 vX8_withMark ⟨by decide, by decide⟩ (Nat.le_of_ble_eq_true rfl) (ok_withMark (by have := hW.2.1 f hf; omega) hk) rfl ?_
      refine go_cV1 (cal := mX6_livingWith) (q := 39) dX6_reasonAgainstSon_36 lRX6_54 vX6_livingWith ⟨by decide, by decide⟩ rfl hi (Nat.le_of_ble_eq_true rfl) (ok_livingWith hi hR hW (by have := wm_lt (hW.2.1 f hf) hk hm; omega)) rfl ?_
      refine go_iconst (q := 40) (v := (-1)) dX6_reasonAgainstSon_39 (by decide) rfl ?_
      refine go_icmp_eq (q := 43) (t := 45) dX6_reasonAgainstSon_40 (by decide) rfl (fun c_40 => ?_) (fun c_40 => ?_)
      · have h40 : bear R (wm (rS R f) k m) = none := (e1_eq (bear_big hW)).mp c_40
        refine go_aload_n (q := 46) dX6_reasonAgainstSon_45 rfl rfl rfl ?_
        refine go_iload_n (q := 47) dX6_reasonAgainstSon_46 rfl rfl rfl ?_
        refine go_iload_n (q := 48) dX6_reasonAgainstSon_47 rfl rfl rfl ?_
        refine go_cV2 (cal := mX6_cousinChanged) (q := 51) dX6_reasonAgainstSon_48 lRX6_94 vX6_cousinChanged ⟨by decide, by decide⟩ rfl hi (Nat.le_of_ble_eq_true rfl) (ok_cousinChanged hi hR hW hf hk) rfl ?_
        refine go_if_eqB (q := 54) (t := 56) dX6_reasonAgainstSon_51 (by decide) rfl (fun c_51 => ?_) (fun c_51 => ?_)
        · refine go_aload_n (q := 57) dX6_reasonAgainstSon_56 rfl rfl rfl ?_
          refine go_iload_n (q := 58) dX6_reasonAgainstSon_57 rfl rfl rfl ?_
          refine go_cV1 (cal := mX6_sonsOf) (q := 61) dX6_reasonAgainstSon_58 lRX6_98 vX6_sonsOf ⟨by decide, by decide⟩ rfl hi (Nat.le_of_ble_eq_true rfl) (ok_sonsOf hi hR hW (by have := hR.lt hf; omega)) rfl ?_
          refine go_iconst (q := 62) (v := 4) dX6_reasonAgainstSon_61 (by decide) rfl ?_
          refine go_icmp_ltN (sonsN R f) 4 (q := 65) (t := 69) dX6_reasonAgainstSon_62 (by decide) rfl rfl rfl (by have := sonsN_le hW f; omega) (by omega) (fun c_62 => ?_) (fun c_62 => ?_)
          · refine go_iconst (q := 70) (v := 0) dX6_reasonAgainstSon_69 (by decide) rfl ?_
            exact go_ri dX6_reasonAgainstSon_70 rfl (by rw [show whyS R f k m = 0 by simp [whyS, c_5, c_20, h40, c_51, Nat.not_le.mpr c_62]]; rfl) rfl
          · refine go_iconst (q := 66) (v := 5) dX6_reasonAgainstSon_65 (by decide) rfl ?_
            refine go_goto (q := 70) dX6_reasonAgainstSon_66 (by decide) ?_
            exact go_ri dX6_reasonAgainstSon_70 rfl (by rw [show whyS R f k m = 5 by simp [whyS, c_5, c_20, h40, c_51, c_62]]; rfl) rfl
        · refine go_iconst (q := 55) (v := 4) dX6_reasonAgainstSon_54 (by decide) rfl ?_
          exact go_ri dX6_reasonAgainstSon_55 rfl (by rw [show whyS R f k m = 4 by simp [whyS, c_5, c_20, h40, c_51]]; rfl) rfl
      · have h40 : ¬ bear R (wm (rS R f) k m) = none := fun z => c_40 ((e1_eq (bear_big hW)).mpr z)
        refine go_iconst (q := 44) (v := 3) dX6_reasonAgainstSon_43 (by decide) rfl ?_
        exact go_ri dX6_reasonAgainstSon_44 rfl (by rw [show whyS R f k m = 3 by simp [whyS, c_5, c_20, h40]]; rfl) rfl
    · refine go_iconst (q := 24) (v := 2) dX6_reasonAgainstSon_23 (by decide) rfl ?_
      exact go_ri dX6_reasonAgainstSon_24 rfl (by rw [show whyS R f k m = 2 by simp [whyS, c_5, c_20]]; rfl) rfl
  · rw [pOf_at hR hf, oL_some] at c_5
    refine go_iconst (q := 9) (v := 1) dX6_reasonAgainstSon_8 (by decide) rfl ?_
    exact go_ri dX6_reasonAgainstSon_9 rfl (by rw [show whyS R f k m = 1 by simp [whyS, c_5]]; rfl) rfl
theorem lp_reasonAgainstHeir {M : KM} {i : Nat} {R : RO} (hi : i < 8) (hR : RA M i R) (hW : rW R) {p : Nat} (hp : p < rN R) {f : Nat} (hf : rP R p = some f) (hl : rL R f = false) : ∀ (d : Nat) (j : Nat) (y : Int32), p - j < d → (∀ a, a < j → (rL R a && br R (some a) (some p)) = false) → (y = nI j) → (j ≤ p) → Go mX6_reasonAgainstHeir (Zm (QF (some (vI (nI (whyH R p)))) M)) M [some (vR 1 i), some (vI (nI p)), some (vI (nI f)), some (vI y)] [] 24 := by
  intro d
  induction d with
  | zero => intro j y hd; exact absurd hd (Nat.not_lt_zero _)
  | succ d ih =>
    intro j y hd h0 h1 h2
    refine go_iload_n (q := 25) dX6_reasonAgainstHeir_24 rfl rfl rfl ?_
    refine go_iload_n (q := 26) dX6_reasonAgainstHeir_25 rfl rfl rfl ?_
    refine go_icmp_geN j p (q := 29) (t := 55) dX6_reasonAgainstHeir_26 (by decide) rfl h1 rfl (by have := hR.lt hp; omega) (by have := hR.lt hp; omega) (fun c_26 => ?_) (fun c_26 => ?_)
    · have hfn : f < rN R := rP_n hW hp f hf
      refine go_aload_n (q := 56) dX6_reasonAgainstHeir_55 rfl rfl rfl ?_
      refine go_aload_n (q := 57) dX6_reasonAgainstHeir_56 rfl rfl rfl ?_
      refine go_iload_n (q := 58) dX6_reasonAgainstHeir_57 rfl rfl rfl ?_
      refine go_cV1 (cal := mX6_shieldOf) (q := 61) dX6_reasonAgainstHeir_58 lRX6_74 vX6_shieldOf ⟨by decide, by decide⟩ rfl hi (Nat.le_of_ble_eq_true rfl) (ok_shieldOf hi hR _) rfl ?_
      rw [pOf_at hR hfn, oS_some]
      refine go_cV1 (cal := mX6_livingWith) (q := 64) dX6_reasonAgainstHeir_61 lRX6_54 vX6_livingWith ⟨by decide, by decide⟩ rfl hi (Nat.le_of_ble_eq_true rfl) (ok_livingWith hi hR hW (by have := hW.2.1 f hfn; omega)) rfl ?_
      refine go_iconst (q := 65) (v := (-1)) dX6_reasonAgainstHeir_64 (by decide) rfl ?_
      refine go_icmp_eq (q := 68) (t := 72) dX6_reasonAgainstHeir_65 (by decide) rfl (fun c_65 => ?_) (fun c_65 => ?_)
      · refine go_iconst (q := 73) (v := 0) dX6_reasonAgainstHeir_72 (by decide) rfl ?_
        exact go_ri dX6_reasonAgainstHeir_73 rfl (by have h65 : bear R (rS R f) = none := (e1_eq (bear_big hW)).mp c_65; rw [show whyH R p = 0 by simp [whyH, hf, hl, show eldB R p = false from (ex_f (fun a ha => h0 a (by omega))), h65]]; rfl) rfl
      · refine go_iconst (q := 69) (v := 3) dX6_reasonAgainstHeir_68 (by decide) rfl ?_
        refine go_goto (q := 73) dX6_reasonAgainstHeir_69 (by decide) ?_
        exact go_ri dX6_reasonAgainstHeir_73 rfl (by have h65 : ¬ bear R (rS R f) = none := fun z => c_65 ((e1_eq (bear_big hW)).mpr z); rw [show whyH R p = 3 by simp [whyH, hf, hl, show eldB R p = false from (ex_f (fun a ha => h0 a (by omega))), h65]]; rfl) rfl
    · subst h1
      have hjn : j < rN R := by omega
      refine go_aload_n (q := 30) dX6_reasonAgainstHeir_29 rfl rfl rfl ?_
      refine go_iload_n (q := 31) dX6_reasonAgainstHeir_30 rfl rfl rfl ?_
      refine go_cV1 (cal := mX6_isAlive) (q := 34) dX6_reasonAgainstHeir_31 lRX6_42 vX6_isAlive ⟨by decide, by decide⟩ rfl hi (Nat.le_of_ble_eq_true rfl) (ok_isAlive hi hR _) rfl ?_
      refine go_if_eqB (q := 37) (t := 49) dX6_reasonAgainstHeir_34 (by decide) rfl (fun c_34 => ?_) (fun c_34 => ?_)
      · rw [pOf_at hR hjn, oL_some] at c_34
        refine go_iinc (q := 52) (v := 1) dX6_reasonAgainstHeir_49 (by decide) rfl (by decide) rfl rfl ?_
        refine go_goto (q := 24) dX6_reasonAgainstHeir_52 (by decide) ?_
        exact ih (j + 1) _ (by omega) (fun a ha => by
          by_cases hj : a = j
          · subst hj; simp [c_34]
          · exact h0 a (by omega)) (nI_1 j) (by omega)
      · rw [pOf_at hR hjn, oL_some] at c_34
        refine go_aload_n (q := 38) dX6_reasonAgainstHeir_37 rfl rfl rfl ?_
        refine go_iload_n (q := 39) dX6_reasonAgainstHeir_38 rfl rfl rfl ?_
        refine go_iload_n (q := 40) dX6_reasonAgainstHeir_39 rfl rfl rfl ?_
        refine go_cV2 (cal := mX6_areBrothers) (q := 43) dX6_reasonAgainstHeir_40 lRX6_104 vX6_areBrothers ⟨by decide, by decide⟩ rfl hi (Nat.le_of_ble_eq_true rfl) (ok_areBrothers hi hR hW _ _) rfl ?_
        rw [pOf_at hR hjn, pOf_at hR hp]
        refine go_if_eqB (q := 46) (t := 49) dX6_reasonAgainstHeir_43 (by decide) rfl (fun c_43 => ?_) (fun c_43 => ?_)
        · refine go_iinc (q := 52) (v := 1) dX6_reasonAgainstHeir_49 (by decide) rfl (by decide) rfl rfl ?_
          refine go_goto (q := 24) dX6_reasonAgainstHeir_52 (by decide) ?_
          exact ih (j + 1) _ (by omega) (fun a ha => by
            by_cases hj : a = j
            · subst hj; simp [c_43]
            · exact h0 a (by omega)) (nI_1 j) (by omega)
        · refine go_bipush (q := 48) (v := 8) dX6_reasonAgainstHeir_46 (by decide) rfl ?_
          exact go_ri dX6_reasonAgainstHeir_48 rfl (by rw [show whyH R p = 8 by simp [whyH, hf, hl, show eldB R p = true from ex_t c_26 (by simp [c_34, c_43])]]; rfl) rfl
theorem ok_reasonAgainstHeir {M : KM} {i : Nat} {R : RO} (hi : i < 8) (hR : RA M i R) (hW : rW R) {p : Nat} (hp : p < rN R) : OkF mX6_reasonAgainstHeir [vR 1 i, vI (nI p)] M (some (vI (nI (whyH R p)))) M := by
  refine ok_of (by decide) rfl (Nat.le_of_ble_eq_true rfl) ⟨rfl, rfl⟩ ?_
  show Go mX6_reasonAgainstHeir (Zm (QF (some (vI (nI (whyH R p)))) M)) M [some (vR 1 i), some (vI (nI p)), none, none] [] 0
  refine go_aload_n (q := 1) dX6_reasonAgainstHeir_0 rfl rfl rfl ?_
  refine go_iload_n (q := 2) dX6_reasonAgainstHeir_1 rfl rfl rfl ?_
  refine go_cV1 (cal := mX6_fatherOf) (q := 5) dX6_reasonAgainstHeir_2 lRX6_45 vX6_fatherOf ⟨by decide, by decide⟩ rfl hi (Nat.le_of_ble_eq_true rfl) (ok_fatherOf hi hR _) rfl ?_
  rw [pOf_at hR hp, oP_some]
  refine go_istore_n (q := 6) dX6_reasonAgainstHeir_5 rfl (by decide) rfl rfl ?_
  refine go_iload_n (q := 7) dX6_reasonAgainstHeir_6 rfl rfl rfl ?_
  refine go_iconst (q := 8) (v := (-1)) dX6_reasonAgainstHeir_7 (by decide) rfl ?_
  refine go_icmp_eq (q := 11) (t := 19) dX6_reasonAgainstHeir_8 (by decide) rfl (fun c_8 => ?_) (fun c_8 => ?_)
  · refine go_bipush (q := 21) (v := 7) dX6_reasonAgainstHeir_19 (by decide) rfl ?_
    exact go_ri dX6_reasonAgainstHeir_21 rfl (by rw [show whyH R p = 7 by simp [whyH, (e1_eq (rP_big hW hp)).mp c_8]]; rfl) rfl
  · obtain ⟨f, hf⟩ : ∃ f, rP R p = some f := by
      cases h : rP R p with
      | none => exact absurd ((e1_eq (rP_big hW hp)).mpr h) c_8
      | some f => exact ⟨f, rfl⟩
    refine go_aload_n (q := 12) dX6_reasonAgainstHeir_11 rfl rfl rfl ?_
    refine go_iload_n (q := 13) dX6_reasonAgainstHeir_12 rfl rfl rfl ?_
    refine go_cV1 (cal := mX6_isAlive) (q := 16) dX6_reasonAgainstHeir_13 lRX6_42 vX6_isAlive ⟨by decide, by decide⟩ rfl hi (Nat.le_of_ble_eq_true rfl) (ok_isAlive hi hR _) rfl ?_
    rw [pOf_e1 (rP_n hW hp) (by have := hR.le; omega), hf, oL_some]
    refine go_if_eqB (q := 19) (t := 22) dX6_reasonAgainstHeir_16 (by decide) rfl (fun c_16 => ?_) (fun c_16 => ?_)
    · refine go_iconst (q := 23) (v := 0) dX6_reasonAgainstHeir_22 (by decide) rfl ?_
      refine go_istore_n (q := 24) dX6_reasonAgainstHeir_23 rfl (by decide) rfl rfl ?_
      exact lp_reasonAgainstHeir hi hR hW hp hf c_16 (p + 1) 0 _ (by omega) (fun a ha => absurd ha (Nat.not_lt_zero _)) rfl (by omega)
    · refine go_bipush (q := 21) (v := 7) dX6_reasonAgainstHeir_19 (by decide) rfl ?_
      exact go_ri dX6_reasonAgainstHeir_21 rfl (by rw [show whyH R p = 7 by simp [whyH, hf, c_16]]; rfl) rfl
end
section
/-! ===== deeds ===== -/
def rRef (R : RO) : RO := (rN R, rS R, rL R, rB R, rH R, rF R + 1)
def rAdd (R : RO) (s : Nat) (b : Option (Nat × Nat × Nat)) : RO := (rN R + 1, (fun p => if p = rN R then s else rS R p), (fun p => if p = rN R then true else rL R p), (fun p => if p = rN R then b else rB R p), rH R, rF R)
def rDie (R : RO) (d : Nat) : RO := (rN R, rS R, (fun p => if p = d then false else rL R p), rB R, rH R, rF R)
def rHeir (R : RO) (d s : Nat) : RO := (rN R, (fun p => if p = d then s else rS R p), rL R, rB R, rH R + 1, rF R)
/-- what a deed answers, and the roll behind it -/
def dFound (R : RO) (x : Int32) : Int32 × RO := match pOf 15625 x with
  | none => (-1, R)
  | some s => if 20 ≤ rN R then (-3, R) else if ¬ bear R s = none then (3, rRef R) else (nI (10 + rN R), rAdd R s none)
def dBear (R : RO) (x y z : Int32) : Int32 × RO := match pOf (rN R) x, pOf 6 y, pOf 5 z with
  | some f, some k, some m => if 20 ≤ rN R then (-3, R) else if ¬ whyS R f k m = 0 then (nI (whyS R f k m), rRef R) else (nI (10 + rN R), rAdd R (wm (rS R f) k m) (some (f, k, m)))
  | _, _, _ => (-1, R)
def dDie (R : RO) (x : Int32) : Int32 × RO := match pOf (rN R) x with
  | none => (-1, R)
  | some p => if rL R p = false then (6, rRef R) else (nI (10 + cn (rL (rDie R p)) (rN R)), rDie R p)
def dHeir (R : RO) (x : Int32) : Int32 × RO := match pOf (rN R) x with
  | none => (-1, R)
  | some p => if rL R p = false then (-2, R) else if ¬ whyH R p = 0 then (nI (whyH R p), rRef R) else (nI (10 + ap (rS R p) (oS R (rP R p))), rHeir R p (oS R (rP R p)))
/-- nothing but roll i was touched -/
def kRoll (i : Nat) (M M' : KM) : Prop := M'.2 = M.2 ∧ ∀ k b, ¬ (b = i ∧ 1 ≤ k ∧ k ≤ 6) → M'.1 k b = M.1 k b
theorem kRoll.rf {i : Nat} {M : KM} : kRoll i M M := ⟨rfl, fun _ _ _ => rfl⟩
theorem kRoll.tr {i : Nat} {M M1 M2 : KM} (h1 : kRoll i M M1) (h2 : kRoll i M1 M2) : kRoll i M M2 := ⟨h2.1.trans h1.1, fun k b h => (h2.2 k b h).trans (h1.2 k b h)⟩
theorem kRoll.si {i k j : Nat} {M M' : KM} {v : Int32} (h : kRoll i M M') (h1 : 1 ≤ k) (h6 : k ≤ 6) : kRoll i M (k_si M' k i j v) := by
  refine ⟨h.1, fun a b hab => ?_⟩
  rw [k_si_ne M' v (fun z => hab ⟨z.2, by omega, by omega⟩)]
  exact h.2 a b hab
theorem RA.keep {i b : Nat} {M M' : KM} {R : RO} (h : RA M b R) (hk : kRoll i M M') (hb : b ≠ i) : RA M' b R := by
  have e : ∀ k, M'.1 k b = M.1 k b := fun k => hk.2 k b (fun z => hb z.1)
  unfold RA at h ⊢
  rw [e, e, e, e, e, e]
  exact h
def KQ (i : Nat) (M : KM) (v : Int32) (R' : RO) : Option KV → KM → Prop := fun r M' => r = some (vI v) ∧ RA M' i R' ∧ kRoll i M M'
def KU (i : Nat) (M : KM) (R' : RO) : Option KV → KM → Prop := fun r M' => r = none ∧ RA M' i R' ∧ kRoll i M M'
theorem go_kV0 {I cal : KI} {Z : KZ} {M : KM} {loc : List (Option KV)} {rest : List KV} {pc q idx k i b : Nat} {v : Int32} {R : RO} (hd : decode I.2.1 pc = .ok (.invokevirtual idx, 3)) (hlink : Cond.methodLink I.1.cls idx cal.1 ∈ k_tb) (hc : KCV cal 0) (hR : KR I cal) (hcls : (k_oc k).bind (fun ci => (vwCl[ci]?).map (fun q => q.1)) = some cal.1.cls) (hi : i < k_cnt k) (hr : (rest.map k_cat).sum ≤ 8) (hok : Ok cal (vR k i :: []) M (KQ b M v R)) (hq : pc + 3 = q) (kk : ∀ M1, RA M1 b R → kRoll b M M1 → Go I Z M1 loc (vI v :: rest) q) : Go I Z M loc (vR k i :: rest) pc :=
  go_callV [] hd hlink hc hR rfl hcls hi hr hok hq (fun r M2 hrm => by obtain ⟨rfl, h1, h2⟩ := hrm; exact kk M2 h1 h2)
theorem go_kuV0 {I cal : KI} {Z : KZ} {M : KM} {loc : List (Option KV)} {rest : List KV} {pc q idx k i b : Nat} {R : RO} (hd : decode I.2.1 pc = .ok (.invokevirtual idx, 3)) (hlink : Cond.methodLink I.1.cls idx cal.1 ∈ k_tb) (hc : KCV cal 0) (hR : KR I cal) (hcls : (k_oc k).bind (fun ci => (vwCl[ci]?).map (fun q => q.1)) = some cal.1.cls) (hi : i < k_cnt k) (hr : (rest.map k_cat).sum ≤ 8) (hok : Ok cal (vR k i :: []) M (KU b M R)) (hq : pc + 3 = q) (kk : ∀ M1, RA M1 b R → kRoll b M M1 → Go I Z M1 loc rest q) : Go I Z M loc (vR k i :: rest) pc :=
  go_callV [] hd hlink hc hR rfl hcls hi hr hok hq (fun r M2 hrm => by obtain ⟨rfl, h1, h2⟩ := hrm; exact kk M2 h1 h2)
theorem go_kV1 {I cal : KI} {Z : KZ} {M : KM} {loc : List (Option KV)} {rest : List KV} {pc q idx k i b : Nat} {a0 : KV} {v : Int32} {R : RO} (hd : decode I.2.1 pc = .ok (.invokevirtual idx, 3)) (hlink : Cond.methodLink I.1.cls idx cal.1 ∈ k_tb) (hc : KCV cal 1) (hR : KR I cal) (hcls : (k_oc k).bind (fun ci => (vwCl[ci]?).map (fun q => q.1)) = some cal.1.cls) (hi : i < k_cnt k) (hr : (rest.map k_cat).sum ≤ 8) (hok : Ok cal (vR k i :: [a0]) M (KQ b M v R)) (hq : pc + 3 = q) (kk : ∀ M1, RA M1 b R → kRoll b M M1 → Go I Z M1 loc (vI v :: rest) q) : Go I Z M loc (a0 :: vR k i :: rest) pc :=
  go_callV [a0] hd hlink hc hR rfl hcls hi hr hok hq (fun r M2 hrm => by obtain ⟨rfl, h1, h2⟩ := hrm; exact kk M2 h1 h2)
theorem go_kuV1 {I cal : KI} {Z : KZ} {M : KM} {loc : List (Option KV)} {rest : List KV} {pc q idx k i b : Nat} {a0 : KV} {R : RO} (hd : decode I.2.1 pc = .ok (.invokevirtual idx, 3)) (hlink : Cond.methodLink I.1.cls idx cal.1 ∈ k_tb) (hc : KCV cal 1) (hR : KR I cal) (hcls : (k_oc k).bind (fun ci => (vwCl[ci]?).map (fun q => q.1)) = some cal.1.cls) (hi : i < k_cnt k) (hr : (rest.map k_cat).sum ≤ 8) (hok : Ok cal (vR k i :: [a0]) M (KU b M R)) (hq : pc + 3 = q) (kk : ∀ M1, RA M1 b R → kRoll b M M1 → Go I Z M1 loc rest q) : Go I Z M loc (a0 :: vR k i :: rest) pc :=
  go_callV [a0] hd hlink hc hR rfl hcls hi hr hok hq (fun r M2 hrm => by obtain ⟨rfl, h1, h2⟩ := hrm; exact kk M2 h1 h2)
theorem go_kV2 {I cal : KI} {Z : KZ} {M : KM} {loc : List (Option KV)} {rest : List KV} {pc q idx k i b : Nat} {a0 a1 : KV} {v : Int32} {R : RO} (hd : decode I.2.1 pc = .ok (.invokevirtual idx, 3)) (hlink : Cond.methodLink I.1.cls idx cal.1 ∈ k_tb) (hc : KCV cal 2) (hR : KR I cal) (hcls : (k_oc k).bind (fun ci => (vwCl[ci]?).map (fun q => q.1)) = some cal.1.cls) (hi : i < k_cnt k) (hr : (rest.map k_cat).sum ≤ 8) (hok : Ok cal (vR k i :: [a0, a1]) M (KQ b M v R)) (hq : pc + 3 = q) (kk : ∀ M1, RA M1 b R → kRoll b M M1 → Go I Z M1 loc (vI v :: rest) q) : Go I Z M loc (a1 :: a0 :: vR k i :: rest) pc :=
  go_callV [a0, a1] hd hlink hc hR rfl hcls hi hr hok hq (fun r M2 hrm => by obtain ⟨rfl, h1, h2⟩ := hrm; exact kk M2 h1 h2)
theorem go_kuV2 {I cal : KI} {Z : KZ} {M : KM} {loc : List (Option KV)} {rest : List KV} {pc q idx k i b : Nat} {a0 a1 : KV} {R : RO} (hd : decode I.2.1 pc = .ok (.invokevirtual idx, 3)) (hlink : Cond.methodLink I.1.cls idx cal.1 ∈ k_tb) (hc : KCV cal 2) (hR : KR I cal) (hcls : (k_oc k).bind (fun ci => (vwCl[ci]?).map (fun q => q.1)) = some cal.1.cls) (hi : i < k_cnt k) (hr : (rest.map k_cat).sum ≤ 8) (hok : Ok cal (vR k i :: [a0, a1]) M (KU b M R)) (hq : pc + 3 = q) (kk : ∀ M1, RA M1 b R → kRoll b M M1 → Go I Z M1 loc rest q) : Go I Z M loc (a1 :: a0 :: vR k i :: rest) pc :=
  go_callV [a0, a1] hd hlink hc hR rfl hcls hi hr hok hq (fun r M2 hrm => by obtain ⟨rfl, h1, h2⟩ := hrm; exact kk M2 h1 h2)
theorem go_kV3 {I cal : KI} {Z : KZ} {M : KM} {loc : List (Option KV)} {rest : List KV} {pc q idx k i b : Nat} {a0 a1 a2 : KV} {v : Int32} {R : RO} (hd : decode I.2.1 pc = .ok (.invokevirtual idx, 3)) (hlink : Cond.methodLink I.1.cls idx cal.1 ∈ k_tb) (hc : KCV cal 3) (hR : KR I cal) (hcls : (k_oc k).bind (fun ci => (vwCl[ci]?).map (fun q => q.1)) = some cal.1.cls) (hi : i < k_cnt k) (hr : (rest.map k_cat).sum ≤ 8) (hok : Ok cal (vR k i :: [a0, a1, a2]) M (KQ b M v R)) (hq : pc + 3 = q) (kk : ∀ M1, RA M1 b R → kRoll b M M1 → Go I Z M1 loc (vI v :: rest) q) : Go I Z M loc (a2 :: a1 :: a0 :: vR k i :: rest) pc :=
  go_callV [a0, a1, a2] hd hlink hc hR rfl hcls hi hr hok hq (fun r M2 hrm => by obtain ⟨rfl, h1, h2⟩ := hrm; exact kk M2 h1 h2)
theorem go_kuV3 {I cal : KI} {Z : KZ} {M : KM} {loc : List (Option KV)} {rest : List KV} {pc q idx k i b : Nat} {a0 a1 a2 : KV} {R : RO} (hd : decode I.2.1 pc = .ok (.invokevirtual idx, 3)) (hlink : Cond.methodLink I.1.cls idx cal.1 ∈ k_tb) (hc : KCV cal 3) (hR : KR I cal) (hcls : (k_oc k).bind (fun ci => (vwCl[ci]?).map (fun q => q.1)) = some cal.1.cls) (hi : i < k_cnt k) (hr : (rest.map k_cat).sum ≤ 8) (hok : Ok cal (vR k i :: [a0, a1, a2]) M (KU b M R)) (hq : pc + 3 = q) (kk : ∀ M1, RA M1 b R → kRoll b M M1 → Go I Z M1 loc rest q) : Go I Z M loc (a2 :: a1 :: a0 :: vR k i :: rest) pc :=
  go_callV [a0, a1, a2] hd hlink hc hR rfl hcls hi hr hok hq (fun r M2 hrm => by obtain ⟨rfl, h1, h2⟩ := hrm; exact kk M2 h1 h2)
theorem go_kV4 {I cal : KI} {Z : KZ} {M : KM} {loc : List (Option KV)} {rest : List KV} {pc q idx k i b : Nat} {a0 a1 a2 a3 : KV} {v : Int32} {R : RO} (hd : decode I.2.1 pc = .ok (.invokevirtual idx, 3)) (hlink : Cond.methodLink I.1.cls idx cal.1 ∈ k_tb) (hc : KCV cal 4) (hR : KR I cal) (hcls : (k_oc k).bind (fun ci => (vwCl[ci]?).map (fun q => q.1)) = some cal.1.cls) (hi : i < k_cnt k) (hr : (rest.map k_cat).sum ≤ 8) (hok : Ok cal (vR k i :: [a0, a1, a2, a3]) M (KQ b M v R)) (hq : pc + 3 = q) (kk : ∀ M1, RA M1 b R → kRoll b M M1 → Go I Z M1 loc (vI v :: rest) q) : Go I Z M loc (a3 :: a2 :: a1 :: a0 :: vR k i :: rest) pc :=
  go_callV [a0, a1, a2, a3] hd hlink hc hR rfl hcls hi hr hok hq (fun r M2 hrm => by obtain ⟨rfl, h1, h2⟩ := hrm; exact kk M2 h1 h2)
theorem go_kuV4 {I cal : KI} {Z : KZ} {M : KM} {loc : List (Option KV)} {rest : List KV} {pc q idx k i b : Nat} {a0 a1 a2 a3 : KV} {R : RO} (hd : decode I.2.1 pc = .ok (.invokevirtual idx, 3)) (hlink : Cond.methodLink I.1.cls idx cal.1 ∈ k_tb) (hc : KCV cal 4) (hR : KR I cal) (hcls : (k_oc k).bind (fun ci => (vwCl[ci]?).map (fun q => q.1)) = some cal.1.cls) (hi : i < k_cnt k) (hr : (rest.map k_cat).sum ≤ 8) (hok : Ok cal (vR k i :: [a0, a1, a2, a3]) M (KU b M R)) (hq : pc + 3 = q) (kk : ∀ M1, RA M1 b R → kRoll b M M1 → Go I Z M1 loc rest q) : Go I Z M loc (a3 :: a2 :: a1 :: a0 :: vR k i :: rest) pc :=
  go_callV [a0, a1, a2, a3] hd hlink hc hR rfl hcls hi hr hok hq (fun r M2 hrm => by obtain ⟨rfl, h1, h2⟩ := hrm; exact kk M2 h1 h2)
theorem RA_ref {M : KM} {i : Nat} {R : RO} (hR : RA M i R) : RA (k_si M 1 i 7 (M.1 1 i 7 + 1)) i (rRef R) := by
  refine ⟨hR.sz, hR.he, ?_, hR.le, fun p hp => hR.z hp, fun p hp => ⟨hR.sh hp, hR.al hp, hR.fa hp, hR.pl hp, hR.mk hp⟩⟩
  show (if 1 = 1 ∧ 7 = 7 ∧ i = i then _ else _) = nI (rF R + 1)
  rw [if_pos ⟨rfl, rfl, rfl⟩, hR.re, nI_1]
theorem RA_die {M : KM} {i d : Nat} {R : RO} (hR : RA M i R) (hd : d < rN R) : RA (k_si M 3 i d 0) i (rDie R d) := by
  refine ⟨hR.sz, hR.he, hR.re, hR.le, fun p hp => ?_, fun p hp => ⟨hR.sh hp, ?_, hR.fa hp, hR.pl hp, hR.mk hp⟩⟩
  · show ∃ b, (if 3 = 3 ∧ p = d ∧ i = i then (0 : Int32) else M.1 3 i p) = bI b
    by_cases h : p = d
    · exact ⟨false, by rw [if_pos ⟨rfl, h, rfl⟩]; rfl⟩
    · rw [if_neg (fun z => h z.2.1)]; exact hR.z hp
  · show (if 3 = 3 ∧ p = d ∧ i = i then (0 : Int32) else M.1 3 i p) = bI (if p = d then false else rL R p)
    by_cases h : p = d
    · rw [if_pos ⟨rfl, h, rfl⟩, if_pos h]; rfl
    · rw [if_neg (fun z => h z.2.1), if_neg h]; exact hR.al hp
theorem RA_heir {M : KM} {i d s : Nat} {R : RO} (hR : RA M i R) (hd : d < rN R) : RA (k_si (k_si M 2 i d (nI s)) 1 i 6 (M.1 1 i 6 + 1)) i (rHeir R d s) := by
  refine ⟨hR.sz, ?_, hR.re, hR.le, fun p hp => hR.z hp, fun p hp => ⟨?_, hR.al hp, hR.fa hp, hR.pl hp, hR.mk hp⟩⟩
  · show (if 1 = 1 ∧ 6 = 6 ∧ i = i then _ else _) = nI (rH R + 1)
    rw [if_pos ⟨rfl, rfl, rfl⟩, hR.he, nI_1]
  · show (if 2 = 2 ∧ p = d ∧ i = i then (nI s) else M.1 2 i p) = nI (if p = d then s else rS R p)
    by_cases h : p = d
    · rw [if_pos ⟨rfl, h, rfl⟩, if_pos h]
    · rw [if_neg (fun z => h z.2.1), if_neg h]; exact hR.sh hp
theorem RA_add {M : KM} {i s : Nat} {R : RO} {b : Option (Nat × Nat × Nat)} (hR : RA M i R) (hn : rN R < 20) :
    RA (k_si (k_si (k_si (k_si (k_si (k_si M 2 i (rN R) (nI s)) 3 i (rN R) 1) 4 i (rN R) (e1 (b.map (fun b => b.1)))) 5 i (rN R) (e1 (b.map (fun b => b.2.1)))) 6 i (rN R) (e1 (b.map (fun b => b.2.2)))) 1 i 5 (nI (rN R) + 1)) i (rAdd R s b) := by
  refine ⟨?_, hR.he, hR.re, hn, fun p hp => ?_, fun p hp => ?_⟩
  · show (if 1 = 1 ∧ 5 = 5 ∧ i = i then _ else _) = nI (rN R + 1)
    rw [if_pos ⟨rfl, rfl, rfl⟩, nI_1]
  · show ∃ b, (if 3 = 3 ∧ p = rN R ∧ i = i then (1 : Int32) else M.1 3 i p) = bI b
    by_cases h : p = rN R
    · exact ⟨true, by rw [if_pos ⟨rfl, h, rfl⟩]; rfl⟩
    · rw [if_neg (fun z => h z.2.1)]; exact hR.z hp
  · show (if 2 = 2 ∧ p = rN R ∧ i = i then (nI s) else M.1 2 i p) = nI (if p = rN R then s else rS R p) ∧ (if 3 = 3 ∧ p = rN R ∧ i = i then (1 : Int32) else M.1 3 i p) = bI (if p = rN R then true else rL R p) ∧ (if 4 = 4 ∧ p = rN R ∧ i = i then (e1 (b.map (fun b => b.1))) else M.1 4 i p) = e1 ((if p = rN R then b else rB R p).map (fun b => b.1)) ∧ (if 5 = 5 ∧ p = rN R ∧ i = i then (e1 (b.map (fun b => b.2.1))) else M.1 5 i p) = e1 ((if p = rN R then b else rB R p).map (fun b => b.2.1)) ∧ (if 6 = 6 ∧ p = rN R ∧ i = i then (e1 (b.map (fun b => b.2.2))) else M.1 6 i p) = e1 ((if p = rN R then b else rB R p).map (fun b => b.2.2))
    by_cases h : p = rN R
    · simp [h, bI]
    · have hp' : p < rN R := by
        have : p < rN R + 1 := hp
        omega
      simp only [h, and_false, false_and, if_false]
      exact ⟨hR.sh hp', hR.al hp', hR.fa hp', hR.pl hp', hR.mk hp'⟩
theorem k_10 (n : Nat) : (10 : Int32) + nI n = nI (10 + n) := nI_add 10 n
theorem ok_refuse {M : KM} {i : Nat} {R : RO} (hi : i < 8) (hR : RA M i R) (x : Int32) : Ok mX6_refuse [vR 1 i, vI x] M (KQ i M x (rRef R)) := by
  refine ok_of (by decide) rfl (Nat.le_of_ble_eq_true rfl) ⟨rfl, rfl⟩ ?_
  show Go mX6_refuse (Zm (KQ i M x (rRef R))) M [some (vR 1 i), some (vI x)] [] 0
  refine go_aload_n (q := 1) dX6_refuse_0 rfl rfl rfl ?_
  refine go_dup (q := 2) dX6_refuse_1 rfl rfl ?_
  refine go_getf (q := 5) dX6_refuse_2 fRX6_35 rfl hi rfl rfl ?_
  refine go_iconst (q := 6) (v := 1) dX6_refuse_5 (by decide) rfl ?_
  refine go_iadd (q := 7) dX6_refuse_6 rfl ?_
  refine go_puti (q := 10) dX6_refuse_7 pRX6_35 rfl hi rfl rfl rfl (Nat.le_of_ble_eq_true rfl) rfl ?_
  refine go_iload_n (q := 11) dX6_refuse_10 rfl rfl rfl ?_
  exact go_ireti dX6_refuse_11 rfl ⟨rfl, RA_ref hR, kRoll.rf.si (by decide) (by decide)⟩
theorem ok_add {M : KM} {i : Nat} {R : RO} (hi : i < 8) (hR : RA M i R) (hn : rN R < 20) (s : Nat) (b : Option (Nat × Nat × Nat)) : Ok mX6_add [vR 1 i, vI (nI s), vI (e1 (b.map (fun b => b.1))), vI (e1 (b.map (fun b => b.2.1))), vI (e1 (b.map (fun b => b.2.2)))] M (KQ i M (nI (10 + rN R)) (rAdd R s b)) := by
  refine ok_of (by decide) rfl (Nat.le_of_ble_eq_true rfl) ⟨rfl, rfl⟩ ?_
  show Go mX6_add (Zm (KQ i M (nI (10 + rN R)) (rAdd R s b))) M [some (vR 1 i), some (vI (nI s)), some (vI (e1 (b.map (fun b => b.1)))), some (vI (e1 (b.map (fun b => b.2.1)))), some (vI (e1 (b.map (fun b => b.2.2)))), none] [] 0
  refine go_aload_n (q := 1) dX6_add_0 rfl rfl rfl ?_
  refine go_getf (q := 4) dX6_add_1 fRX6_28 rfl hi rfl rfl ?_
  refine go_topi hR.sz ?_
  refine go_istore (q := 6) dX6_add_4 (by decide) rfl rfl ?_
  refine go_iload (q := 8) dX6_add_6 rfl rfl ?_
  refine go_bipush (q := 10) (v := 20) dX6_add_8 (by decide) rfl ?_
  refine go_icmp_ltN (rN R) 20 (q := 13) (t := 16) dX6_add_10 (by decide) rfl rfl rfl (by omega) (by omega) (fun c_10 => ?_) (fun c_10 => ?_)
  · refine go_aload_n (q := 17) dX6_add_16 rfl rfl rfl ?_
    refine go_getf (q := 20) dX6_add_17 fRX6_9 rfl hi rfl rfl ?_
    refine go_iload (q := 22) dX6_add_20 rfl rfl ?_
    refine go_iload_n (q := 23) dX6_add_22 rfl rfl rfl ?_
    refine go_iast (q := 24) (rN R) dX6_add_23 rfl rfl hi rfl hn rfl ?_
    refine go_aload_n (q := 25) dX6_add_24 rfl rfl rfl ?_
    refine go_getf (q := 28) dX6_add_25 fRX6_15 rfl hi rfl rfl ?_
    refine go_iload (q := 30) dX6_add_28 rfl rfl ?_
    refine go_iconst (q := 31) (v := 1) dX6_add_30 (by decide) rfl ?_
    refine go_zast (q := 32) (rN R) dX6_add_31 hi rfl hn (by decide) rfl ?_
    refine go_aload_n (q := 33) dX6_add_32 rfl rfl rfl ?_
    refine go_getf (q := 36) dX6_add_33 fRX6_19 rfl hi rfl rfl ?_
    refine go_iload (q := 38) dX6_add_36 rfl rfl ?_
    refine go_iload_n (q := 39) dX6_add_38 rfl rfl rfl ?_
    refine go_iast (q := 40) (rN R) dX6_add_39 rfl rfl hi rfl hn rfl ?_
    refine go_aload_n (q := 41) dX6_add_40 rfl rfl rfl ?_
    refine go_getf (q := 44) dX6_add_41 fRX6_22 rfl hi rfl rfl ?_
    refine go_iload (q := 46) dX6_add_44 rfl rfl ?_
    refine go_iload_n (q := 47) dX6_add_46 rfl rfl rfl ?_
    refine go_iast (q := 48) (rN R) dX6_add_47 rfl rfl hi rfl hn rfl ?_
    refine go_aload_n (q := 49) dX6_add_48 rfl rfl rfl ?_
    refine go_getf (q := 52) dX6_add_49 fRX6_25 rfl hi rfl rfl ?_
    refine go_iload (q := 54) dX6_add_52 rfl rfl ?_
    refine go_iload (q := 56) dX6_add_54 rfl rfl ?_
    refine go_iast (q := 57) (rN R) dX6_add_56 rfl rfl hi rfl hn rfl ?_
    refine go_aload_n (q := 58) dX6_add_57 rfl rfl rfl ?_
    refine go_dup (q := 59) dX6_add_58 rfl rfl ?_
    refine go_getf (q := 62) dX6_add_59 fRX6_28 rfl hi rfl rfl ?_
    refine go_topi hR.sz ?_
    refine go_iconst (q := 63) (v := 1) dX6_add_62 (by decide) rfl ?_
    refine go_iadd (q := 64) dX6_add_63 rfl ?_
    refine go_puti (q := 67) dX6_add_64 pRX6_28 rfl hi rfl rfl rfl (Nat.le_of_ble_eq_true rfl) rfl ?_
    refine go_bipush (q := 69) (v := 10) dX6_add_67 (by decide) rfl ?_
    refine go_iload (q := 71) dX6_add_69 rfl rfl ?_
    refine go_iadd (q := 72) dX6_add_71 rfl ?_
    exact go_ireti dX6_add_72 rfl ⟨by rw [k_10], RA_add hR hn, ((((((kRoll.rf.si (by decide) (by decide)).si (by decide) (by decide)).si (by decide) (by decide)).si (by decide) (by decide)).si (by decide) (by decide)).si (by decide) (by decide))⟩
  · omega
theorem ok_goes {M : KM} {i : Nat} {R : RO} (hi : i < 8) (hR : RA M i R) (x : Int32) : Ok mX6_goes [vR 1 i, vI x] M (KQ i M (dDie R x).1 (dDie R x).2) := by
  refine ok_of (by decide) rfl (Nat.le_of_ble_eq_true rfl) ⟨rfl, rfl⟩ ?_
  show Go mX6_goes (Zm (KQ i M (dDie R x).1 (dDie R x).2)) M [some (vR 1 i), some (vI x)] [] 0
  refine go_aload_n (q := 1) dX6_goes_0 rfl rfl rfl ?_
  refine go_iload_n (q := 2) dX6_goes_1 rfl rfl rfl ?_
  refine go_cV1 (cal := mX6_has) (q := 5) dX6_goes_2 lRX6_38 vX6_has ⟨by decide, by decide⟩ rfl hi (Nat.le_of_ble_eq_true rfl) (ok_has hi hR _) rfl ?_
  refine go_if_neB (q := 8) (t := 10) dX6_goes_5 (by decide) rfl (fun c_5 => ?_) (fun c_5 => ?_)
  · obtain ⟨p, hp⟩ := Option.isSome_iff_exists.mp c_5
    obtain ⟨hlt, rfl⟩ := pOf_some hp
    refine go_aload_n (q := 11) dX6_goes_10 rfl rfl rfl ?_
    refine go_iload_n (q := 12) dX6_goes_11 rfl rfl rfl ?_
    refine go_cV1 (cal := mX6_isAlive) (q := 15) dX6_goes_12 lRX6_42 vX6_isAlive ⟨by decide, by decide⟩ rfl hi (Nat.le_of_ble_eq_true rfl) (ok_isAlive hi hR _) rfl ?_
    rw [hp, oL_some]
    refine go_if_neB (q := 18) (t := 25) dX6_goes_15 (by decide) rfl (fun c_15 => ?_) (fun c_15 => ?_)
    · refine go_aload_n (q := 26) dX6_goes_25 rfl rfl rfl ?_
      refine go_getf (q := 29) dX6_goes_26 fRX6_15 rfl hi rfl rfl ?_
      refine go_iload_n (q := 30) dX6_goes_29 rfl rfl rfl ?_
      refine go_iconst (q := 31) (v := 0) dX6_goes_30 (by decide) rfl ?_
      refine go_zast (q := 32) p dX6_goes_31 hi rfl (hR.lt hlt) (by decide) rfl ?_
      refine go_bipush (q := 34) (v := 10) dX6_goes_32 (by decide) rfl ?_
      refine go_aload_n (q := 35) dX6_goes_34 rfl rfl rfl ?_
      refine go_cV0 (cal := mX6_living) (q := 38) dX6_goes_35 lRX6_80 vX6_living ⟨by decide, by decide⟩ rfl hi (Nat.le_of_ble_eq_true rfl) (ok_living hi (RA_die hR hlt)) rfl ?_
      refine go_iadd (q := 39) dX6_goes_38 rfl ?_
      exact go_ireti dX6_goes_39 rfl ⟨by simp [dDie, hp, c_15, k_10, show rN (rDie R p) = rN R from rfl], by simpa [dDie, hp, c_15] using RA_die hR hlt, kRoll.rf.si (by decide) (by decide)⟩
    · refine go_aload_n (q := 19) dX6_goes_18 rfl rfl rfl ?_
      refine go_bipush (q := 21) (v := 6) dX6_goes_19 (by decide) rfl ?_
      refine go_kV1 (cal := mX6_refuse) (q := 24) dX6_goes_21 lRX6_57 vX6_refuse ⟨by decide, by decide⟩ rfl hi (Nat.le_of_ble_eq_true rfl) (ok_refuse hi hR _) rfl (fun M1 hR1 hk1 => ?_)
      exact go_ireti dX6_goes_24 rfl ⟨by simp [dDie, hp, c_15], by simpa [dDie, hp, c_15] using hR1, hk1⟩
  · rw [Option.isSome_eq_false_iff, Option.isNone_iff_eq_none] at c_5
    refine go_iconst (q := 9) (v := (-1)) dX6_goes_8 (by decide) rfl ?_
    exact go_ireti dX6_goes_9 rfl ⟨by simp [dDie, c_5], by simpa [dDie, c_5] using hR, kRoll.rf⟩
theorem ok_founderComes {M : KM} {i : Nat} {R : RO} (hi : i < 8) (hR : RA M i R) (hW : rW R) (x : Int32) : Ok mX6_founderComes [vR 1 i, vI x] M (KQ i M (dFound R x).1 (dFound R x).2) := by
  refine ok_of (by decide) rfl (Nat.le_of_ble_eq_true rfl) ⟨rfl, rfl⟩ ?_
  show Go mX6_founderComes (Zm (KQ i M (dFound R x).1 (dFound R x).2)) M [some (vR 1 i), some (vI x)] [] 0
  refine go_iload_n (q := 1) dX6_founderComes_0 rfl rfl rfl ?_
  refine go_cS1 (cal := mX8_isShield) (q := 4) dX6_founderComes_1 lRX6_49 vX8_isShield ⟨by decide, by decide⟩ (Nat.le_of_ble_eq_true rfl) (ok_isShield M _) rfl ?_
  refine go_if_neB (q := 7) (t := 9) dX6_founderComes_4 (by decide) rfl (fun c_4 => ?_) (fun c_4 => ?_)
  · obtain ⟨s, hs⟩ := Option.isSome_iff_exists.mp c_4
    obtain ⟨hlt, rfl⟩ := pOf_some hs
    refine go_aload_n (q := 10) dX6_founderComes_9 rfl rfl rfl ?_
    refine go_getf (q := 13) dX6_founderComes_10 fRX6_28 rfl hi rfl rfl ?_
    refine go_topi hR.sz ?_
    refine go_bipush (q := 15) (v := 20) dX6_founderComes_13 (by decide) rfl ?_
    refine go_icmp_ltN (rN R) 20 (q := 18) (t := 21) dX6_founderComes_15 (by decide) rfl rfl rfl (by have := hR.le; omega) (by omega) (fun c_15 => ?_) (fun c_15 => ?_)
    · refine go_aload_n (q := 22) dX6_founderComes_21 rfl rfl rfl ?_
      refine go_iload_n (q := 23) dX6_founderComes_22 rfl rfl rfl ?_
      refine go_cV1 (cal := mX6_livingWith) (q := 26) dX6_founderComes_23 lRX6_54 vX6_livingWith ⟨by decide, by decide⟩ rfl hi (Nat.le_of_ble_eq_true rfl) (ok_livingWith hi hR hW (by omega)) rfl ?_
      refine go_iconst (q := 27) (v := (-1)) dX6_founderComes_26 (by decide) rfl ?_
      refine go_icmp_eq (q := 30) (t := 36) dX6_founderComes_27 (by decide) rfl (fun c_27 => ?_) (fun c_27 => ?_)
      · have h27 : bear R s = none := (e1_eq (bear_big hW)).mp c_27
        refine go_aload_n (q := 37) dX6_founderComes_36 rfl rfl rfl ?_
        refine go_iload_n (q := 38) dX6_founderComes_37 rfl rfl rfl ?_
        refine go_iconst (q := 39) (v := (-1)) dX6_founderComes_38 (by decide) rfl ?_
        refine go_iconst (q := 40) (v := (-1)) dX6_founderComes_39 (by decide) rfl ?_
        refine go_iconst (q := 41) (v := (-1)) dX6_founderComes_40 (by decide) rfl ?_
        refine go_kV4 (cal := mX6_add) (q := 44) dX6_founderComes_41 lRX6_60 vX6_add ⟨by decide, by decide⟩ rfl hi (Nat.le_of_ble_eq_true rfl) (ok_add hi hR c_15 s none) rfl (fun M1 hR1 hk1 => ?_)
        exact go_ireti dX6_founderComes_44 rfl ⟨by simp [dFound, hs, Nat.not_le.mpr c_15, h27], by simpa [dFound, hs, Nat.not_le.mpr c_15, h27] using hR1, hk1⟩
      · have h27 : ¬ bear R s = none := fun z => c_27 ((e1_eq (bear_big hW)).mpr z)
        refine go_aload_n (q := 31) dX6_founderComes_30 rfl rfl rfl ?_
        refine go_iconst (q := 32) (v := 3) dX6_founderComes_31 (by decide) rfl ?_
        refine go_kV1 (cal := mX6_refuse) (q := 35) dX6_founderComes_32 lRX6_57 vX6_refuse ⟨by decide, by decide⟩ rfl hi (Nat.le_of_ble_eq_true rfl) (ok_refuse hi hR _) rfl (fun M1 hR1 hk1 => ?_)
        exact go_ireti dX6_founderComes_35 rfl ⟨by simp [dFound, hs, Nat.not_le.mpr c_15, h27], by simpa [dFound, hs, Nat.not_le.mpr c_15, h27] using hR1, hk1⟩
    · refine go_bipush (q := 20) (v := (-3)) dX6_founderComes_18 (by decide) rfl ?_
      exact go_ireti dX6_founderComes_20 rfl ⟨by simp [dFound, hs, c_15], by simpa [dFound, hs, c_15] using hR, kRoll.rf⟩
  · rw [Option.isSome_eq_false_iff, Option.isNone_iff_eq_none] at c_4
    refine go_iconst (q := 8) (v := (-1)) dX6_founderComes_7 (by decide) rfl ?_
    exact go_ireti dX6_founderComes_8 rfl ⟨by simp [dFound, c_4], by simpa [dFound, c_4] using hR, kRoll.rf⟩
theorem whyS_big (R : RO) (f k m : Nat) : whyS R f k m < 2 ^ 31 := by
  unfold whyS
  repeat' split
  all_goals omega
theorem whyH_big (R : RO) (p : Nat) : whyH R p < 2 ^ 31 := by
  unfold whyH
  repeat' split
  all_goals omega
theorem ok_sonComes {M : KM} {i : Nat} {R : RO} (hi : i < 8) (hR : RA M i R) (hW : rW R) (x y z : Int32) : Ok mX6_sonComes [vR 1 i, vI x, vI y, vI z] M (KQ i M (dBear R x y z).1 (dBear R x y z).2) := by
  refine ok_of (by decide) rfl (Nat.le_of_ble_eq_true rfl) ⟨rfl, rfl⟩ ?_
  show Go mX6_sonComes (Zm (KQ i M (dBear R x y z).1 (dBear R x y z).2)) M [some (vR 1 i), some (vI x), some (vI y), some (vI z), none] [] 0
  refine go_aload_n (q := 1) dX6_sonComes_0 rfl rfl rfl ?_
  refine go_iload_n (q := 2) dX6_sonComes_1 rfl rfl rfl ?_
  refine go_cV1 (cal := mX6_has) (q := 5) dX6_sonComes_2 lRX6_38 vX6_has ⟨by decide, by decide⟩ rfl hi (Nat.le_of_ble_eq_true rfl) (ok_has hi hR _) rfl ?_
  refine go_if_eqB (q := 8) (t := 22) dX6_sonComes_5 (by decide) rfl (fun c_5 => ?_) (fun c_5 => ?_)
  · rw [Option.isSome_eq_false_iff, Option.isNone_iff_eq_none] at c_5
    refine go_iconst (q := 23) (v := (-1)) dX6_sonComes_22 (by decide) rfl ?_
    exact go_ireti dX6_sonComes_23 rfl ⟨by simp [dBear, c_5], by simpa [dBear, c_5] using hR, kRoll.rf⟩
  · refine go_iload_n (q := 9) dX6_sonComes_8 rfl rfl rfl ?_
    refine go_cS1 (cal := mX8_isPlace) (q := 12) dX6_sonComes_9 lRX6_64 vX8_isPlace ⟨by decide, by decide⟩ (Nat.le_of_ble_eq_true rfl) (ok_isPlace M _) rfl ?_
    refine go_if_eqB (q := 15) (t := 22) dX6_sonComes_12 (by decide) rfl (fun c_12 => ?_) (fun c_12 => ?_)
    · rw [Option.isSome_eq_false_iff, Option.isNone_iff_eq_none] at c_12
      refine go_iconst (q := 23) (v := (-1)) dX6_sonComes_22 (by decide) rfl ?_
      exact go_ireti dX6_sonComes_23 rfl ⟨by simp [dBear, c_12], by simpa [dBear, c_12] using hR, kRoll.rf⟩
    · refine go_iload_n (q := 16) dX6_sonComes_15 rfl rfl rfl ?_
      refine go_cS1 (cal := mX8_isMark) (q := 19) dX6_sonComes_16 lRX6_67 vX8_isMark ⟨by decide, by decide⟩ (Nat.le_of_ble_eq_true rfl) (ok_isMark M _) rfl ?_
      refine go_if_neB (q := 22) (t := 24) dX6_sonComes_19 (by decide) rfl (fun c_19 => ?_) (fun c_19 => ?_)
      · obtain ⟨p, hp⟩ := Option.isSome_iff_exists.mp c_5
        obtain ⟨hlt, rfl⟩ := pOf_some hp
        obtain ⟨k, hk2⟩ := Option.isSome_iff_exists.mp c_12
        obtain ⟨hkl, rfl⟩ := pOf_some hk2
        obtain ⟨m, hm2⟩ := Option.isSome_iff_exists.mp c_19
        obtain ⟨hml, rfl⟩ := pOf_some hm2
        refine go_aload_n (q := 25) dX6_sonComes_24 rfl rfl rfl ?_
        refine go_getf (q := 28) dX6_sonComes_25 fRX6_28 rfl hi rfl rfl ?_
        refine go_topi hR.sz ?_
        refine go_bipush (q := 30) (v := 20) dX6_sonComes_28 (by decide) rfl ?_
        refine go_icmp_ltN (rN R) 20 (q := 33) (t := 36) dX6_sonComes_30 (by decide) rfl rfl rfl (by have := hR.le; omega) (by omega) (fun c_30 => ?_) (fun c_30 => ?_)
        · refine go_aload_n (q := 37) dX6_sonComes_36 rfl rfl rfl ?_
          refine go_iload_n (q := 38) dX6_sonComes_37 rfl rfl rfl ?_
          refine go_iload_n (q := 39) dX6_sonComes_38 rfl rfl rfl ?_
          refine go_iload_n (q := 40) dX6_sonComes_39 rfl rfl rfl ?_
          refine go_cV3 (cal := mX6_reasonAgainstSon) (q := 43) dX6_sonComes_40 lRX6_70 vX6_reasonAgainstSon ⟨by decide, by decide⟩ rfl hi (Nat.le_of_ble_eq_true rfl) (ok_reasonAgainstSon hi hR hW hlt hkl hml) rfl ?_
          refine go_istore (q := 45) dX6_sonComes_43 (by decide) rfl rfl ?_
          refine go_iload (q := 47) dX6_sonComes_45 rfl rfl ?_
          refine go_if_eq (q := 50) (t := 57) dX6_sonComes_47 (by decide) rfl (fun c_47 => ?_) (fun c_47 => ?_)
          · have h47 : whyS R p k m = 0 := (nI_eq (whyS_big R p k m) (by decide)).mp c_47
            refine go_aload_n (q := 58) dX6_sonComes_57 rfl rfl rfl ?_
            refine go_aload_n (q := 59) dX6_sonComes_58 rfl rfl rfl ?_
            refine go_iload_n (q := 60) dX6_sonComes_59 rfl rfl rfl ?_
            refine go_cV1 (cal := mX6_shieldOf) (q := 63) dX6_sonComes_60 lRX6_74 vX6_shieldOf ⟨by decide, by decide⟩ rfl hi (Nat.le_of_ble_eq_true rfl) (ok_shieldOf hi hR _) rfl ?_
            rw [hp, oS_some]
            refine go_iload_n (q := 64) dX6_sonComes_63 rfl rfl rfl ?_
            refine go_iload_n (q := 65) dX6_sonComes_64 rfl rfl rfl ?_
            refine go_cS3 (cal := mX8_withMark) (q := 68) dX6_sonComes_65 lRX6_77 vX8_withMark ⟨by decide, by decide⟩ (Nat.le_of_ble_eq_true rfl) (ok_withMark (by have := hW.2.1 p hlt; omega) hkl) rfl ?_
            refine go_iload_n (q := 69) dX6_sonComes_68 rfl rfl rfl ?_
            refine go_iload_n (q := 70) dX6_sonComes_69 rfl rfl rfl ?_
            refine go_iload_n (q := 71) dX6_sonComes_70 rfl rfl rfl ?_
            refine go_kV4 (cal := mX6_add) (q := 74) dX6_sonComes_71 lRX6_60 vX6_add ⟨by decide, by decide⟩ rfl hi (Nat.le_of_ble_eq_true rfl) (ok_add hi hR c_30 (wm (rS R p) k m) (some (p, k, m))) rfl (fun M1 hR1 hk1 => ?_)
            exact go_ireti dX6_sonComes_74 rfl ⟨by simp [dBear, hp, hk2, hm2, Nat.not_le.mpr c_30, h47], by simpa [dBear, hp, hk2, hm2, Nat.not_le.mpr c_30, h47] using hR1, hk1⟩
          · have h47 : ¬ whyS R p k m = 0 := fun z => c_47 (by rw [z]; rfl)
            refine go_aload_n (q := 51) dX6_sonComes_50 rfl rfl rfl ?_
            refine go_iload (q := 53) dX6_sonComes_51 rfl rfl ?_
            refine go_kV1 (cal := mX6_refuse) (q := 56) dX6_sonComes_53 lRX6_57 vX6_refuse ⟨by decide, by decide⟩ rfl hi (Nat.le_of_ble_eq_true rfl) (ok_refuse hi hR _) rfl (fun M1 hR1 hk1 => ?_)
            exact go_ireti dX6_sonComes_56 rfl ⟨by simp [dBear, hp, hk2, hm2, Nat.not_le.mpr c_30, h47], by simpa [dBear, hp, hk2, hm2, Nat.not_le.mpr c_30, h47] using hR1, hk1⟩
        · refine go_bipush (q := 35) (v := (-3)) dX6_sonComes_33 (by decide) rfl ?_
          exact go_ireti dX6_sonComes_35 rfl ⟨by simp [dBear, hp, hk2, hm2, c_30], by simpa [dBear, hp, hk2, hm2, c_30] using hR, kRoll.rf⟩
      · rw [Option.isSome_eq_false_iff, Option.isNone_iff_eq_none] at c_19
        refine go_iconst (q := 23) (v := (-1)) dX6_sonComes_22 (by decide) rfl ?_
        exact go_ireti dX6_sonComes_23 rfl ⟨by simp [dBear, c_19], by simpa [dBear, c_19] using hR, kRoll.rf⟩
theorem ok_becomesHeir {M : KM} {i : Nat} {R : RO} (hi : i < 8) (hR : RA M i R) (hW : rW R) (x : Int32) : Ok mX6_becomesHeir [vR 1 i, vI x] M (KQ i M (dHeir R x).1 (dHeir R x).2) := by
  refine ok_of (by decide) rfl (Nat.le_of_ble_eq_true rfl) ⟨rfl, rfl⟩ ?_
  show Go mX6_becomesHeir (Zm (KQ i M (dHeir R x).1 (dHeir R x).2)) M [some (vR 1 i), some (vI x), none, none] [] 0
  refine go_aload_n (q := 1) dX6_becomesHeir_0 rfl rfl rfl ?_
  refine go_iload_n (q := 2) dX6_becomesHeir_1 rfl rfl rfl ?_
  refine go_cV1 (cal := mX6_has) (q := 5) dX6_becomesHeir_2 lRX6_38 vX6_has ⟨by decide, by decide⟩ rfl hi (Nat.le_of_ble_eq_true rfl) (ok_has hi hR _) rfl ?_
  refine go_if_neB (q := 8) (t := 10) dX6_becomesHeir_5 (by decide) rfl (fun c_5 => ?_) (fun c_5 => ?_)
  · obtain ⟨p, hp⟩ := Option.isSome_iff_exists.mp c_5
    obtain ⟨hlt, rfl⟩ := pOf_some hp
    refine go_aload_n (q := 11) dX6_becomesHeir_10 rfl rfl rfl ?_
    refine go_iload_n (q := 12) dX6_becomesHeir_11 rfl rfl rfl ?_
    refine go_cV1 (cal := mX6_isAlive) (q := 15) dX6_becomesHeir_12 lRX6_42 vX6_isAlive ⟨by decide, by decide⟩ rfl hi (Nat.le_of_ble_eq_true rfl) (ok_isAlive hi hR _) rfl ?_
    rw [hp, oL_some]
    refine go_if_neB (q := 18) (t := 21) dX6_becomesHeir_15 (by decide) rfl (fun c_15 => ?_) (fun c_15 => ?_)
    · refine go_aload_n (q := 22) dX6_becomesHeir_21 rfl rfl rfl ?_
      refine go_iload_n (q := 23) dX6_becomesHeir_22 rfl rfl rfl ?_
      refine go_cV1 (cal := mX6_reasonAgainstHeir) (q := 26) dX6_becomesHeir_23 lRX6_84 vX6_reasonAgainstHeir ⟨by decide, by decide⟩ rfl hi (Nat.le_of_ble_eq_true rfl) (ok_reasonAgainstHeir hi hR hW hlt) rfl ?_
      refine go_istore_n (q := 27) dX6_becomesHeir_26 rfl (by decide) rfl rfl ?_
      refine go_iload_n (q := 28) dX6_becomesHeir_27 rfl rfl rfl ?_
      refine go_if_eq (q := 31) (t := 37) dX6_becomesHeir_28 (by decide) rfl (fun c_28 => ?_) (fun c_28 => ?_)
      · have h28 : whyH R p = 0 := (nI_eq (whyH_big R p) (by decide)).mp c_28
        refine go_aload_n (q := 38) dX6_becomesHeir_37 rfl rfl rfl ?_
        refine go_iload_n (q := 39) dX6_becomesHeir_38 rfl rfl rfl ?_
        refine go_cV1 (cal := mX6_shieldOf) (q := 42) dX6_becomesHeir_39 lRX6_74 vX6_shieldOf ⟨by decide, by decide⟩ rfl hi (Nat.le_of_ble_eq_true rfl) (ok_shieldOf hi hR _) rfl ?_
        rw [hp, oS_some]
        refine go_istore_n (q := 43) dX6_becomesHeir_42 rfl (by decide) rfl rfl ?_
        refine go_aload_n (q := 44) dX6_becomesHeir_43 rfl rfl rfl ?_
        refine go_getf (q := 47) dX6_becomesHeir_44 fRX6_9 rfl hi rfl rfl ?_
        refine go_iload_n (q := 48) dX6_becomesHeir_47 rfl rfl rfl ?_
        refine go_aload_n (q := 49) dX6_becomesHeir_48 rfl rfl rfl ?_
        refine go_aload_n (q := 50) dX6_becomesHeir_49 rfl rfl rfl ?_
        refine go_iload_n (q := 51) dX6_becomesHeir_50 rfl rfl rfl ?_
        refine go_cV1 (cal := mX6_fatherOf) (q := 54) dX6_becomesHeir_51 lRX6_45 vX6_fatherOf ⟨by decide, by decide⟩ rfl hi (Nat.le_of_ble_eq_true rfl) (ok_fatherOf hi hR _) rfl ?_
        rw [hp, oP_some]
        refine go_cV1 (cal := mX6_shieldOf) (q := 57) dX6_becomesHeir_54 lRX6_74 vX6_shieldOf ⟨by decide, by decide⟩ rfl hi (Nat.le_of_ble_eq_true rfl) (ok_shieldOf hi hR _) rfl ?_
        rw [pOf_e1 (rP_n hW hlt) (by have := hR.le; omega)]
        refine go_iast (q := 58) p dX6_becomesHeir_57 rfl rfl hi rfl (hR.lt hlt) rfl ?_
        refine go_aload_n (q := 59) dX6_becomesHeir_58 rfl rfl rfl ?_
        refine go_dup (q := 60) dX6_becomesHeir_59 rfl rfl ?_
        refine go_getf (q := 63) dX6_becomesHeir_60 fRX6_32 rfl hi rfl rfl ?_
        refine go_iconst (q := 64) (v := 1) dX6_becomesHeir_63 (by decide) rfl ?_
        refine go_iadd (q := 65) dX6_becomesHeir_64 rfl ?_
        refine go_puti (q := 68) dX6_becomesHeir_65 pRX6_32 rfl hi rfl rfl rfl (Nat.le_of_ble_eq_true rfl) rfl ?_
        have hR2 := RA_heir (s := oS R (rP R p)) hR hlt
        have hob : oS R (rP R p) < 2 ^ 31 := by
          cases h : rP R p with
          | none => exact (by decide : 0 < 2 ^ 31)
          | some f => have := hW.2.1 f (rP_n hW hlt f h); show rS R f < _; omega
        refine go_bipush (q := 70) (v := 10) dX6_becomesHeir_68 (by decide) rfl ?_
        refine go_iload_n (q := 71) dX6_becomesHeir_70 rfl rfl rfl ?_
        refine go_aload_n (q := 72) dX6_becomesHeir_71 rfl rfl rfl ?_
        refine go_iload_n (q := 73) dX6_becomesHeir_72 rfl rfl rfl ?_
        refine go_cV1 (cal := mX6_shieldOf) (q := 76) dX6_becomesHeir_73 lRX6_74 vX6_shieldOf ⟨by decide, by decide⟩ rfl hi (Nat.le_of_ble_eq_true rfl) (ok_shieldOf hi hR2 _) rfl ?_
        rw [show oS (rHeir R p (oS R (rP R p))) (pOf (rN (rHeir R p (oS R (rP R p)))) (nI p)) = oS R (rP R p) from by rw [show pOf (rN (rHeir R p (oS R (rP R p)))) (nI p) = some p from hp]; simp [oS, rS, rHeir]]
        refine go_cS2 (cal := mX8_apart) (q := 79) dX6_becomesHeir_76 lRX6_87 vX8_apart ⟨by decide, by decide⟩ (Nat.le_of_ble_eq_true rfl) (ok_apart (by have := hW.2.1 p hlt; omega) hob) rfl ?_
        refine go_iadd (q := 80) dX6_becomesHeir_79 rfl ?_
        exact go_ireti dX6_becomesHeir_80 rfl ⟨by simp [dHeir, hp, c_15, h28, k_10], by simpa [dHeir, hp, c_15, h28] using hR2, (kRoll.rf.si (by decide) (by decide)).si (by decide) (by decide)⟩
      · have h28 : ¬ whyH R p = 0 := fun z => c_28 (by rw [z]; rfl)
        refine go_aload_n (q := 32) dX6_becomesHeir_31 rfl rfl rfl ?_
        refine go_iload_n (q := 33) dX6_becomesHeir_32 rfl rfl rfl ?_
        refine go_kV1 (cal := mX6_refuse) (q := 36) dX6_becomesHeir_33 lRX6_57 vX6_refuse ⟨by decide, by decide⟩ rfl hi (Nat.le_of_ble_eq_true rfl) (ok_refuse hi hR _) rfl (fun M1 hR1 hk1 => ?_)
        exact go_ireti dX6_becomesHeir_36 rfl ⟨by simp [dHeir, hp, c_15, h28], by simpa [dHeir, hp, c_15, h28] using hR1, hk1⟩
    · refine go_bipush (q := 20) (v := (-2)) dX6_becomesHeir_18 (by decide) rfl ?_
      exact go_ireti dX6_becomesHeir_20 rfl ⟨by simp [dHeir, hp, c_15], by simpa [dHeir, hp, c_15] using hR, kRoll.rf⟩
  · rw [Option.isSome_eq_false_iff, Option.isNone_iff_eq_none] at c_5
    refine go_iconst (q := 9) (v := (-1)) dX6_becomesHeir_8 (by decide) rfl ?_
    exact go_ireti dX6_becomesHeir_9 rfl ⟨by simp [dHeir, c_5], by simpa [dHeir, c_5] using hR, kRoll.rf⟩
end
section
/-! ===== a roll copied ===== -/
def kcp (M : KM) (i i2 j : Nat) : KM := (fun k b c => if b = i ∧ 2 ≤ k ∧ k ≤ 6 ∧ c < j then M.1 k i2 c else M.1 k b c, M.2)
theorem kcp_rd {M : KM} {i i2 j k : Nat} : (kcp M i i2 j).1 k i2 j = M.1 k i2 j := by
  show (if i2 = i ∧ 2 ≤ k ∧ k ≤ 6 ∧ j < j then M.1 k i2 j else M.1 k i2 j) = _
  split <;> rfl
theorem kcp_nar {M : KM} {i i2 j : Nat} {R : RO} (hR : RA M i2 R) (hj : j < 20) : narrow .boolean (.int ((kcp M i i2 j).1 3 i2 j)) = .int ((kcp M i i2 j).1 3 i2 j) := by
  rw [kcp_rd]
  obtain ⟨b, hb⟩ := hR.z hj
  rw [hb]
  exact bI_nar b
theorem kcp_step (M : KM) (i i2 j : Nat) : k_si (k_si (k_si (k_si (k_si (kcp M i i2 j) 2 i j ((kcp M i i2 j).1 2 i2 j)) 3 i j ((kcp M i i2 j).1 3 i2 j)) 4 i j ((kcp M i i2 j).1 4 i2 j)) 5 i j ((kcp M i i2 j).1 5 i2 j)) 6 i j ((kcp M i i2 j).1 6 i2 j) = kcp M i i2 (j + 1) := by
  simp only [kcp_rd]
  refine Prod.ext ?_ rfl
  funext k b c
  simp only [k_si, kcp]
  by_cases hb : b = i
  · by_cases hc : c = j
    · subst hc
      by_cases h2 : 2 ≤ k ∧ k ≤ 6
      · rcases (show k = 2 ∨ k = 3 ∨ k = 4 ∨ k = 5 ∨ k = 6 by omega) with rfl | rfl | rfl | rfl | rfl <;> simp [hb]
      · have e2 : ¬ k = 2 := by omega
        have e3 : ¬ k = 3 := by omega
        have e4 : ¬ k = 4 := by omega
        have e5 : ¬ k = 5 := by omega
        have e6 : ¬ k = 6 := by omega
        have e7 : ¬ (b = i ∧ 2 ≤ k ∧ k ≤ 6 ∧ c < c + 1) := fun z => h2 ⟨z.2.1, z.2.2.1⟩
        simp only [e2, e3, e4, e5, e6, false_and, if_false, if_neg e7, Nat.lt_irrefl, and_false]
    · have e : (b = i ∧ 2 ≤ k ∧ k ≤ 6 ∧ c < j) ↔ (b = i ∧ 2 ≤ k ∧ k ≤ 6 ∧ c < j + 1) := by
        constructor
        · rintro ⟨a1, a2, a3, a4⟩; exact ⟨a1, a2, a3, by omega⟩
        · rintro ⟨a1, a2, a3, a4⟩; exact ⟨a1, a2, a3, by omega⟩
      simp only [hc, false_and, and_false, if_false, e]
  · simp only [hb, false_and, and_false, if_false]
theorem kcp_0 (M : KM) (i i2 : Nat) : kcp M i i2 0 = M := by
  refine Prod.ext ?_ rfl
  funext k b c
  show (if b = i ∧ 2 ≤ k ∧ k ≤ 6 ∧ c < 0 then M.1 k i2 c else M.1 k b c) = _
  rw [if_neg (fun z => Nat.not_lt_zero _ z.2.2.2)]
theorem kRoll_cp {M : KM} {i i2 j : Nat} : kRoll i M (kcp M i i2 j) := by
  refine ⟨rfl, fun k b h => ?_⟩
  funext c
  show (if b = i ∧ 2 ≤ k ∧ k ≤ 6 ∧ c < j then M.1 k i2 c else M.1 k b c) = _
  rw [if_neg (fun z => h ⟨z.1, by omega, z.2.2.1⟩)]
theorem RA_cp {M : KM} {i i2 : Nat} {R : RO} (hR : RA M i2 R) : RA (k_si (k_si (k_si (kcp M i i2 20) 1 i 5 (M.1 1 i2 5)) 1 i 6 (M.1 1 i2 6)) 1 i 7 (M.1 1 i2 7)) i R := by
  have e : ∀ k p, 2 ≤ k → k ≤ 6 → p < 20 → (kcp M i i2 20).1 k i p = M.1 k i2 p := fun k p h2 h6 hp => by
    show (if i = i ∧ 2 ≤ k ∧ k ≤ 6 ∧ p < 20 then M.1 k i2 p else M.1 k i p) = _
    rw [if_pos ⟨rfl, h2, h6, hp⟩]
  refine ⟨?_, ?_, ?_, hR.le, fun p hp => ?_, fun p hp => ?_⟩
  · show (if 1 = 1 ∧ 5 = 5 ∧ i = i then _ else _) = _
    rw [if_pos ⟨rfl, rfl, rfl⟩]; exact hR.sz
  · show (if 1 = 1 ∧ 6 = 6 ∧ i = i then _ else _) = _
    rw [if_pos ⟨rfl, rfl, rfl⟩]; exact hR.he
  · show (if 1 = 1 ∧ 7 = 7 ∧ i = i then _ else _) = _
    rw [if_pos ⟨rfl, rfl, rfl⟩]; exact hR.re
  · show ∃ b, (kcp M i i2 20).1 3 i p = bI b
    rw [e 3 p (by decide) (by decide) hp]; exact hR.z hp
  · have h20 := hR.lt hp
    show (kcp M i i2 20).1 2 i p = _ ∧ (kcp M i i2 20).1 3 i p = _ ∧ (kcp M i i2 20).1 4 i p = _ ∧ (kcp M i i2 20).1 5 i p = _ ∧ (kcp M i i2 20).1 6 i p = _
    rw [e 2 p (by decide) (by decide) h20, e 3 p (by decide) (by decide) h20, e 4 p (by decide) (by decide) h20, e 5 p (by decide) (by decide) h20, e 6 p (by decide) (by decide) h20]
    exact ⟨hR.sh hp, hR.al hp, hR.fa hp, hR.pl hp, hR.mk hp⟩
theorem kcp_f {M : KM} {i i2 j c : Nat} : (kcp M i i2 j).1 1 i2 c = M.1 1 i2 c := by
  show (if i2 = i ∧ 2 ≤ 1 ∧ 1 ≤ 6 ∧ c < j then M.1 1 i2 c else M.1 1 i2 c) = _
  split <;> rfl
theorem lp_copyFrom {M : KM} {i i2 : Nat} {R : RO} (hi : i < 8) (hi2 : i2 < 8) (hR : RA M i2 R) (hne : i2 ≠ i) : ∀ (d : Nat) (j : Nat) (y : Int32), 20 - j < d → (y = nI j) → (j ≤ 20) → Go mX6_copyFrom (Zm (KU i M R)) (kcp M i i2 j) [some (vR 1 i), some (vR 1 i2), some (vI y)] [] 2 := by
  intro d
  induction d with
  | zero => intro j y hd; exact absurd hd (Nat.not_lt_zero _)
  | succ d ih =>
    intro j y hd h0 h1
    refine go_iload_n (q := 3) dX6_copyFrom_2 rfl rfl rfl ?_
    refine go_bipush (q := 5) (v := 20) dX6_copyFrom_3 (by decide) rfl ?_
    refine go_icmp_geN j 20 (q := 8) (t := 74) dX6_copyFrom_5 (by decide) rfl h0 rfl (by omega) (by omega) (fun c_5 => ?_) (fun c_5 => ?_)
    · obtain rfl : j = 20 := by omega
      refine go_aload_n (q := 75) dX6_copyFrom_74 rfl rfl rfl ?_
      refine go_aload_n (q := 76) dX6_copyFrom_75 rfl rfl rfl ?_
      refine go_getf (q := 79) dX6_copyFrom_76 fRX6_28 rfl hi2 rfl rfl ?_
      refine go_topi (v := M.1 1 i2 5) kcp_f ?_
      refine go_puti (q := 82) dX6_copyFrom_79 pRX6_28 rfl hi rfl rfl rfl (Nat.le_of_ble_eq_true rfl) rfl ?_
      refine go_aload_n (q := 83) dX6_copyFrom_82 rfl rfl rfl ?_
      refine go_aload_n (q := 84) dX6_copyFrom_83 rfl rfl rfl ?_
      refine go_getf (q := 87) dX6_copyFrom_84 fRX6_32 rfl hi2 rfl rfl ?_
      refine go_topi (v := M.1 1 i2 6) (show (kcp M i i2 20).1 1 i2 6 = _ from kcp_f) ?_
      refine go_puti (q := 90) dX6_copyFrom_87 pRX6_32 rfl hi rfl rfl rfl (Nat.le_of_ble_eq_true rfl) rfl ?_
      refine go_aload_n (q := 91) dX6_copyFrom_90 rfl rfl rfl ?_
      refine go_aload_n (q := 92) dX6_copyFrom_91 rfl rfl rfl ?_
      refine go_getf (q := 95) dX6_copyFrom_92 fRX6_35 rfl hi2 rfl rfl ?_
      refine go_topi (v := M.1 1 i2 7) (show (kcp M i i2 20).1 1 i2 7 = _ from kcp_f) ?_
      refine go_puti (q := 98) dX6_copyFrom_95 pRX6_35 rfl hi rfl rfl rfl (Nat.le_of_ble_eq_true rfl) rfl ?_
      exact go_vret dX6_copyFrom_98 rfl ⟨rfl, RA_cp hR, ((kRoll_cp.si (by decide) (by decide)).si (by decide) (by decide)).si (by decide) (by decide)⟩
    · subst h0
      refine go_aload_n (q := 9) dX6_copyFrom_8 rfl rfl rfl ?_
      refine go_getf (q := 12) dX6_copyFrom_9 fRX6_9 rfl hi rfl rfl ?_
      refine go_iload_n (q := 13) dX6_copyFrom_12 rfl rfl rfl ?_
      refine go_aload_n (q := 14) dX6_copyFrom_13 rfl rfl rfl ?_
      refine go_getf (q := 17) dX6_copyFrom_14 fRX6_9 rfl hi2 rfl rfl ?_
      refine go_iload_n (q := 18) dX6_copyFrom_17 rfl rfl rfl ?_
      refine go_iald (q := 19) j dX6_copyFrom_18 rfl rfl hi2 rfl (by omega) rfl ?_
      refine go_iast (q := 20) j dX6_copyFrom_19 rfl rfl hi rfl (by omega) rfl ?_
      refine go_aload_n (q := 21) dX6_copyFrom_20 rfl rfl rfl ?_
      refine go_getf (q := 24) dX6_copyFrom_21 fRX6_15 rfl hi rfl rfl ?_
      refine go_iload_n (q := 25) dX6_copyFrom_24 rfl rfl rfl ?_
      refine go_aload_n (q := 26) dX6_copyFrom_25 rfl rfl rfl ?_
      refine go_getf (q := 29) dX6_copyFrom_26 fRX6_15 rfl hi2 rfl rfl ?_
      refine go_iload_n (q := 30) dX6_copyFrom_29 rfl rfl rfl ?_
      refine go_zald (q := 31) j dX6_copyFrom_30 hi2 rfl (by omega) rfl ?_
      refine go_zast (q := 32) j dX6_copyFrom_31 hi rfl (by omega) (kcp_nar hR (by omega)) rfl ?_
      refine go_aload_n (q := 33) dX6_copyFrom_32 rfl rfl rfl ?_
      refine go_getf (q := 36) dX6_copyFrom_33 fRX6_19 rfl hi rfl rfl ?_
      refine go_iload_n (q := 37) dX6_copyFrom_36 rfl rfl rfl ?_
      refine go_aload_n (q := 38) dX6_copyFrom_37 rfl rfl rfl ?_
      refine go_getf (q := 41) dX6_copyFrom_38 fRX6_19 rfl hi2 rfl rfl ?_
      refine go_iload_n (q := 42) dX6_copyFrom_41 rfl rfl rfl ?_
      refine go_iald (q := 43) j dX6_copyFrom_42 rfl rfl hi2 rfl (by omega) rfl ?_
      refine go_iast (q := 44) j dX6_copyFrom_43 rfl rfl hi rfl (by omega) rfl ?_
      refine go_aload_n (q := 45) dX6_copyFrom_44 rfl rfl rfl ?_
      refine go_getf (q := 48) dX6_copyFrom_45 fRX6_22 rfl hi rfl rfl ?_
      refine go_iload_n (q := 49) dX6_copyFrom_48 rfl rfl rfl ?_
      refine go_aload_n (q := 50) dX6_copyFrom_49 rfl rfl rfl ?_
      refine go_getf (q := 53) dX6_copyFrom_50 fRX6_22 rfl hi2 rfl rfl ?_
      refine go_iload_n (q := 54) dX6_copyFrom_53 rfl rfl rfl ?_
      refine go_iald (q := 55) j dX6_copyFrom_54 rfl rfl hi2 rfl (by omega) rfl ?_
      refine go_iast (q := 56) j dX6_copyFrom_55 rfl rfl hi rfl (by omega) rfl ?_
      refine go_aload_n (q := 57) dX6_copyFrom_56 rfl rfl rfl ?_
      refine go_getf (q := 60) dX6_copyFrom_57 fRX6_25 rfl hi rfl rfl ?_
      refine go_iload_n (q := 61) dX6_copyFrom_60 rfl rfl rfl ?_
      refine go_aload_n (q := 62) dX6_copyFrom_61 rfl rfl rfl ?_
      refine go_getf (q := 65) dX6_copyFrom_62 fRX6_25 rfl hi2 rfl rfl ?_
      refine go_iload_n (q := 66) dX6_copyFrom_65 rfl rfl rfl ?_
      refine go_iald (q := 67) j dX6_copyFrom_66 rfl rfl hi2 rfl (by omega) rfl ?_
      refine go_iast (q := 68) j dX6_copyFrom_67 rfl rfl hi rfl (by omega) rfl ?_
      refine go_iinc (q := 71) (v := 1) dX6_copyFrom_68 (by decide) rfl (by decide) rfl rfl ?_
      refine go_goto (q := 2) dX6_copyFrom_71 (by decide) ?_
      exact go_mem (kcp_step M i i2 j) (ih (j + 1) _ (by omega) (nI_1 j) (by omega))
theorem ok_copyFrom {M : KM} {i i2 : Nat} {R : RO} (hi : i < 8) (hi2 : i2 < 8) (hR : RA M i2 R) (hne : i2 ≠ i) : Ok mX6_copyFrom [vR 1 i, vR 1 i2] M (KU i M R) := by
  refine ok_of (by decide) rfl (Nat.le_of_ble_eq_true rfl) ⟨rfl, rfl⟩ ?_
  show Go mX6_copyFrom (Zm (KU i M R)) M [some (vR 1 i), some (vR 1 i2), none] [] 0
  refine go_iconst (q := 1) (v := 0) dX6_copyFrom_0 (by decide) rfl ?_
  refine go_istore_n (q := 2) dX6_copyFrom_1 rfl (by decide) rfl rfl ?_
  rw [← kcp_0 M i i2]
  have := lp_copyFrom hi hi2 hR hne 21 0 0 (by omega) rfl (by omega)
  rw [kcp_0] at this ⊢
  exact this
/-! ===== the history ===== -/
theorem go_alen8 {I : KI} {Z : KZ} {M : KM} {loc : List (Option KV)} {st : List KV} {pc q : Nat} (hd : decode I.2.1 pc = .ok (.arraylength, 1)) (hq : pc + 1 = q) (h : Go I Z M loc (vI 5 :: st) q) : Go I Z M loc (vR 8 0 :: st) pc := by
  subst hq
  intro G Hb p l e R s m args below meth c cells slots Qf hC hZ H ls locs hW hF hL hl
  obtain ⟨hx, hb, hml, hrt, hown, hlk, hts, hK, hRf, hRl, hce, hsl⟩ := id hC
  have hat : va_at G.2.1 vwCl (G.1 + k_off 8 0, .inl (G.2.2.2.2.2, 5, .inr (.inr (.inr (.inr (fun j => some (G.1 + k_off 1 (M.2.2 8 j)))))))) H := hW 8 0 (by decide)
  exact W.alen hx hb hat ((hK.2 3 _ rfl).1 5 (fun j => va_rf (some (G.1 + k_off 1 (M.2.2 8 j))))) (by show (arrV _ _ _).slots.size.toInt32 = 5; rw [arrV_size]; rfl) rfl rfl hd (h G Hb p l e R s m args below meth c cells slots Qf hC hZ H ls locs hW hF hL hl)
def HA (M : KM) (h : Nat) (hs : Nat → RO) : Prop := M.1 7 0 1 = nI h ∧ h ≤ 4 ∧ (∀ j, j < 5 → 3 ≤ M.2.2 8 j ∧ M.2.2 8 j < 8) ∧ (∀ a b, a < 5 → b < 5 → M.2.2 8 a = M.2.2 8 b → a = b) ∧ ∀ j, j < h → RA M (M.2.2 8 j) (hs j)
theorem k_hin {j : Nat} {A : Prop} (hj : j < 5) (h : nI j < 0 ∨ (5 : Int32) ≤ nI j) : A := by
  have e5 : (5 : Int32).toInt = 5 := by decide
  have e0 : (0 : Int32).toInt = 0 := by decide
  rw [i32_lt, i32_le, nI_toInt (by omega), e0, e5] at h
  omega
theorem ok_hsize {M : KM} {h : Nat} {hs : Nat → RO} (hH : HA M h hs) : OkF mX2_size [vR 7 0] M (some (vI (nI h))) M := by
  refine ok_of (by decide) rfl (Nat.le_of_ble_eq_true rfl) ⟨rfl, rfl⟩ ?_
  show Go mX2_size (Zm (QF (some (vI (nI h))) M)) M [some (vR 7 0)] [] 0
  refine go_aload_n (q := 1) dX2_size_0 rfl rfl rfl ?_
  refine go_getf (q := 4) dX2_size_1 fRX2_17 rfl (by decide) rfl rfl ?_
  refine go_topi hH.1 ?_
  exact go_ri dX2_size_4 rfl (by rfl) rfl
theorem ok_stateAt {M : KM} {j : Nat} (hj : j < 5) : OkF mX2_stateAt [vR 7 0, vI (nI j)] M (some (vR 1 (M.2.2 8 j))) M := by
  refine ok_of (by decide) rfl (Nat.le_of_ble_eq_true rfl) ⟨rfl, rfl⟩ ?_
  show Go mX2_stateAt (Zm (QF (some (vR 1 (M.2.2 8 j))) M)) M [some (vR 7 0), some (vI (nI j))] [] 0
  refine go_iload_n (q := 1) dX2_stateAt_0 rfl rfl rfl ?_
  refine go_if_lt (q := 4) (t := 22) dX2_stateAt_1 (by decide) rfl (fun c_1 => ?_) (fun c_1 => ?_)
  · exact k_hin hj (Or.inl c_1)
  · refine go_iload_n (q := 5) dX2_stateAt_4 rfl rfl rfl ?_
    refine go_aload_n (q := 6) dX2_stateAt_5 rfl rfl rfl ?_
    refine go_getf (q := 9) dX2_stateAt_6 fRX2_11 rfl (by decide) rfl rfl ?_
    refine go_alen8 (q := 10) dX2_stateAt_9 rfl ?_
    refine go_icmp_ge (q := 13) (t := 22) dX2_stateAt_10 (by decide) rfl (fun c_10 => ?_) (fun c_10 => ?_)
    · exact k_hin hj (Or.inr c_10)
    · refine go_aload_n (q := 14) dX2_stateAt_13 rfl rfl rfl ?_
      refine go_getf (q := 17) dX2_stateAt_14 fRX2_11 rfl (by decide) rfl rfl ?_
      refine go_iload_n (q := 18) dX2_stateAt_17 rfl rfl rfl ?_
      refine go_aald (q := 19) j dX2_stateAt_18 rfl hj rfl ?_
      refine go_goto (q := 23) dX2_stateAt_19 (by decide) ?_
      exact go_aret dX2_stateAt_23 rfl ⟨rfl, rfl⟩
theorem ok_note {M : KM} {h : Nat} {hs : Nat → RO} {R : RO} (hH : HA M h hs) (hR : RA M 0 R) : Ok mX2_note [vR 7 0, vR 1 0] M (KU (M.2.2 8 h) M R) := by
  refine ok_of (by decide) rfl (Nat.le_of_ble_eq_true rfl) ⟨rfl, rfl⟩ ?_
  show Go mX2_note (Zm (KU (M.2.2 8 h) M R)) M [some (vR 7 0), some (vR 1 0), none] [] 0
  refine go_aload_n (q := 1) dX2_note_0 rfl rfl rfl ?_
  refine go_aload_n (q := 2) dX2_note_1 rfl rfl rfl ?_
  refine go_getf (q := 5) dX2_note_2 fRX2_17 rfl (by decide) rfl rfl ?_
  refine go_topi hH.1 ?_
  refine go_cV1 (cal := mX2_stateAt) (q := 8) dX2_note_5 lRX2_22 vX2_stateAt ⟨by decide, by decide⟩ rfl (by decide) (Nat.le_of_ble_eq_true rfl) (ok_stateAt (by have := hH.2.1; omega)) rfl ?_
  refine go_astore_n (q := 9) dX2_note_8 rfl (by decide) rfl rfl ?_
  refine go_aload_n (q := 10) dX2_note_9 rfl rfl rfl ?_
  refine go_ifnull (q := 13) dX2_note_10 rfl ?_
  refine go_aload_n (q := 14) dX2_note_13 rfl rfl rfl ?_
  refine go_aload_n (q := 15) dX2_note_14 rfl rfl rfl ?_
  refine go_kuV1 (cal := mX6_copyFrom) (q := 18) dX2_note_15 lRX2_26 vX6_copyFrom ⟨by decide, by decide⟩ rfl (hH.2.2.1 h (by have := hH.2.1; omega)).2 (Nat.le_of_ble_eq_true rfl) (ok_copyFrom (hH.2.2.1 h (by have := hH.2.1; omega)).2 (by decide) hR (by have := (hH.2.2.1 h (by have := hH.2.1; omega)).1; omega)) rfl (fun M1 hR1 hk1 => ?_)
  exact go_vret dX2_note_18 rfl ⟨rfl, hR1, hk1⟩
end
section
/-! ===== the history kept, taken back ===== -/
def khs (M : KM) (j : Nat) : KM := (M.1, M.2.1, fun a c => if a = 8 ∧ c < j then M.2.2 8 (c + 1) else M.2.2 a c)
theorem khs_0 (M : KM) : khs M 0 = M := by
  refine Prod.ext rfl (Prod.ext rfl ?_)
  funext a c
  show (if a = 8 ∧ c < 0 then _ else M.2.2 a c) = _
  rw [if_neg (fun z => Nat.not_lt_zero _ z.2)]
theorem khs_rd (M : KM) (j : Nat) : (khs M j).2.2 8 (j + 1) = M.2.2 8 (j + 1) := by
  show (if 8 = 8 ∧ j + 1 < j then _ else M.2.2 8 (j + 1)) = _
  rw [if_neg (by omega)]
theorem khs_step (M : KM) (j : Nat) : k_sr (khs M j) 8 j ((khs M j).2.2 8 (j + 1)) = khs M (j + 1) := by
  rw [khs_rd]
  refine Prod.ext rfl (Prod.ext rfl ?_)
  funext a c
  show (if a = 8 ∧ c = j then M.2.2 8 (j + 1) else (if a = 8 ∧ c < j then M.2.2 8 (c + 1) else M.2.2 a c)) = (if a = 8 ∧ c < j + 1 then M.2.2 8 (c + 1) else M.2.2 a c)
  by_cases h : a = 8
  · by_cases hc : c = j
    · subst hc
      rw [if_pos ⟨h, rfl⟩, if_pos ⟨h, by omega⟩]
    · rw [if_neg (fun z => hc z.2)]
      by_cases h2 : c < j
      · rw [if_pos ⟨h, h2⟩, if_pos ⟨h, by omega⟩]
      · rw [if_neg (fun z => h2 z.2), if_neg (fun z => by omega)]
  · rw [if_neg (fun z => h z.1), if_neg (fun z => h z.1), if_neg (fun z => h z.1)]
def hKeep (h : Nat) (hs : Nat → RO) (R : RO) : Nat × (Nat → RO) := if h < 4 then (h + 1, fun j => if j = h then R else hs j) else (4, fun j => if j = 3 then R else hs (j + 1))
def kH (M M' : KM) : Prop := M'.2.1 = M.2.1 ∧ (∀ c, M'.2.2 11 c = M.2.2 11 c) ∧ ∀ k b, k ≠ 7 → M'.1 k b = M.1 k b
theorem RA.cg {M M' : KM} {b : Nat} {R : RO} (h : RA M b R) (e : ∀ k, 1 ≤ k → k ≤ 6 → M'.1 k b = M.1 k b) : RA M' b R := by
  unfold RA at h ⊢
  rw [e 1 (by decide) (by decide), e 2 (by decide) (by decide), e 3 (by decide) (by decide), e 4 (by decide) (by decide), e 5 (by decide) (by decide), e 6 (by decide) (by decide)]
  exact h
theorem HA_inc {M : KM} {h : Nat} {hs : Nat → RO} {R : RO} (hH : HA M h hs) (hR : RA M (M.2.2 8 h) R) (h4 : h < 4) : HA (k_si M 7 0 1 (nI h + 1)) (hKeep h hs R).1 (hKeep h hs R).2 := by
  have e : ∀ b R', RA M b R' → RA (k_si M 7 0 1 (nI h + 1)) b R' := fun b R' h => h.cg (fun k h1 h6 => k_si_ne M _ (fun z => by omega))
  rw [show hKeep h hs R = (h + 1, fun j => if j = h then R else hs j) from if_pos h4]
  refine ⟨?_, by show h + 1 ≤ 4; omega, hH.2.2.1, hH.2.2.2.1, fun j hj => ?_⟩
  · exact nI_1 h
  · show RA _ (M.2.2 8 j) (if j = h then R else hs j)
    have hj' : j < h + 1 := hj
    by_cases hjh : j = h
    · subst hjh
      rw [if_pos rfl]; exact e _ _ hR
    · rw [if_neg hjh]; exact e _ _ (hH.2.2.2.2 j (by omega))
theorem HA_rot {M : KM} {h : Nat} {hs : Nat → RO} {R : RO} (hH : HA M h hs) (hR : RA M (M.2.2 8 h) R) (h4 : 4 ≤ h) : HA (k_sr (khs M 4) 8 4 (M.2.2 8 0)) (hKeep h hs R).1 (hKeep h hs R).2 := by
  obtain rfl : h = 4 := by have := hH.2.1; omega
  rw [show hKeep 4 hs R = (4, fun j => if j = 3 then R else hs (j + 1)) from if_neg (by omega)]
  have ev : ∀ j, j < 5 → (k_sr (khs M 4) 8 4 (M.2.2 8 0)).2.2 8 j = if j = 4 then M.2.2 8 0 else M.2.2 8 (j + 1) := fun j hj => by
    show (if 8 = 8 ∧ j = 4 then M.2.2 8 0 else (if 8 = 8 ∧ j < 4 then M.2.2 8 (j + 1) else M.2.2 8 j)) = _
    by_cases h : j = 4
    · rw [if_pos ⟨rfl, h⟩, if_pos h]
    · rw [if_neg (fun z => h z.2), if_neg h, if_pos ⟨rfl, by omega⟩]
  refine ⟨hH.1, Nat.le_refl 4, fun j hj => ?_, fun a b ha hb hab => ?_, fun j hj => ?_⟩
  · rw [ev j hj]
    by_cases h : j = 4
    · rw [if_pos h]; exact hH.2.2.1 0 (by decide)
    · rw [if_neg h]; exact hH.2.2.1 (j + 1) (by omega)
  · rw [ev a ha, ev b hb] at hab
    by_cases h1 : a = 4 <;> by_cases h2 : b = 4
    · omega
    · rw [if_pos h1, if_neg h2] at hab
      have := hH.2.2.2.1 0 (b + 1) (by decide) (by omega) hab
      omega
    · rw [if_neg h1, if_pos h2] at hab
      have := hH.2.2.2.1 (a + 1) 0 (by omega) (by decide) hab
      omega
    · rw [if_neg h1, if_neg h2] at hab
      have := hH.2.2.2.1 (a + 1) (b + 1) (by omega) (by omega) hab
      omega
  · have hj4 : j < 4 := hj
    rw [ev j (by omega), if_neg (by omega)]
    show RA _ (M.2.2 8 (j + 1)) (if j = 3 then R else hs (j + 1))
    by_cases h : j = 3
    · subst h
      rw [if_pos rfl]; exact hR.cg (fun _ _ _ => rfl)
    · rw [if_neg h]; exact (hH.2.2.2.2 (j + 1) (by omega)).cg (fun _ _ _ => rfl)
def KK (M : KM) (h : Nat) (hs : Nat → RO) (R : RO) : Option KV → KM → Prop := fun r M' => r = none ∧ HA M' (hKeep h hs R).1 (hKeep h hs R).2 ∧ kH M M'
def kT (M M' : KM) : Prop := M'.2 = M.2 ∧ ∀ k b, k ≠ 7 → ¬ (b = 0 ∧ 1 ≤ k ∧ k ≤ 6) → M'.1 k b = M.1 k b
def KB (M : KM) (g : Nat) (hs : Nat → RO) : Option KV → KM → Prop := fun r M' => r = none ∧ RA M' 0 (hs g) ∧ HA M' g hs ∧ kT M M'
theorem lp_keepNoted {M : KM} {h : Nat} {hs : Nat → RO} {R : RO} (hH : HA M h hs) (hR : RA M (M.2.2 8 h) R) (h4 : 4 ≤ h) : ∀ (d : Nat) (j : Nat) (y : Int32), 4 - j < d → (y = nI j) → (j ≤ 4) → Go mX2_keepNoted (Zm (KK M h hs R)) (khs M j) [some (vR 7 0), some (vR 1 (M.2.2 8 0)), some (vI y)] [] 28 := by
  intro d
  induction d with
  | zero => intro j y hd; exact absurd hd (Nat.not_lt_zero _)
  | succ d ih =>
    intro j y hd h0 h1
    refine go_iload_n (q := 29) dX2_keepNoted_28 rfl rfl rfl ?_
    refine go_iconst (q := 30) (v := 4) dX2_keepNoted_29 (by decide) rfl ?_
    refine go_icmp_geN j 4 (q := 33) (t := 53) dX2_keepNoted_30 (by decide) rfl h0 rfl (by omega) (by omega) (fun c_30 => ?_) (fun c_30 => ?_)
    · obtain rfl : j = 4 := by omega
      refine go_aload_n (q := 54) dX2_keepNoted_53 rfl rfl rfl ?_
      refine go_getf (q := 57) dX2_keepNoted_54 fRX2_11 rfl (by decide) rfl rfl ?_
      refine go_iconst (q := 58) (v := 4) dX2_keepNoted_57 (by decide) rfl ?_
      refine go_aload_n (q := 59) dX2_keepNoted_58 rfl rfl rfl ?_
      refine go_aast (q := 60) 4 dX2_keepNoted_59 (hH.2.2.1 0 (by decide)).2 rfl (by decide) rfl ?_
      exact go_vret dX2_keepNoted_60 rfl ⟨rfl, HA_rot hH hR h4, rfl, fun c => rfl, fun k b _ => rfl⟩
    · subst h0
      refine go_aload_n (q := 34) dX2_keepNoted_33 rfl rfl rfl ?_
      refine go_getf (q := 37) dX2_keepNoted_34 fRX2_11 rfl (by decide) rfl rfl ?_
      refine go_iload_n (q := 38) dX2_keepNoted_37 rfl rfl rfl ?_
      refine go_aload_n (q := 39) dX2_keepNoted_38 rfl rfl rfl ?_
      refine go_getf (q := 42) dX2_keepNoted_39 fRX2_11 rfl (by decide) rfl rfl ?_
      refine go_iload_n (q := 43) dX2_keepNoted_42 rfl rfl rfl ?_
      refine go_iconst (q := 44) (v := 1) dX2_keepNoted_43 (by decide) rfl ?_
      refine go_iadd (q := 45) dX2_keepNoted_44 rfl ?_
      refine go_aald (q := 46) (j + 1) dX2_keepNoted_45 (nI_1 j) (by omega) rfl ?_
      refine go_aast (q := 47) j dX2_keepNoted_46 (by rw [khs_rd]; exact (hH.2.2.1 (j + 1) (by omega)).2) rfl (by omega) rfl ?_
      refine go_iinc (q := 50) (v := 1) dX2_keepNoted_47 (by decide) rfl (by decide) rfl rfl ?_
      refine go_goto (q := 28) dX2_keepNoted_50 (by decide) ?_
      exact go_mem (khs_step M j) (ih (j + 1) _ (by omega) (nI_1 j) (by omega))
theorem ok_keepNoted {M : KM} {h : Nat} {hs : Nat → RO} {R : RO} (hH : HA M h hs) (hR : RA M (M.2.2 8 h) R) : Ok mX2_keepNoted [vR 7 0] M (KK M h hs R) := by
  refine ok_of (by decide) rfl (Nat.le_of_ble_eq_true rfl) ⟨rfl, rfl⟩ ?_
  show Go mX2_keepNoted (Zm (KK M h hs R)) M [some (vR 7 0), none, none] [] 0
  refine go_aload_n (q := 1) dX2_keepNoted_0 rfl rfl rfl ?_
  refine go_getf (q := 4) dX2_keepNoted_1 fRX2_17 rfl (by decide) rfl rfl ?_
  refine go_topi hH.1 ?_
  refine go_iconst (q := 5) (v := 4) dX2_keepNoted_4 (by decide) rfl ?_
  refine go_icmp_geN h 4 (q := 8) (t := 19) dX2_keepNoted_5 (by decide) rfl rfl rfl (by have := hH.2.1; omega) (by omega) (fun c_5 => ?_) (fun c_5 => ?_)
  · refine go_aload_n (q := 20) dX2_keepNoted_19 rfl rfl rfl ?_
    refine go_getf (q := 23) dX2_keepNoted_20 fRX2_11 rfl (by decide) rfl rfl ?_
    refine go_iconst (q := 24) (v := 0) dX2_keepNoted_23 (by decide) rfl ?_
    refine go_aald (q := 25) 0 dX2_keepNoted_24 rfl (by decide) rfl ?_
    refine go_astore_n (q := 26) dX2_keepNoted_25 rfl (by decide) rfl rfl ?_
    refine go_iconst (q := 27) (v := 0) dX2_keepNoted_26 (by decide) rfl ?_
    refine go_istore_n (q := 28) dX2_keepNoted_27 rfl (by decide) rfl rfl ?_
    have := lp_keepNoted hH hR c_5 5 0 0 (by omega) rfl (by omega)
    rw [khs_0] at this
    exact this
  · refine go_aload_n (q := 9) dX2_keepNoted_8 rfl rfl rfl ?_
    refine go_dup (q := 10) dX2_keepNoted_9 rfl rfl ?_
    refine go_getf (q := 13) dX2_keepNoted_10 fRX2_17 rfl (by decide) rfl rfl ?_
    refine go_topi hH.1 ?_
    refine go_iconst (q := 14) (v := 1) dX2_keepNoted_13 (by decide) rfl ?_
    refine go_iadd (q := 15) dX2_keepNoted_14 rfl ?_
    refine go_puti (q := 18) dX2_keepNoted_15 pRX2_17 rfl (by decide) rfl rfl rfl (Nat.le_of_ble_eq_true rfl) rfl ?_
    exact go_vret dX2_keepNoted_18 rfl ⟨rfl, HA_inc hH hR c_5, rfl, fun c => rfl, fun k b hk => k_si_ne M _ (fun z => hk z.1)⟩
theorem HA_dec {M M1 : KM} {g : Nat} {hs : Nat → RO} {R : RO} (hH : HA M (g + 1) hs) (hk : kRoll 0 M M1) (v : Int32) (hv : v = nI g) : HA (k_si M1 7 0 1 v) g hs := by
  refine ⟨?_, by have := hH.2.1; omega, ?_, ?_, fun j hj => ?_⟩
  · exact hv
  · show ∀ j, j < 5 → 3 ≤ M1.2.2 8 j ∧ M1.2.2 8 j < 8
    rw [hk.1]; exact hH.2.2.1
  · show ∀ a b, a < 5 → b < 5 → M1.2.2 8 a = M1.2.2 8 b → a = b
    rw [hk.1]; exact hH.2.2.2.1
  · show RA _ (M1.2.2 8 j) _
    rw [hk.1]
    have h3 := (hH.2.2.1 j (by have := hH.2.1; omega)).1
    exact ((hH.2.2.2.2 j (by omega)).keep hk (by omega)).cg (fun k h1 h6 => k_si_ne M1 _ (fun z => by omega))
theorem ok_takeBack {M : KM} {g : Nat} {hs : Nat → RO} (hH : HA M (g + 1) hs) : Ok mX2_takeBack [vR 7 0, vR 1 0] M (KB M g hs) := by
  refine ok_of (by decide) rfl (Nat.le_of_ble_eq_true rfl) ⟨rfl, rfl⟩ ?_
  show Go mX2_takeBack (Zm (KB M g hs)) M [some (vR 7 0), some (vR 1 0), none] [] 0
  refine go_aload_n (q := 1) dX2_takeBack_0 rfl rfl rfl ?_
  refine go_aload_n (q := 2) dX2_takeBack_1 rfl rfl rfl ?_
  refine go_getf (q := 5) dX2_takeBack_2 fRX2_17 rfl (by decide) rfl rfl ?_
  refine go_topi hH.1 ?_
  refine go_iconst (q := 6) (v := 1) dX2_takeBack_5 (by decide) rfl ?_
  refine go_isub (q := 7) dX2_takeBack_6 rfl ?_
  refine go_topi (nI_pred g) ?_
  refine go_cV1 (cal := mX2_stateAt) (q := 10) dX2_takeBack_7 lRX2_22 vX2_stateAt ⟨by decide, by decide⟩ rfl (by decide) (Nat.le_of_ble_eq_true rfl) (ok_stateAt (by have := hH.2.1; omega)) rfl ?_
  refine go_astore_n (q := 11) dX2_takeBack_10 rfl (by decide) rfl rfl ?_
  refine go_aload_n (q := 12) dX2_takeBack_11 rfl rfl rfl ?_
  refine go_ifnull (q := 15) dX2_takeBack_12 rfl ?_
  refine go_aload_n (q := 16) dX2_takeBack_15 rfl rfl rfl ?_
  refine go_aload_n (q := 17) dX2_takeBack_16 rfl rfl rfl ?_
  refine go_kuV1 (cal := mX6_copyFrom) (q := 20) dX2_takeBack_17 lRX2_26 vX6_copyFrom ⟨by decide, by decide⟩ rfl (by decide) (Nat.le_of_ble_eq_true rfl) (ok_copyFrom (by decide) (hH.2.2.1 g (by have := hH.2.1; omega)).2 (hH.2.2.2.2 g (by omega)) (by have := (hH.2.2.1 g (by have := hH.2.1; omega)).1; omega)) rfl (fun M1 hR1 hk1 => ?_)
  refine go_aload_n (q := 21) dX2_takeBack_20 rfl rfl rfl ?_
  refine go_dup (q := 22) dX2_takeBack_21 rfl rfl ?_
  refine go_getf (q := 25) dX2_takeBack_22 fRX2_17 rfl (by decide) rfl rfl ?_
  refine go_topi (v := nI (g + 1)) (by rw [hk1.2 7 0 (by omega)]; exact hH.1) ?_
  refine go_iconst (q := 26) (v := 1) dX2_takeBack_25 (by decide) rfl ?_
  refine go_isub (q := 27) dX2_takeBack_26 rfl ?_
  refine go_topi (nI_pred g) ?_
  refine go_puti (q := 30) dX2_takeBack_27 pRX2_17 rfl (by decide) rfl rfl rfl (Nat.le_of_ble_eq_true rfl) rfl ?_
  exact go_vret dX2_takeBack_30 rfl ⟨rfl, hR1.cg (fun k h1 h6 => k_si_ne M1 _ (fun z => by omega)), HA_dec (R := hs g) hH hk1 _ rfl, hk1.1, fun k b h7 hb => (k_si_ne M1 _ (fun z => h7 z.1)).trans (hk1.2 k b hb)⟩
end
section
/-! ===== switches ===== -/
section SwRows
variable {I : KI} {Z : KZ} {M : KM} {loc : List (Option KV)} {st : List KV} {pc q len : Nat} {x : Int32}
theorem go_tableIn (k : Int) {dflt lo hi off : Int} {offs : Array Int} (hd : decode I.2.1 pc = .ok (.tableswitch dflt lo hi offs, len)) (hk : x.toInt = k) (h1 : ¬ k < lo) (h2 : ¬ hi < k) (ho : offs[(k - lo).toNat]? = some off) (ht : (pc : Int) + off = (q : Int)) (h : Go I Z M loc st q) : Go I Z M loc (vI x :: st) pc := by
  subst hk
  intro G Hb p l e R s m args below meth c cells slots Qf hC hZ H ls locs hW hF hL hl
  obtain ⟨hx, hb, hml, hrt, hown, hlk, hts, hK, hRf, hRl, hce, hsl⟩ := id hC
  exact lv_tableIn hx hb hd h1 h2 ho ht (h G Hb p l e R s m args below meth c cells slots Qf hC hZ H ls locs hW hF hL hl)
theorem go_tableOut {dflt lo hi : Int} {offs : Array Int} (hd : decode I.2.1 pc = .ok (.tableswitch dflt lo hi offs, len)) (hk : x.toInt < lo ∨ hi < x.toInt) (ht : (pc : Int) + dflt = (q : Int)) (h : Go I Z M loc st q) : Go I Z M loc (vI x :: st) pc := by
  intro G Hb p l e R s m args below meth c cells slots Qf hC hZ H ls locs hW hF hL hl
  obtain ⟨hx, hb, hml, hrt, hown, hlk, hts, hK, hRf, hRl, hce, hsl⟩ := id hC
  exact lv_tableOut hx hb hd hk ht (h G Hb p l e R s m args below meth c cells slots Qf hC hZ H ls locs hW hF hL hl)
theorem go_lookup {dflt off : Int} {ps : Array (Int × Int)} (hd : decode I.2.1 pc = .ok (.lookupswitch dflt ps, len)) (hp : (ps.toList.zip (ps.toList.drop 1)).all (fun (a, next) => a.1 < next.1) = true) (ho : Op.lookupswitch.offset ps.toList dflt x.toInt = off) (ht : (pc : Int) + off = (q : Int)) (h : Go I Z M loc st q) : Go I Z M loc (vI x :: st) pc := by
  intro G Hb p l e R s m args below meth c cells slots Qf hC hZ H ls locs hW hF hL hl
  obtain ⟨hx, hb, hml, hrt, hown, hlk, hts, hK, hRf, hRl, hce, hsl⟩ := id hC
  exact lv_lookup hx hb hd hp ho ht (h G Hb p l e R s m args below meth c cells slots Qf hC hZ H ls locs hW hF hL hl)
end SwRows
/-! ===== the pad ===== -/
def PA (M : KM) (n : Nat) (c : Nat → Nat) : Prop := M.1 9 0 1 = nI n ∧ n ≤ 60 ∧ ∀ j, j < n → M.1 10 0 j = nI (c j) ∧ 33 ≤ c j ∧ c j ≤ 126
/-- the sign at a place, 0 where there is none -/
def ch (n : Nat) (c : Nat → Nat) (j : Nat) : Nat := if j < n then c j else 0
theorem PA.ln {M : KM} {n : Nat} {c : Nat → Nat} (h : PA M n c) : M.1 9 0 1 = nI n := h.1
theorem ch_lt {M : KM} {n : Nat} {c : Nat → Nat} (h : PA M n c) (j : Nat) : ch n c j < 127 := by
  unfold ch
  split
  · have := (h.2.2 j (by assumption)).2.2; omega
  · decide
def isB (x a b : Nat) : Bool := decide (a ≤ x) && decide (x ≤ b)
/-- the states of the pad's reader: what comes next; none: wrong -/
def sDeed (x : Nat) : Option Nat := if x = 59 then some 7 else none
def sLet (x : Nat) : Option Nat := if x = 102 then some 6 else if x = 115 then some 8 else if x = 100 ∨ x = 104 then some 13 else none
def sFat (x : Nat) : Option Nat := if x = 46 then some 11 else none
def sDig (x a b : Nat) : Option Nat := if isB x 48 57 = false then none else if x = 49 then some a else some b
def sA (s x : Nat) : Option Nat := match s with
  | 0 => sDeed x
  | 7 => sLet x
  | 8 => sDig x 9 10
  | 9 => if isB x 48 57 = true then some 10 else sFat x
  | 10 => sFat x
  | 11 => if isB x 48 53 = true then some 12 else none
  | 12 => if x = 61 then some 1 else none
  | 13 => sDig x 14 0
  | 14 => if isB x 48 57 = true then some 0 else sDeed x
  | s => if isB x 48 52 = true then some (s - 1) else none
theorem ok_plen {M : KM} {n : Nat} {c : Nat → Nat} (hP : PA M n c) : OkF mX5_length [vR 9 0] M (some (vI (nI n))) M := by
  refine ok_of (by decide) rfl (Nat.le_of_ble_eq_true rfl) ⟨rfl, rfl⟩ ?_
  show Go mX5_length (Zm (QF (some (vI (nI n))) M)) M [some (vR 9 0)] [] 0
  refine go_aload_n (q := 1) dX5_length_0 rfl rfl rfl ?_
  refine go_getf (q := 4) dX5_length_1 fRX5_15 rfl (by decide) rfl rfl ?_
  refine go_topi hP.ln ?_
  exact go_ri dX5_length_4 rfl (by rfl) rfl
theorem ok_isFull {M : KM} {n : Nat} {c : Nat → Nat} (hP : PA M n c) : OkF mX5_isFull [vR 9 0] M (some (vI (bI (decide (60 ≤ n))))) M := by
  refine ok_of (by decide) rfl (Nat.le_of_ble_eq_true rfl) ⟨rfl, rfl⟩ ?_
  show Go mX5_isFull (Zm (QF (some (vI (bI (decide (60 ≤ n))))) M)) M [some (vR 9 0)] [] 0
  refine go_aload_n (q := 1) dX5_isFull_0 rfl rfl rfl ?_
  refine go_getf (q := 4) dX5_isFull_1 fRX5_15 rfl (by decide) rfl rfl ?_
  refine go_topi hP.ln ?_
  refine go_bipush (q := 6) (v := 60) dX5_isFull_4 (by decide) rfl ?_
  refine go_icmp_ltN n 60 (q := 9) (t := 13) dX5_isFull_6 (by decide) rfl rfl rfl (by have := hP.2.1; omega) (by omega) (fun c_6 => ?_) (fun c_6 => ?_)
  · refine go_iconst (q := 14) (v := 0) dX5_isFull_13 (by decide) rfl ?_
    exact go_rz dX5_isFull_14 rfl (by rw [decide_eq_false (by omega)]; rfl) rfl
  · refine go_iconst (q := 10) (v := 1) dX5_isFull_9 (by decide) rfl ?_
    refine go_goto (q := 14) dX5_isFull_10 (by decide) ?_
    exact go_rz dX5_isFull_14 rfl (by rw [decide_eq_true (by omega)]; rfl) rfl
theorem k_neg {n : Nat} {A : Prop} (hn : n < 2 ^ 31) (h : nI n < 0) : A := by
  have e0 : (0 : Int32).toInt = 0 := by decide
  rw [i32_lt, nI_toInt hn, e0] at h
  omega
theorem PA_put {M : KM} {n x : Nat} {c : Nat → Nat} (hP : PA M n c) (hn : n < 60) (h1 : 33 ≤ x) (h2 : x ≤ 126) : PA (k_si (k_si M 10 0 n (nI x)) 9 0 1 (nI n + 1)) (n + 1) (fun j => if j = n then x else c j) := by
  refine ⟨nI_1 n, hn, fun j hj => ?_⟩
  show (if 10 = 10 ∧ j = n ∧ 0 = 0 then nI x else M.1 10 0 j) = nI (if j = n then x else c j) ∧ 33 ≤ (if j = n then x else c j) ∧ (if j = n then x else c j) ≤ 126
  by_cases h : j = n
  · rw [if_pos ⟨rfl, h, rfl⟩, if_pos h]; exact ⟨rfl, h1, h2⟩
  · rw [if_neg (fun z => h z.2.1), if_neg h]; exact hP.2.2 j (by omega)
def kP (M M' : KM) : Prop := M'.2 = M.2 ∧ ∀ k b, k ≠ 9 → k ≠ 10 → M'.1 k b = M.1 k b
def KPQ (M : KM) (n : Nat) (c : Nat → Nat) : Option KV → KM → Prop := fun r M' => r = none ∧ PA M' n c ∧ kP M M'
theorem go_kpV0 {I cal : KI} {Z : KZ} {M : KM} {loc : List (Option KV)} {rest : List KV} {pc q idx k i n : Nat} {c : Nat → Nat} (hd : decode I.2.1 pc = .ok (.invokevirtual idx, 3)) (hlink : Cond.methodLink I.1.cls idx cal.1 ∈ k_tb) (hc : KCV cal 0) (hR : KR I cal) (hcls : (k_oc k).bind (fun ci => (vwCl[ci]?).map (fun q => q.1)) = some cal.1.cls) (hi : i < k_cnt k) (hr : (rest.map k_cat).sum ≤ 8) (hok : Ok cal (vR k i :: []) M (KPQ M n c)) (hq : pc + 3 = q) (kk : ∀ M1, PA M1 n c → kP M M1 → Go I Z M1 loc rest q) : Go I Z M loc (vR k i :: rest) pc :=
  go_callV [] hd hlink hc hR rfl hcls hi hr hok hq (fun r M2 hrm => by obtain ⟨rfl, h1, h2⟩ := hrm; exact kk M2 h1 h2)
theorem go_kpV1 {I cal : KI} {Z : KZ} {M : KM} {loc : List (Option KV)} {rest : List KV} {pc q idx k i n : Nat} {a0 : KV} {c : Nat → Nat} (hd : decode I.2.1 pc = .ok (.invokevirtual idx, 3)) (hlink : Cond.methodLink I.1.cls idx cal.1 ∈ k_tb) (hc : KCV cal 1) (hR : KR I cal) (hcls : (k_oc k).bind (fun ci => (vwCl[ci]?).map (fun q => q.1)) = some cal.1.cls) (hi : i < k_cnt k) (hr : (rest.map k_cat).sum ≤ 8) (hok : Ok cal (vR k i :: [a0]) M (KPQ M n c)) (hq : pc + 3 = q) (kk : ∀ M1, PA M1 n c → kP M M1 → Go I Z M1 loc rest q) : Go I Z M loc (a0 :: vR k i :: rest) pc :=
  go_callV [a0] hd hlink hc hR rfl hcls hi hr hok hq (fun r M2 hrm => by obtain ⟨rfl, h1, h2⟩ := hrm; exact kk M2 h1 h2)
theorem ok_put {M : KM} {n : Nat} {c : Nat → Nat} (hP : PA M n c) (hn : n < 60) {x : Nat} (h1 : 33 ≤ x) (h2 : x ≤ 126) : Ok mX5_put [vR 9 0, vI (nI x)] M (KPQ M (n + 1) (fun j => if j = n then x else c j)) := by
  refine ok_of (by decide) rfl (Nat.le_of_ble_eq_true rfl) ⟨rfl, rfl⟩ ?_
  show Go mX5_put (Zm (KPQ M (n + 1) (fun j => if j = n then x else c j))) M [some (vR 9 0), some (vI (nI x))] [] 0
  refine go_aload_n (q := 1) dX5_put_0 rfl rfl rfl ?_
  refine go_getf (q := 4) dX5_put_1 fRX5_15 rfl (by decide) rfl rfl ?_
  refine go_topi hP.ln ?_
  refine go_if_lt (q := 7) (t := 36) dX5_put_4 (by decide) rfl (fun c_4 => ?_) (fun c_4 => ?_)
  · exact k_neg (by omega) c_4
  · refine go_aload_n (q := 8) dX5_put_7 rfl rfl rfl ?_
    refine go_getf (q := 11) dX5_put_8 fRX5_15 rfl (by decide) rfl rfl ?_
    refine go_topi hP.ln ?_
    refine go_bipush (q := 13) (v := 60) dX5_put_11 (by decide) rfl ?_
    refine go_icmp_geN n 60 (q := 16) (t := 36) dX5_put_13 (by decide) rfl rfl rfl (by omega) (by omega) (fun c_13 => ?_) (fun c_13 => ?_)
    · omega
    · refine go_aload_n (q := 17) dX5_put_16 rfl rfl rfl ?_
      refine go_getf (q := 20) dX5_put_17 fRX5_11 rfl (by decide) rfl rfl ?_
      refine go_aload_n (q := 21) dX5_put_20 rfl rfl rfl ?_
      refine go_getf (q := 24) dX5_put_21 fRX5_15 rfl (by decide) rfl rfl ?_
      refine go_topi hP.ln ?_
      refine go_iload_n (q := 25) dX5_put_24 rfl rfl rfl ?_
      refine go_iast (q := 26) n dX5_put_25 rfl rfl (by decide) rfl hn rfl ?_
      refine go_aload_n (q := 27) dX5_put_26 rfl rfl rfl ?_
      refine go_dup (q := 28) dX5_put_27 rfl rfl ?_
      refine go_getf (q := 31) dX5_put_28 fRX5_15 rfl (by decide) rfl rfl ?_
      refine go_topi hP.ln ?_
      refine go_iconst (q := 32) (v := 1) dX5_put_31 (by decide) rfl ?_
      refine go_iadd (q := 33) dX5_put_32 rfl ?_
      refine go_puti (q := 36) dX5_put_33 pRX5_15 rfl (by decide) rfl rfl rfl (Nat.le_of_ble_eq_true rfl) rfl ?_
      exact go_vret dX5_put_36 rfl ⟨rfl, PA_put hP hn h1 h2, rfl, fun k b h9 h10 => (k_si_ne _ _ (fun z => h9 z.1)).trans (k_si_ne _ _ (fun z => h10 z.1))⟩
theorem ok_empty {M : KM} {n : Nat} {c : Nat → Nat} (hP : PA M n c) : Ok mX5_empty [vR 9 0] M (KPQ M 0 c) := by
  refine ok_of (by decide) rfl (Nat.le_of_ble_eq_true rfl) ⟨rfl, rfl⟩ ?_
  show Go mX5_empty (Zm (KPQ M 0 c)) M [some (vR 9 0)] [] 0
  refine go_aload_n (q := 1) dX5_empty_0 rfl rfl rfl ?_
  refine go_iconst (q := 2) (v := 0) dX5_empty_1 (by decide) rfl ?_
  refine go_puti (q := 5) dX5_empty_2 pRX5_15 rfl (by decide) rfl rfl rfl (Nat.le_of_ble_eq_true rfl) rfl ?_
  exact go_vret dX5_empty_5 rfl ⟨rfl, ⟨rfl, by decide, fun j hj => absurd hj (Nat.not_lt_zero _)⟩, rfl, fun k b h9 h10 => k_si_ne _ _ (fun z => h9 z.1)⟩
theorem ok_signAt {M : KM} {n : Nat} {c : Nat → Nat} (hP : PA M n c) {j : Nat} (hj : j < 2 ^ 31) : OkF mX5_signAt [vR 9 0, vI (nI j)] M (some (vI (nI (ch n c j)))) M := by
  refine ok_of (by decide) rfl (Nat.le_of_ble_eq_true rfl) ⟨rfl, rfl⟩ ?_
  show Go mX5_signAt (Zm (QF (some (vI (nI (ch n c j)))) M)) M [some (vR 9 0), some (vI (nI j))] [] 0
  refine go_iload_n (q := 1) dX5_signAt_0 rfl rfl rfl ?_
  refine go_if_lt (q := 4) (t := 27) dX5_signAt_1 (by decide) rfl (fun c_1 => ?_) (fun c_1 => ?_)
  · exact k_neg hj c_1
  · refine go_iload_n (q := 5) dX5_signAt_4 rfl rfl rfl ?_
    refine go_aload_n (q := 6) dX5_signAt_5 rfl rfl rfl ?_
    refine go_getf (q := 9) dX5_signAt_6 fRX5_15 rfl (by decide) rfl rfl ?_
    refine go_topi hP.ln ?_
    refine go_icmp_geN j n (q := 12) (t := 27) dX5_signAt_9 (by decide) rfl rfl rfl hj (by have := hP.2.1; omega) (fun c_9 => ?_) (fun c_9 => ?_)
    · refine go_iconst (q := 28) (v := 0) dX5_signAt_27 (by decide) rfl ?_
      exact go_ri dX5_signAt_28 rfl (by rw [show ch n c j = 0 from if_neg (by omega)]; rfl) rfl
    · refine go_iload_n (q := 13) dX5_signAt_12 rfl rfl rfl ?_
      refine go_bipush (q := 15) (v := 60) dX5_signAt_13 (by decide) rfl ?_
      refine go_icmp_geN j 60 (q := 18) (t := 27) dX5_signAt_15 (by decide) rfl rfl rfl (by omega) (by omega) (fun c_15 => ?_) (fun c_15 => ?_)
      · have := hP.2.1; omega
      · refine go_aload_n (q := 19) dX5_signAt_18 rfl rfl rfl ?_
        refine go_getf (q := 22) dX5_signAt_19 fRX5_11 rfl (by decide) rfl rfl ?_
        refine go_iload_n (q := 23) dX5_signAt_22 rfl rfl rfl ?_
        refine go_iald (q := 24) j dX5_signAt_23 rfl rfl (by decide) rfl (by omega) rfl ?_
        refine go_goto (q := 28) dX5_signAt_24 (by decide) ?_
        exact go_ri dX5_signAt_28 rfl (by rw [show ch n c j = c j from if_pos c_9]; exact (hP.2.2 j c_9).1) rfl
theorem ok_startsDeed {M : KM} {n : Nat} {c : Nat → Nat} (hP : PA M n c) {j : Nat} (hj : j < 2 ^ 31) : OkF mX5_startsDeed [vR 9 0, vI (nI j)] M (some (vI (bI (decide (j = 0 ∨ ch n c (j - 1) = 59))))) M := by
  refine ok_of (by decide) rfl (Nat.le_of_ble_eq_true rfl) ⟨rfl, rfl⟩ ?_
  show Go mX5_startsDeed (Zm (QF (some (vI (bI (decide (j = 0 ∨ ch n c (j - 1) = 59))))) M)) M [some (vR 9 0), some (vI (nI j))] [] 0
  refine go_iload_n (q := 1) dX5_startsDeed_0 rfl rfl rfl ?_
  refine go_if_eq (q := 4) (t := 16) dX5_startsDeed_1 (by decide) rfl (fun c_1 => ?_) (fun c_1 => ?_)
  · refine go_iconst (q := 17) (v := 1) dX5_startsDeed_16 (by decide) rfl ?_
    refine go_goto (q := 21) dX5_startsDeed_17 (by decide) ?_
    exact go_rz dX5_startsDeed_21 rfl (by rw [decide_eq_true (Or.inl ((nI_eq hj (by decide)).mp c_1))]; rfl) rfl
  · have hj0 : 0 < j := by
      rcases Nat.eq_zero_or_pos j with h | h
      · subst h; exact absurd rfl c_1
      · exact h
    refine go_aload_n (q := 5) dX5_startsDeed_4 rfl rfl rfl ?_
    refine go_iload_n (q := 6) dX5_startsDeed_5 rfl rfl rfl ?_
    refine go_iconst (q := 7) (v := 1) dX5_startsDeed_6 (by decide) rfl ?_
    refine go_isub (q := 8) dX5_startsDeed_7 rfl ?_
    refine go_topi (v := nI (j - 1)) (by obtain ⟨i, rfl⟩ : ∃ i, j = i + 1 := ⟨j - 1, by omega⟩; exact nI_pred i) ?_
    refine go_cV1 (cal := mX5_signAt) (q := 11) dX5_startsDeed_8 lRX5_19 vX5_signAt ⟨by decide, by decide⟩ rfl (by decide) (Nat.le_of_ble_eq_true rfl) (ok_signAt hP (by omega)) rfl ?_
    refine go_bipush (q := 13) (v := 59) dX5_startsDeed_11 (by decide) rfl ?_
    refine go_icmp_neN (ch n c (j - 1)) 59 (q := 16) (t := 20) dX5_startsDeed_13 (by decide) rfl rfl rfl (by have := ch_lt hP (j - 1); omega) (by omega) (fun c_13 => ?_) (fun c_13 => ?_)
    · refine go_iconst (q := 21) (v := 0) dX5_startsDeed_20 (by decide) rfl ?_
      exact go_rz dX5_startsDeed_21 rfl (by rw [decide_eq_false (by omega)]; rfl) rfl
    · refine go_iconst (q := 17) (v := 1) dX5_startsDeed_16 (by decide) rfl ?_
      refine go_goto (q := 21) dX5_startsDeed_17 (by decide) ?_
      exact go_rz dX5_startsDeed_21 rfl (by rw [decide_eq_true (Or.inr c_13)]; rfl) rfl
theorem ok_digitAt {M : KM} {n : Nat} {c : Nat → Nat} (hP : PA M n c) {j : Nat} (hj : j < 2 ^ 31) : OkF mX5_digitAt [vR 9 0, vI (nI j)] M (some (vI (nI (ch n c j) - 48))) M := by
  refine ok_of (by decide) rfl (Nat.le_of_ble_eq_true rfl) ⟨rfl, rfl⟩ ?_
  show Go mX5_digitAt (Zm (QF (some (vI (nI (ch n c j) - 48))) M)) M [some (vR 9 0), some (vI (nI j))] [] 0
  refine go_aload_n (q := 1) dX5_digitAt_0 rfl rfl rfl ?_
  refine go_iload_n (q := 2) dX5_digitAt_1 rfl rfl rfl ?_
  refine go_cV1 (cal := mX5_signAt) (q := 5) dX5_digitAt_2 lRX5_19 vX5_signAt ⟨by decide, by decide⟩ rfl (by decide) (Nat.le_of_ble_eq_true rfl) (ok_signAt hP hj) rfl ?_
  refine go_bipush (q := 7) (v := 48) dX5_digitAt_5 (by decide) rfl ?_
  refine go_isub (q := 8) dX5_digitAt_7 rfl ?_
  exact go_ri dX5_digitAt_8 rfl (by rfl) rfl
theorem ok_isBetween {M : KM} {x a b : Nat} (hx : x < 2 ^ 31) (ha : a < 2 ^ 31) (hb : b < 2 ^ 31) : OkF mX5_isBetween [vI (nI x), vI (nI a), vI (nI b)] M (some (vI (bI (isB x a b)))) M := by
  refine ok_of (by decide) rfl (Nat.le_of_ble_eq_true rfl) ⟨rfl, rfl⟩ ?_
  show Go mX5_isBetween (Zm (QF (some (vI (bI (isB x a b)))) M)) M [some (vI (nI x)), some (vI (nI a)), some (vI (nI b))] [] 0
  refine go_iload_n (q := 1) dX5_isBetween_0 rfl rfl rfl ?_
  refine go_iload_n (q := 2) dX5_isBetween_1 rfl rfl rfl ?_
  refine go_icmp_ltN x a (q := 5) (t := 14) dX5_isBetween_2 (by decide) rfl rfl rfl hx ha (fun c_2 => ?_) (fun c_2 => ?_)
  · refine go_iconst (q := 15) (v := 0) dX5_isBetween_14 (by decide) rfl ?_
    exact go_rz dX5_isBetween_15 rfl (by rw [show isB x a b = false from by simp [isB]; omega]; rfl) rfl
  · refine go_iload_n (q := 6) dX5_isBetween_5 rfl rfl rfl ?_
    refine go_iload_n (q := 7) dX5_isBetween_6 rfl rfl rfl ?_
    refine go_icmp_gtN x b (q := 10) (t := 14) dX5_isBetween_7 (by decide) rfl rfl rfl hx hb (fun c_7 => ?_) (fun c_7 => ?_)
    · refine go_iconst (q := 15) (v := 0) dX5_isBetween_14 (by decide) rfl ?_
      exact go_rz dX5_isBetween_15 rfl (by rw [show isB x a b = false from by simp [isB]; omega]; rfl) rfl
    · refine go_iconst (q := 11) (v := 1) dX5_isBetween_10 (by decide) rfl ?_
      refine go_goto (q := 15) dX5_isBetween_11 (by decide) ?_
      exact go_rz dX5_isBetween_15 rfl (by rw [show isB x a b = true from by simp [isB]; omega]; rfl) rfl
theorem ok_afterNumber {M : KM} {n : Nat} {c : Nat → Nat} (hP : PA M n c) {j : Nat} (hj : j + 1 < 2 ^ 31) : OkF mX5_afterNumber [vR 9 0, vI (nI j)] M (some (vI (nI (if isB (ch n c (j + 1)) 48 57 = true then j + 2 else j + 1)))) M := by
  refine ok_of (by decide) rfl (Nat.le_of_ble_eq_true rfl) ⟨rfl, rfl⟩ ?_
  show Go mX5_afterNumber (Zm (QF (some (vI (nI (if isB (ch n c (j + 1)) 48 57 = true then j + 2 else j + 1)))) M)) M [some (vR 9 0), some (vI (nI j))] [] 0
  refine go_aload_n (q := 1) dX5_afterNumber_0 rfl rfl rfl ?_
  refine go_iload_n (q := 2) dX5_afterNumber_1 rfl rfl rfl ?_
  refine go_iconst (q := 3) (v := 1) dX5_afterNumber_2 (by decide) rfl ?_
  refine go_iadd (q := 4) dX5_afterNumber_3 rfl ?_
  refine go_topi (nI_1 j) ?_
  refine go_cV1 (cal := mX5_signAt) (q := 7) dX5_afterNumber_4 lRX5_19 vX5_signAt ⟨by decide, by decide⟩ rfl (by decide) (Nat.le_of_ble_eq_true rfl) (ok_signAt hP hj) rfl ?_
  refine go_bipush (q := 9) (v := 48) dX5_afterNumber_7 (by decide) rfl ?_
  refine go_bipush (q := 11) (v := 57) dX5_afterNumber_9 (by decide) rfl ?_
  refine go_cS3 (cal := mX5_isBetween) (q := 14) dX5_afterNumber_11 lRX5_23 vX5_isBetween ⟨by decide, by decide⟩ (Nat.le_of_ble_eq_true rfl) (ok_isBetween (by have := ch_lt hP (j + 1); omega) (by decide) (by decide)) rfl ?_
  refine go_if_eqB (q := 17) (t := 23) dX5_afterNumber_14 (by decide) rfl (fun c_14 => ?_) (fun c_14 => ?_)
  · refine go_iload_n (q := 24) dX5_afterNumber_23 rfl rfl rfl ?_
    refine go_iconst (q := 25) (v := 1) dX5_afterNumber_24 (by decide) rfl ?_
    refine go_iadd (q := 26) dX5_afterNumber_25 rfl ?_
    exact go_ri dX5_afterNumber_26 rfl (by rw [c_14]; exact nI_add j 1) rfl
  · refine go_iload_n (q := 18) dX5_afterNumber_17 rfl rfl rfl ?_
    refine go_iconst (q := 19) (v := 2) dX5_afterNumber_18 (by decide) rfl ?_
    refine go_iadd (q := 20) dX5_afterNumber_19 rfl ?_
    refine go_goto (q := 26) dX5_afterNumber_20 (by decide) ?_
    exact go_ri dX5_afterNumber_26 rfl (by rw [c_14]; exact nI_add j 2) rfl
theorem ok_numberAt {M : KM} {n : Nat} {c : Nat → Nat} (hP : PA M n c) {j : Nat} (hj : j + 1 < 2 ^ 31) : OkF mX5_numberAt [vR 9 0, vI (nI j)] M (some (vI (if isB (ch n c (j + 1)) 48 57 = true then 10 * (nI (ch n c j) - 48) + (nI (ch n c (j + 1)) - 48) else nI (ch n c j) - 48))) M := by
  refine ok_of (by decide) rfl (Nat.le_of_ble_eq_true rfl) ⟨rfl, rfl⟩ ?_
  show Go mX5_numberAt (Zm (QF (some (vI (if isB (ch n c (j + 1)) 48 57 = true then 10 * (nI (ch n c j) - 48) + (nI (ch n c (j + 1)) - 48) else nI (ch n c j) - 48))) M)) M [some (vR 9 0), some (vI (nI j))] [] 0
  refine go_aload_n (q := 1) dX5_numberAt_0 rfl rfl rfl ?_
  refine go_iload_n (q := 2) dX5_numberAt_1 rfl rfl rfl ?_
  refine go_iconst (q := 3) (v := 1) dX5_numberAt_2 (by decide) rfl ?_
  refine go_iadd (q := 4) dX5_numberAt_3 rfl ?_
  refine go_topi (nI_1 j) ?_
  refine go_cV1 (cal := mX5_signAt) (q := 7) dX5_numberAt_4 lRX5_19 vX5_signAt ⟨by decide, by decide⟩ rfl (by decide) (Nat.le_of_ble_eq_true rfl) (ok_signAt hP hj) rfl ?_
  refine go_bipush (q := 9) (v := 48) dX5_numberAt_7 (by decide) rfl ?_
  refine go_bipush (q := 11) (v := 57) dX5_numberAt_9 (by decide) rfl ?_
  refine go_cS3 (cal := mX5_isBetween) (q := 14) dX5_numberAt_11 lRX5_23 vX5_isBetween ⟨by decide, by decide⟩ (Nat.le_of_ble_eq_true rfl) (ok_isBetween (by have := ch_lt hP (j + 1); omega) (by decide) (by decide)) rfl ?_
  refine go_if_eqB (q := 17) (t := 36) dX5_numberAt_14 (by decide) rfl (fun c_14 => ?_) (fun c_14 => ?_)
  · refine go_aload_n (q := 37) dX5_numberAt_36 rfl rfl rfl ?_
    refine go_iload_n (q := 38) dX5_numberAt_37 rfl rfl rfl ?_
    refine go_cV1 (cal := mX5_digitAt) (q := 41) dX5_numberAt_38 lRX5_27 vX5_digitAt ⟨by decide, by decide⟩ rfl (by decide) (Nat.le_of_ble_eq_true rfl) (ok_digitAt hP (by omega)) rfl ?_
    exact go_ri dX5_numberAt_41 rfl (by rw [c_14]; rfl) rfl
  · refine go_bipush (q := 19) (v := 10) dX5_numberAt_17 (by decide) rfl ?_
    refine go_aload_n (q := 20) dX5_numberAt_19 rfl rfl rfl ?_
    refine go_iload_n (q := 21) dX5_numberAt_20 rfl rfl rfl ?_
    refine go_cV1 (cal := mX5_digitAt) (q := 24) dX5_numberAt_21 lRX5_27 vX5_digitAt ⟨by decide, by decide⟩ rfl (by decide) (Nat.le_of_ble_eq_true rfl) (ok_digitAt hP (by omega)) rfl ?_
    refine go_imul (q := 25) dX5_numberAt_24 rfl ?_
    refine go_aload_n (q := 26) dX5_numberAt_25 rfl rfl rfl ?_
    refine go_iload_n (q := 27) dX5_numberAt_26 rfl rfl rfl ?_
    refine go_iconst (q := 28) (v := 1) dX5_numberAt_27 (by decide) rfl ?_
    refine go_iadd (q := 29) dX5_numberAt_28 rfl ?_
    refine go_topi (nI_1 j) ?_
    refine go_cV1 (cal := mX5_digitAt) (q := 32) dX5_numberAt_29 lRX5_27 vX5_digitAt ⟨by decide, by decide⟩ rfl (by decide) (Nat.le_of_ble_eq_true rfl) (ok_digitAt hP (by omega)) rfl ?_
    refine go_iadd (q := 33) dX5_numberAt_32 rfl ?_
    refine go_goto (q := 41) dX5_numberAt_33 (by decide) ?_
    exact go_ri dX5_numberAt_41 rfl (by rw [c_14]; rfl) rfl
/-- the shield that six signs tell -/
def shAt (n : Nat) (c : Nat → Nat) (j : Nat) : Nat → Int32
  | 0 => 0
  | k + 1 => shAt n c j k + (nI (ch n c (j + k)) - 48) * nI (5 ^ k)
theorem lp_shieldAt {M : KM} {n : Nat} {c : Nat → Nat} (hP : PA M n c) {j : Nat} (hj : j < 2 ^ 30) : ∀ (d : Nat) (k : Nat) (x y : Int32), 6 - k < d → (x = shAt n c j k) → (y = nI k) → (k ≤ 6) → Go mX5_shieldAt (Zm (QF (some (vI (shAt n c j 6))) M)) M [some (vR 9 0), some (vI (nI j)), some (vI x), some (vI y)] [] 4 := by
  intro d
  induction d with
  | zero => intro k x y hd; exact absurd hd (Nat.not_lt_zero _)
  | succ d ih =>
    intro k x y hd h0 h1 h2
    refine go_iload_n (q := 5) dX5_shieldAt_4 rfl rfl rfl ?_
    refine go_bipush (q := 7) (v := 6) dX5_shieldAt_5 (by decide) rfl ?_
    refine go_icmp_geN k 6 (q := 10) (t := 31) dX5_shieldAt_7 (by decide) rfl h1 rfl (by omega) (by omega) (fun c_7 => ?_) (fun c_7 => ?_)
    · refine go_iload_n (q := 32) dX5_shieldAt_31 rfl rfl rfl ?_
      exact go_ri dX5_shieldAt_32 rfl (by rw [h0, show k = 6 by omega]) rfl
    · subst h1
      refine go_iload_n (q := 11) dX5_shieldAt_10 rfl rfl rfl ?_
      refine go_aload_n (q := 12) dX5_shieldAt_11 rfl rfl rfl ?_
      refine go_iload_n (q := 13) dX5_shieldAt_12 rfl rfl rfl ?_
      refine go_iload_n (q := 14) dX5_shieldAt_13 rfl rfl rfl ?_
      refine go_iadd (q := 15) dX5_shieldAt_14 rfl ?_
      refine go_topi (nI_add j k) ?_
      refine go_cV1 (cal := mX5_digitAt) (q := 18) dX5_shieldAt_15 lRX5_27 vX5_digitAt ⟨by decide, by decide⟩ rfl (by decide) (Nat.le_of_ble_eq_true rfl) (ok_digitAt hP (by omega)) rfl ?_
      refine go_iload_n (q := 19) dX5_shieldAt_18 rfl rfl rfl ?_
      refine go_cS1 (cal := mX8_weightOf) (q := 22) dX5_shieldAt_19 lRX5_30 vX8_weightOf ⟨by decide, by decide⟩ (Nat.le_of_ble_eq_true rfl) (ok_weightOf (by omega)) rfl ?_
      refine go_imul (q := 23) dX5_shieldAt_22 rfl ?_
      refine go_iadd (q := 24) dX5_shieldAt_23 rfl ?_
      refine go_istore_n (q := 25) dX5_shieldAt_24 rfl (by decide) rfl rfl ?_
      refine go_iinc (q := 28) (v := 1) dX5_shieldAt_25 (by decide) rfl (by decide) rfl rfl ?_
      refine go_goto (q := 4) dX5_shieldAt_28 (by decide) ?_
      exact ih (k + 1) _ _ (by omega) (by rw [h0]; rfl) (nI_1 k) (by omega)
theorem ok_shieldAt {M : KM} {n : Nat} {c : Nat → Nat} (hP : PA M n c) {j : Nat} (hj : j < 2 ^ 30) : OkF mX5_shieldAt [vR 9 0, vI (nI j)] M (some (vI (shAt n c j 6))) M := by
  refine ok_of (by decide) rfl (Nat.le_of_ble_eq_true rfl) ⟨rfl, rfl⟩ ?_
  show Go mX5_shieldAt (Zm (QF (some (vI (shAt n c j 6))) M)) M [some (vR 9 0), some (vI (nI j)), none, none] [] 0
  refine go_iconst (q := 1) (v := 0) dX5_shieldAt_0 (by decide) rfl ?_
  refine go_istore_n (q := 2) dX5_shieldAt_1 rfl (by decide) rfl rfl ?_
  refine go_iconst (q := 3) (v := 0) dX5_shieldAt_2 (by decide) rfl ?_
  refine go_istore_n (q := 4) dX5_shieldAt_3 rfl (by decide) rfl rfl ?_
  exact lp_shieldAt hP hj 7 0 _ _ (by omega) rfl rfl (by omega)
theorem ok_stateAfterFather {M : KM} {x : Nat} (hx : x < 127) : OkF mX5_stateAfterFather [vI (nI x)] M (some (vI (e1 (sFat x)))) M := by
  refine ok_of (by decide) rfl (Nat.le_of_ble_eq_true rfl) ⟨rfl, rfl⟩ ?_
  show Go mX5_stateAfterFather (Zm (QF (some (vI (e1 (sFat x)))) M)) M [some (vI (nI x))] [] 0
  refine go_iload_n (q := 1) dX5_stateAfterFather_0 rfl rfl rfl ?_
  refine go_bipush (q := 3) (v := 46) dX5_stateAfterFather_1 (by decide) rfl ?_
  refine go_icmp_neN x 46 (q := 6) (t := 11) dX5_stateAfterFather_3 (by decide) rfl rfl rfl (by omega) (by omega) (fun c_3 => ?_) (fun c_3 => ?_)
  · refine go_iconst (q := 12) (v := (-1)) dX5_stateAfterFather_11 (by decide) rfl ?_
    exact go_ri dX5_stateAfterFather_12 rfl (by rw [show sFat x = none from if_neg c_3]; rfl) rfl
  · refine go_bipush (q := 8) (v := 11) dX5_stateAfterFather_6 (by decide) rfl ?_
    refine go_goto (q := 12) dX5_stateAfterFather_8 (by decide) ?_
    exact go_ri dX5_stateAfterFather_12 rfl (by rw [show sFat x = some _ from if_pos c_3]; rfl) rfl
theorem ok_stateAfterDeed {M : KM} {x : Nat} (hx : x < 127) : OkF mX5_stateAfterDeed [vI (nI x)] M (some (vI (e1 (sDeed x)))) M := by
  refine ok_of (by decide) rfl (Nat.le_of_ble_eq_true rfl) ⟨rfl, rfl⟩ ?_
  show Go mX5_stateAfterDeed (Zm (QF (some (vI (e1 (sDeed x)))) M)) M [some (vI (nI x))] [] 0
  refine go_iload_n (q := 1) dX5_stateAfterDeed_0 rfl rfl rfl ?_
  refine go_bipush (q := 3) (v := 59) dX5_stateAfterDeed_1 (by decide) rfl ?_
  refine go_icmp_neN x 59 (q := 6) (t := 11) dX5_stateAfterDeed_3 (by decide) rfl rfl rfl (by omega) (by omega) (fun c_3 => ?_) (fun c_3 => ?_)
  · refine go_iconst (q := 12) (v := (-1)) dX5_stateAfterDeed_11 (by decide) rfl ?_
    exact go_ri dX5_stateAfterDeed_12 rfl (by rw [show sDeed x = none from if_neg c_3]; rfl) rfl
  · refine go_bipush (q := 8) (v := 7) dX5_stateAfterDeed_6 (by decide) rfl ?_
    refine go_goto (q := 12) dX5_stateAfterDeed_8 (by decide) ?_
    exact go_ri dX5_stateAfterDeed_12 rfl (by rw [show sDeed x = some _ from if_pos c_3]; rfl) rfl
theorem ok_stateAfterDigit {M : KM} {x : Nat} (hx : x < 127) {a b : Nat} : OkF mX5_stateAfterDigit [vI (nI x), vI (nI a), vI (nI b)] M (some (vI (e1 (sDig x a b)))) M := by
  refine ok_of (by decide) rfl (Nat.le_of_ble_eq_true rfl) ⟨rfl, rfl⟩ ?_
  show Go mX5_stateAfterDigit (Zm (QF (some (vI (e1 (sDig x a b)))) M)) M [some (vI (nI x)), some (vI (nI a)), some (vI (nI b))] [] 0
  refine go_iload_n (q := 1) dX5_stateAfterDigit_0 rfl rfl rfl ?_
  refine go_bipush (q := 3) (v := 48) dX5_stateAfterDigit_1 (by decide) rfl ?_
  refine go_bipush (q := 5) (v := 57) dX5_stateAfterDigit_3 (by decide) rfl ?_
  refine go_cS3 (cal := mX5_isBetween) (q := 8) dX5_stateAfterDigit_5 lRX5_23 vX5_isBetween ⟨by decide, by decide⟩ (Nat.le_of_ble_eq_true rfl) (ok_isBetween (by omega) (by decide) (by decide)) rfl ?_
  refine go_if_neB (q := 11) (t := 13) dX5_stateAfterDigit_8 (by decide) rfl (fun c_8 => ?_) (fun c_8 => ?_)
  · refine go_iload_n (q := 14) dX5_stateAfterDigit_13 rfl rfl rfl ?_
    refine go_bipush (q := 16) (v := 49) dX5_stateAfterDigit_14 (by decide) rfl ?_
    refine go_icmp_neN x 49 (q := 19) (t := 23) dX5_stateAfterDigit_16 (by decide) rfl rfl rfl (by omega) (by omega) (fun c_16 => ?_) (fun c_16 => ?_)
    · refine go_iload_n (q := 24) dX5_stateAfterDigit_23 rfl rfl rfl ?_
      exact go_ri dX5_stateAfterDigit_24 rfl (by show _ = e1 (if isB x 48 57 = false then none else if x = 49 then _ else _); rw [c_8, if_neg (by decide), if_neg c_16]; rfl) rfl
    · refine go_iload_n (q := 20) dX5_stateAfterDigit_19 rfl rfl rfl ?_
      refine go_goto (q := 24) dX5_stateAfterDigit_20 (by decide) ?_
      exact go_ri dX5_stateAfterDigit_24 rfl (by show _ = e1 (if isB x 48 57 = false then none else if x = 49 then _ else _); rw [c_8, if_neg (by decide), if_pos c_16]; rfl) rfl
  · refine go_iconst (q := 12) (v := (-1)) dX5_stateAfterDigit_11 (by decide) rfl ?_
    exact go_ri dX5_stateAfterDigit_12 rfl (by rw [show sDig x a b = none from if_pos c_8]; rfl) rfl
theorem ok_stateAfterLetter {M : KM} {x : Nat} (hx : x < 127) : OkF mX5_stateAfterLetter [vI (nI x)] M (some (vI (e1 (sLet x)))) M := by
  refine ok_of (by decide) rfl (Nat.le_of_ble_eq_true rfl) ⟨rfl, rfl⟩ ?_
  show Go mX5_stateAfterLetter (Zm (QF (some (vI (e1 (sLet x)))) M)) M [some (vI (nI x))] [] 0
  by_cases h100 : x = 100
  · subst h100
    refine go_iload_n (q := 1) dX5_stateAfterLetter_0 rfl rfl rfl ?_
    refine go_lookup (off := 49) (q := 50) dX5_stateAfterLetter_1 rfl (by rw [(show (nI 100).toInt = 100 from by decide)]; try rfl) (by decide) ?_
    refine go_bipush (q := 52) (v := 13) dX5_stateAfterLetter_50 (by decide) rfl ?_
    exact go_ri dX5_stateAfterLetter_52 rfl rfl rfl
  by_cases h102 : x = 102
  · subst h102
    refine go_iload_n (q := 1) dX5_stateAfterLetter_0 rfl rfl rfl ?_
    refine go_lookup (off := 43) (q := 44) dX5_stateAfterLetter_1 rfl (by rw [(show (nI 102).toInt = 102 from by decide)]; try rfl) (by decide) ?_
    refine go_bipush (q := 46) (v := 6) dX5_stateAfterLetter_44 (by decide) rfl ?_
    exact go_ri dX5_stateAfterLetter_46 rfl rfl rfl
  by_cases h104 : x = 104
  · subst h104
    refine go_iload_n (q := 1) dX5_stateAfterLetter_0 rfl rfl rfl ?_
    refine go_lookup (off := 49) (q := 50) dX5_stateAfterLetter_1 rfl (by rw [(show (nI 104).toInt = 104 from by decide)]; try rfl) (by decide) ?_
    refine go_bipush (q := 52) (v := 13) dX5_stateAfterLetter_50 (by decide) rfl ?_
    exact go_ri dX5_stateAfterLetter_52 rfl rfl rfl
  by_cases h115 : x = 115
  · subst h115
    refine go_iload_n (q := 1) dX5_stateAfterLetter_0 rfl rfl rfl ?_
    refine go_lookup (off := 46) (q := 47) dX5_stateAfterLetter_1 rfl (by rw [(show (nI 115).toInt = 115 from by decide)]; try rfl) (by decide) ?_
    refine go_bipush (q := 49) (v := 8) dX5_stateAfterLetter_47 (by decide) rfl ?_
    exact go_ri dX5_stateAfterLetter_49 rfl rfl rfl
  refine go_iload_n (q := 1) dX5_stateAfterLetter_0 rfl rfl rfl ?_
  refine go_lookup (off := 52) (q := 53) dX5_stateAfterLetter_1 rfl (by rw [nI_toInt (by omega)]; simp only [Op.lookupswitch.offset_cons, Op.lookupswitch.offset_nil]; rw [if_neg (by omega), if_neg (by omega), if_neg (by omega), if_neg (by omega)]) (by decide) ?_
  refine go_iconst (q := 54) (v := (-1)) dX5_stateAfterLetter_53 (by decide) rfl ?_
  exact go_ri dX5_stateAfterLetter_54 rfl (by simp [sLet, h100, h102, h104, h115, e1]) rfl
theorem ok_sA0 {M : KM} {x : Nat} (hx : x < 127) : OkF mX5_stateAfter [vI (nI 0), vI (nI x)] M (some (vI (e1 (sA 0 x)))) M := by
  refine ok_of (by decide) rfl (Nat.le_of_ble_eq_true rfl) ⟨rfl, rfl⟩ ?_
  show Go mX5_stateAfter (Zm (QF (some (vI (e1 (sA 0 x)))) M)) M [some (vI (nI 0)), some (vI (nI x))] [] 0
  refine go_iload_n (q := 1) dX5_stateAfter_0 rfl rfl rfl ?_
  refine go_tableIn 0 (q := 76) dX5_stateAfter_1 (show (nI 0).toInt = 0 from by decide) (by decide) (by decide) rfl (by decide) ?_
  refine go_iload_n (q := 77) dX5_stateAfter_76 rfl rfl rfl ?_
  refine go_cS1 (cal := mX5_stateAfterDeed) (q := 80) dX5_stateAfter_77 lRX5_39 vX5_stateAfterDeed ⟨by decide, by decide⟩ (Nat.le_of_ble_eq_true rfl) (ok_stateAfterDeed hx) rfl ?_
  exact go_ri dX5_stateAfter_80 rfl rfl rfl
theorem ok_sA1 {M : KM} {x : Nat} (hx : x < 127) : OkF mX5_stateAfter [vI (nI 1), vI (nI x)] M (some (vI (e1 (sA 1 x)))) M := by
  refine ok_of (by decide) rfl (Nat.le_of_ble_eq_true rfl) ⟨rfl, rfl⟩ ?_
  show Go mX5_stateAfter (Zm (QF (some (vI (e1 (sA 1 x)))) M)) M [some (vI (nI 1)), some (vI (nI x))] [] 0
  refine go_iload_n (q := 1) dX5_stateAfter_0 rfl rfl rfl ?_
  refine go_tableIn 1 (q := 179) dX5_stateAfter_1 (show (nI 1).toInt = 1 from by decide) (by decide) (by decide) rfl (by decide) ?_
  refine go_iload_n (q := 180) dX5_stateAfter_179 rfl rfl rfl ?_
  refine go_bipush (q := 182) (v := 48) dX5_stateAfter_180 (by decide) rfl ?_
  refine go_bipush (q := 184) (v := 52) dX5_stateAfter_182 (by decide) rfl ?_
  refine go_cS3 (cal := mX5_isBetween) (q := 187) dX5_stateAfter_184 lRX5_23 vX5_isBetween ⟨by decide, by decide⟩ (Nat.le_of_ble_eq_true rfl) (ok_isBetween (by omega) (by decide) (by decide)) rfl ?_
  refine go_if_eqB (q := 190) (t := 196) dX5_stateAfter_187 (by decide) rfl (fun c_187 => ?_) (fun c_187 => ?_)
  · refine go_iconst (q := 197) (v := (-1)) dX5_stateAfter_196 (by decide) rfl ?_
    exact go_ri dX5_stateAfter_197 rfl (by show _ = e1 (if isB x _ _ = true then _ else _); rw [c_187]; first | rfl | decide) rfl
  · refine go_iload_n (q := 191) dX5_stateAfter_190 rfl rfl rfl ?_
    refine go_iconst (q := 192) (v := 1) dX5_stateAfter_191 (by decide) rfl ?_
    refine go_isub (q := 193) dX5_stateAfter_192 rfl ?_
    refine go_goto (q := 197) dX5_stateAfter_193 (by decide) ?_
    exact go_ri dX5_stateAfter_197 rfl (by show _ = e1 (if isB x _ _ = true then _ else _); rw [c_187]; first | rfl | decide) rfl
theorem ok_sA2 {M : KM} {x : Nat} (hx : x < 127) : OkF mX5_stateAfter [vI (nI 2), vI (nI x)] M (some (vI (e1 (sA 2 x)))) M := by
  refine ok_of (by decide) rfl (Nat.le_of_ble_eq_true rfl) ⟨rfl, rfl⟩ ?_
  show Go mX5_stateAfter (Zm (QF (some (vI (e1 (sA 2 x)))) M)) M [some (vI (nI 2)), some (vI (nI x))] [] 0
  refine go_iload_n (q := 1) dX5_stateAfter_0 rfl rfl rfl ?_
  refine go_tableIn 2 (q := 179) dX5_stateAfter_1 (show (nI 2).toInt = 2 from by decide) (by decide) (by decide) rfl (by decide) ?_
  refine go_iload_n (q := 180) dX5_stateAfter_179 rfl rfl rfl ?_
  refine go_bipush (q := 182) (v := 48) dX5_stateAfter_180 (by decide) rfl ?_
  refine go_bipush (q := 184) (v := 52) dX5_stateAfter_182 (by decide) rfl ?_
  refine go_cS3 (cal := mX5_isBetween) (q := 187) dX5_stateAfter_184 lRX5_23 vX5_isBetween ⟨by decide, by decide⟩ (Nat.le_of_ble_eq_true rfl) (ok_isBetween (by omega) (by decide) (by decide)) rfl ?_
  refine go_if_eqB (q := 190) (t := 196) dX5_stateAfter_187 (by decide) rfl (fun c_187 => ?_) (fun c_187 => ?_)
  · refine go_iconst (q := 197) (v := (-1)) dX5_stateAfter_196 (by decide) rfl ?_
    exact go_ri dX5_stateAfter_197 rfl (by show _ = e1 (if isB x _ _ = true then _ else _); rw [c_187]; first | rfl | decide) rfl
  · refine go_iload_n (q := 191) dX5_stateAfter_190 rfl rfl rfl ?_
    refine go_iconst (q := 192) (v := 1) dX5_stateAfter_191 (by decide) rfl ?_
    refine go_isub (q := 193) dX5_stateAfter_192 rfl ?_
    refine go_goto (q := 197) dX5_stateAfter_193 (by decide) ?_
    exact go_ri dX5_stateAfter_197 rfl (by show _ = e1 (if isB x _ _ = true then _ else _); rw [c_187]; first | rfl | decide) rfl
theorem ok_sA3 {M : KM} {x : Nat} (hx : x < 127) : OkF mX5_stateAfter [vI (nI 3), vI (nI x)] M (some (vI (e1 (sA 3 x)))) M := by
  refine ok_of (by decide) rfl (Nat.le_of_ble_eq_true rfl) ⟨rfl, rfl⟩ ?_
  show Go mX5_stateAfter (Zm (QF (some (vI (e1 (sA 3 x)))) M)) M [some (vI (nI 3)), some (vI (nI x))] [] 0
  refine go_iload_n (q := 1) dX5_stateAfter_0 rfl rfl rfl ?_
  refine go_tableIn 3 (q := 179) dX5_stateAfter_1 (show (nI 3).toInt = 3 from by decide) (by decide) (by decide) rfl (by decide) ?_
  refine go_iload_n (q := 180) dX5_stateAfter_179 rfl rfl rfl ?_
  refine go_bipush (q := 182) (v := 48) dX5_stateAfter_180 (by decide) rfl ?_
  refine go_bipush (q := 184) (v := 52) dX5_stateAfter_182 (by decide) rfl ?_
  refine go_cS3 (cal := mX5_isBetween) (q := 187) dX5_stateAfter_184 lRX5_23 vX5_isBetween ⟨by decide, by decide⟩ (Nat.le_of_ble_eq_true rfl) (ok_isBetween (by omega) (by decide) (by decide)) rfl ?_
  refine go_if_eqB (q := 190) (t := 196) dX5_stateAfter_187 (by decide) rfl (fun c_187 => ?_) (fun c_187 => ?_)
  · refine go_iconst (q := 197) (v := (-1)) dX5_stateAfter_196 (by decide) rfl ?_
    exact go_ri dX5_stateAfter_197 rfl (by show _ = e1 (if isB x _ _ = true then _ else _); rw [c_187]; first | rfl | decide) rfl
  · refine go_iload_n (q := 191) dX5_stateAfter_190 rfl rfl rfl ?_
    refine go_iconst (q := 192) (v := 1) dX5_stateAfter_191 (by decide) rfl ?_
    refine go_isub (q := 193) dX5_stateAfter_192 rfl ?_
    refine go_goto (q := 197) dX5_stateAfter_193 (by decide) ?_
    exact go_ri dX5_stateAfter_197 rfl (by show _ = e1 (if isB x _ _ = true then _ else _); rw [c_187]; first | rfl | decide) rfl
theorem ok_sA4 {M : KM} {x : Nat} (hx : x < 127) : OkF mX5_stateAfter [vI (nI 4), vI (nI x)] M (some (vI (e1 (sA 4 x)))) M := by
  refine ok_of (by decide) rfl (Nat.le_of_ble_eq_true rfl) ⟨rfl, rfl⟩ ?_
  show Go mX5_stateAfter (Zm (QF (some (vI (e1 (sA 4 x)))) M)) M [some (vI (nI 4)), some (vI (nI x))] [] 0
  refine go_iload_n (q := 1) dX5_stateAfter_0 rfl rfl rfl ?_
  refine go_tableIn 4 (q := 179) dX5_stateAfter_1 (show (nI 4).toInt = 4 from by decide) (by decide) (by decide) rfl (by decide) ?_
  refine go_iload_n (q := 180) dX5_stateAfter_179 rfl rfl rfl ?_
  refine go_bipush (q := 182) (v := 48) dX5_stateAfter_180 (by decide) rfl ?_
  refine go_bipush (q := 184) (v := 52) dX5_stateAfter_182 (by decide) rfl ?_
  refine go_cS3 (cal := mX5_isBetween) (q := 187) dX5_stateAfter_184 lRX5_23 vX5_isBetween ⟨by decide, by decide⟩ (Nat.le_of_ble_eq_true rfl) (ok_isBetween (by omega) (by decide) (by decide)) rfl ?_
  refine go_if_eqB (q := 190) (t := 196) dX5_stateAfter_187 (by decide) rfl (fun c_187 => ?_) (fun c_187 => ?_)
  · refine go_iconst (q := 197) (v := (-1)) dX5_stateAfter_196 (by decide) rfl ?_
    exact go_ri dX5_stateAfter_197 rfl (by show _ = e1 (if isB x _ _ = true then _ else _); rw [c_187]; first | rfl | decide) rfl
  · refine go_iload_n (q := 191) dX5_stateAfter_190 rfl rfl rfl ?_
    refine go_iconst (q := 192) (v := 1) dX5_stateAfter_191 (by decide) rfl ?_
    refine go_isub (q := 193) dX5_stateAfter_192 rfl ?_
    refine go_goto (q := 197) dX5_stateAfter_193 (by decide) ?_
    exact go_ri dX5_stateAfter_197 rfl (by show _ = e1 (if isB x _ _ = true then _ else _); rw [c_187]; first | rfl | decide) rfl
theorem ok_sA5 {M : KM} {x : Nat} (hx : x < 127) : OkF mX5_stateAfter [vI (nI 5), vI (nI x)] M (some (vI (e1 (sA 5 x)))) M := by
  refine ok_of (by decide) rfl (Nat.le_of_ble_eq_true rfl) ⟨rfl, rfl⟩ ?_
  show Go mX5_stateAfter (Zm (QF (some (vI (e1 (sA 5 x)))) M)) M [some (vI (nI 5)), some (vI (nI x))] [] 0
  refine go_iload_n (q := 1) dX5_stateAfter_0 rfl rfl rfl ?_
  refine go_tableIn 5 (q := 179) dX5_stateAfter_1 (show (nI 5).toInt = 5 from by decide) (by decide) (by decide) rfl (by decide) ?_
  refine go_iload_n (q := 180) dX5_stateAfter_179 rfl rfl rfl ?_
  refine go_bipush (q := 182) (v := 48) dX5_stateAfter_180 (by decide) rfl ?_
  refine go_bipush (q := 184) (v := 52) dX5_stateAfter_182 (by decide) rfl ?_
  refine go_cS3 (cal := mX5_isBetween) (q := 187) dX5_stateAfter_184 lRX5_23 vX5_isBetween ⟨by decide, by decide⟩ (Nat.le_of_ble_eq_true rfl) (ok_isBetween (by omega) (by decide) (by decide)) rfl ?_
  refine go_if_eqB (q := 190) (t := 196) dX5_stateAfter_187 (by decide) rfl (fun c_187 => ?_) (fun c_187 => ?_)
  · refine go_iconst (q := 197) (v := (-1)) dX5_stateAfter_196 (by decide) rfl ?_
    exact go_ri dX5_stateAfter_197 rfl (by show _ = e1 (if isB x _ _ = true then _ else _); rw [c_187]; first | rfl | decide) rfl
  · refine go_iload_n (q := 191) dX5_stateAfter_190 rfl rfl rfl ?_
    refine go_iconst (q := 192) (v := 1) dX5_stateAfter_191 (by decide) rfl ?_
    refine go_isub (q := 193) dX5_stateAfter_192 rfl ?_
    refine go_goto (q := 197) dX5_stateAfter_193 (by decide) ?_
    exact go_ri dX5_stateAfter_197 rfl (by show _ = e1 (if isB x _ _ = true then _ else _); rw [c_187]; first | rfl | decide) rfl
theorem ok_sA6 {M : KM} {x : Nat} (hx : x < 127) : OkF mX5_stateAfter [vI (nI 6), vI (nI x)] M (some (vI (e1 (sA 6 x)))) M := by
  refine ok_of (by decide) rfl (Nat.le_of_ble_eq_true rfl) ⟨rfl, rfl⟩ ?_
  show Go mX5_stateAfter (Zm (QF (some (vI (e1 (sA 6 x)))) M)) M [some (vI (nI 6)), some (vI (nI x))] [] 0
  refine go_iload_n (q := 1) dX5_stateAfter_0 rfl rfl rfl ?_
  refine go_tableIn 6 (q := 179) dX5_stateAfter_1 (show (nI 6).toInt = 6 from by decide) (by decide) (by decide) rfl (by decide) ?_
  refine go_iload_n (q := 180) dX5_stateAfter_179 rfl rfl rfl ?_
  refine go_bipush (q := 182) (v := 48) dX5_stateAfter_180 (by decide) rfl ?_
  refine go_bipush (q := 184) (v := 52) dX5_stateAfter_182 (by decide) rfl ?_
  refine go_cS3 (cal := mX5_isBetween) (q := 187) dX5_stateAfter_184 lRX5_23 vX5_isBetween ⟨by decide, by decide⟩ (Nat.le_of_ble_eq_true rfl) (ok_isBetween (by omega) (by decide) (by decide)) rfl ?_
  refine go_if_eqB (q := 190) (t := 196) dX5_stateAfter_187 (by decide) rfl (fun c_187 => ?_) (fun c_187 => ?_)
  · refine go_iconst (q := 197) (v := (-1)) dX5_stateAfter_196 (by decide) rfl ?_
    exact go_ri dX5_stateAfter_197 rfl (by show _ = e1 (if isB x _ _ = true then _ else _); rw [c_187]; first | rfl | decide) rfl
  · refine go_iload_n (q := 191) dX5_stateAfter_190 rfl rfl rfl ?_
    refine go_iconst (q := 192) (v := 1) dX5_stateAfter_191 (by decide) rfl ?_
    refine go_isub (q := 193) dX5_stateAfter_192 rfl ?_
    refine go_goto (q := 197) dX5_stateAfter_193 (by decide) ?_
    exact go_ri dX5_stateAfter_197 rfl (by show _ = e1 (if isB x _ _ = true then _ else _); rw [c_187]; first | rfl | decide) rfl
theorem ok_sA7 {M : KM} {x : Nat} (hx : x < 127) : OkF mX5_stateAfter [vI (nI 7), vI (nI x)] M (some (vI (e1 (sA 7 x)))) M := by
  refine ok_of (by decide) rfl (Nat.le_of_ble_eq_true rfl) ⟨rfl, rfl⟩ ?_
  show Go mX5_stateAfter (Zm (QF (some (vI (e1 (sA 7 x)))) M)) M [some (vI (nI 7)), some (vI (nI x))] [] 0
  refine go_iload_n (q := 1) dX5_stateAfter_0 rfl rfl rfl ?_
  refine go_tableIn 7 (q := 81) dX5_stateAfter_1 (show (nI 7).toInt = 7 from by decide) (by decide) (by decide) rfl (by decide) ?_
  refine go_iload_n (q := 82) dX5_stateAfter_81 rfl rfl rfl ?_
  refine go_cS1 (cal := mX5_stateAfterLetter) (q := 85) dX5_stateAfter_82 lRX5_42 vX5_stateAfterLetter ⟨by decide, by decide⟩ (Nat.le_of_ble_eq_true rfl) (ok_stateAfterLetter hx) rfl ?_
  exact go_ri dX5_stateAfter_85 rfl rfl rfl
theorem ok_sA8 {M : KM} {x : Nat} (hx : x < 127) : OkF mX5_stateAfter [vI (nI 8), vI (nI x)] M (some (vI (e1 (sA 8 x)))) M := by
  refine ok_of (by decide) rfl (Nat.le_of_ble_eq_true rfl) ⟨rfl, rfl⟩ ?_
  show Go mX5_stateAfter (Zm (QF (some (vI (e1 (sA 8 x)))) M)) M [some (vI (nI 8)), some (vI (nI x))] [] 0
  refine go_iload_n (q := 1) dX5_stateAfter_0 rfl rfl rfl ?_
  refine go_tableIn 8 (q := 86) dX5_stateAfter_1 (show (nI 8).toInt = 8 from by decide) (by decide) (by decide) rfl (by decide) ?_
  refine go_iload_n (q := 87) dX5_stateAfter_86 rfl rfl rfl ?_
  refine go_bipush (q := 89) (v := 9) dX5_stateAfter_87 (by decide) rfl ?_
  refine go_bipush (q := 91) (v := 10) dX5_stateAfter_89 (by decide) rfl ?_
  refine go_cS3 (cal := mX5_stateAfterDigit) (q := 94) dX5_stateAfter_91 lRX5_45 vX5_stateAfterDigit ⟨by decide, by decide⟩ (Nat.le_of_ble_eq_true rfl) (ok_stateAfterDigit hx) rfl ?_
  exact go_ri dX5_stateAfter_94 rfl rfl rfl
theorem ok_sA9 {M : KM} {x : Nat} (hx : x < 127) : OkF mX5_stateAfter [vI (nI 9), vI (nI x)] M (some (vI (e1 (sA 9 x)))) M := by
  refine ok_of (by decide) rfl (Nat.le_of_ble_eq_true rfl) ⟨rfl, rfl⟩ ?_
  show Go mX5_stateAfter (Zm (QF (some (vI (e1 (sA 9 x)))) M)) M [some (vI (nI 9)), some (vI (nI x))] [] 0
  refine go_iload_n (q := 1) dX5_stateAfter_0 rfl rfl rfl ?_
  refine go_tableIn 9 (q := 95) dX5_stateAfter_1 (show (nI 9).toInt = 9 from by decide) (by decide) (by decide) rfl (by decide) ?_
  refine go_iload_n (q := 96) dX5_stateAfter_95 rfl rfl rfl ?_
  refine go_bipush (q := 98) (v := 48) dX5_stateAfter_96 (by decide) rfl ?_
  refine go_bipush (q := 100) (v := 57) dX5_stateAfter_98 (by decide) rfl ?_
  refine go_cS3 (cal := mX5_isBetween) (q := 103) dX5_stateAfter_100 lRX5_23 vX5_isBetween ⟨by decide, by decide⟩ (Nat.le_of_ble_eq_true rfl) (ok_isBetween (by omega) (by decide) (by decide)) rfl ?_
  refine go_if_eqB (q := 106) (t := 111) dX5_stateAfter_103 (by decide) rfl (fun c_103 => ?_) (fun c_103 => ?_)
  · refine go_iload_n (q := 112) dX5_stateAfter_111 rfl rfl rfl ?_
    refine go_cS1 (cal := mX5_stateAfterFather) (q := 115) dX5_stateAfter_112 lRX5_49 vX5_stateAfterFather ⟨by decide, by decide⟩ (Nat.le_of_ble_eq_true rfl) (ok_stateAfterFather hx) rfl ?_
    exact go_ri dX5_stateAfter_115 rfl (by show _ = e1 (if isB x _ _ = true then _ else _); rw [c_103]; first | rfl | decide) rfl
  · refine go_bipush (q := 108) (v := 10) dX5_stateAfter_106 (by decide) rfl ?_
    refine go_goto (q := 115) dX5_stateAfter_108 (by decide) ?_
    exact go_ri dX5_stateAfter_115 rfl (by show _ = e1 (if isB x _ _ = true then _ else _); rw [c_103]; first | rfl | decide) rfl
theorem ok_sA10 {M : KM} {x : Nat} (hx : x < 127) : OkF mX5_stateAfter [vI (nI 10), vI (nI x)] M (some (vI (e1 (sA 10 x)))) M := by
  refine ok_of (by decide) rfl (Nat.le_of_ble_eq_true rfl) ⟨rfl, rfl⟩ ?_
  show Go mX5_stateAfter (Zm (QF (some (vI (e1 (sA 10 x)))) M)) M [some (vI (nI 10)), some (vI (nI x))] [] 0
  refine go_iload_n (q := 1) dX5_stateAfter_0 rfl rfl rfl ?_
  refine go_tableIn 10 (q := 116) dX5_stateAfter_1 (show (nI 10).toInt = 10 from by decide) (by decide) (by decide) rfl (by decide) ?_
  refine go_iload_n (q := 117) dX5_stateAfter_116 rfl rfl rfl ?_
  refine go_cS1 (cal := mX5_stateAfterFather) (q := 120) dX5_stateAfter_117 lRX5_49 vX5_stateAfterFather ⟨by decide, by decide⟩ (Nat.le_of_ble_eq_true rfl) (ok_stateAfterFather hx) rfl ?_
  exact go_ri dX5_stateAfter_120 rfl rfl rfl
theorem ok_sA11 {M : KM} {x : Nat} (hx : x < 127) : OkF mX5_stateAfter [vI (nI 11), vI (nI x)] M (some (vI (e1 (sA 11 x)))) M := by
  refine ok_of (by decide) rfl (Nat.le_of_ble_eq_true rfl) ⟨rfl, rfl⟩ ?_
  show Go mX5_stateAfter (Zm (QF (some (vI (e1 (sA 11 x)))) M)) M [some (vI (nI 11)), some (vI (nI x))] [] 0
  refine go_iload_n (q := 1) dX5_stateAfter_0 rfl rfl rfl ?_
  refine go_tableIn 11 (q := 121) dX5_stateAfter_1 (show (nI 11).toInt = 11 from by decide) (by decide) (by decide) rfl (by decide) ?_
  refine go_iload_n (q := 122) dX5_stateAfter_121 rfl rfl rfl ?_
  refine go_bipush (q := 124) (v := 48) dX5_stateAfter_122 (by decide) rfl ?_
  refine go_bipush (q := 126) (v := 53) dX5_stateAfter_124 (by decide) rfl ?_
  refine go_cS3 (cal := mX5_isBetween) (q := 129) dX5_stateAfter_126 lRX5_23 vX5_isBetween ⟨by decide, by decide⟩ (Nat.le_of_ble_eq_true rfl) (ok_isBetween (by omega) (by decide) (by decide)) rfl ?_
  refine go_if_eqB (q := 132) (t := 137) dX5_stateAfter_129 (by decide) rfl (fun c_129 => ?_) (fun c_129 => ?_)
  · refine go_iconst (q := 138) (v := (-1)) dX5_stateAfter_137 (by decide) rfl ?_
    exact go_ri dX5_stateAfter_138 rfl (by show _ = e1 (if isB x _ _ = true then _ else _); rw [c_129]; first | rfl | decide) rfl
  · refine go_bipush (q := 134) (v := 12) dX5_stateAfter_132 (by decide) rfl ?_
    refine go_goto (q := 138) dX5_stateAfter_134 (by decide) ?_
    exact go_ri dX5_stateAfter_138 rfl (by show _ = e1 (if isB x _ _ = true then _ else _); rw [c_129]; first | rfl | decide) rfl
theorem ok_sA12 {M : KM} {x : Nat} (hx : x < 127) : OkF mX5_stateAfter [vI (nI 12), vI (nI x)] M (some (vI (e1 (sA 12 x)))) M := by
  refine ok_of (by decide) rfl (Nat.le_of_ble_eq_true rfl) ⟨rfl, rfl⟩ ?_
  show Go mX5_stateAfter (Zm (QF (some (vI (e1 (sA 12 x)))) M)) M [some (vI (nI 12)), some (vI (nI x))] [] 0
  refine go_iload_n (q := 1) dX5_stateAfter_0 rfl rfl rfl ?_
  refine go_tableIn 12 (q := 139) dX5_stateAfter_1 (show (nI 12).toInt = 12 from by decide) (by decide) (by decide) rfl (by decide) ?_
  refine go_iload_n (q := 140) dX5_stateAfter_139 rfl rfl rfl ?_
  refine go_bipush (q := 142) (v := 61) dX5_stateAfter_140 (by decide) rfl ?_
  refine go_icmp_neN x 61 (q := 145) (t := 149) dX5_stateAfter_142 (by decide) rfl rfl rfl (by omega) (by omega) (fun c_142 => ?_) (fun c_142 => ?_)
  · refine go_iconst (q := 150) (v := (-1)) dX5_stateAfter_149 (by decide) rfl ?_
    exact go_ri dX5_stateAfter_150 rfl (by show _ = e1 (if x = 61 then _ else _); rw [if_neg c_142]; rfl) rfl
  · refine go_iconst (q := 146) (v := 1) dX5_stateAfter_145 (by decide) rfl ?_
    refine go_goto (q := 150) dX5_stateAfter_146 (by decide) ?_
    exact go_ri dX5_stateAfter_150 rfl (by show _ = e1 (if x = 61 then _ else _); rw [if_pos c_142]; rfl) rfl
theorem ok_sA13 {M : KM} {x : Nat} (hx : x < 127) : OkF mX5_stateAfter [vI (nI 13), vI (nI x)] M (some (vI (e1 (sA 13 x)))) M := by
  refine ok_of (by decide) rfl (Nat.le_of_ble_eq_true rfl) ⟨rfl, rfl⟩ ?_
  show Go mX5_stateAfter (Zm (QF (some (vI (e1 (sA 13 x)))) M)) M [some (vI (nI 13)), some (vI (nI x))] [] 0
  refine go_iload_n (q := 1) dX5_stateAfter_0 rfl rfl rfl ?_
  refine go_tableIn 13 (q := 151) dX5_stateAfter_1 (show (nI 13).toInt = 13 from by decide) (by decide) (by decide) rfl (by decide) ?_
  refine go_iload_n (q := 152) dX5_stateAfter_151 rfl rfl rfl ?_
  refine go_bipush (q := 154) (v := 14) dX5_stateAfter_152 (by decide) rfl ?_
  refine go_iconst (q := 155) (v := 0) dX5_stateAfter_154 (by decide) rfl ?_
  refine go_cS3 (cal := mX5_stateAfterDigit) (q := 158) dX5_stateAfter_155 lRX5_45 vX5_stateAfterDigit ⟨by decide, by decide⟩ (Nat.le_of_ble_eq_true rfl) (ok_stateAfterDigit hx) rfl ?_
  exact go_ri dX5_stateAfter_158 rfl rfl rfl
theorem ok_sA14 {M : KM} {x : Nat} (hx : x < 127) : OkF mX5_stateAfter [vI (nI 14), vI (nI x)] M (some (vI (e1 (sA 14 x)))) M := by
  refine ok_of (by decide) rfl (Nat.le_of_ble_eq_true rfl) ⟨rfl, rfl⟩ ?_
  show Go mX5_stateAfter (Zm (QF (some (vI (e1 (sA 14 x)))) M)) M [some (vI (nI 14)), some (vI (nI x))] [] 0
  refine go_iload_n (q := 1) dX5_stateAfter_0 rfl rfl rfl ?_
  refine go_tableIn 14 (q := 159) dX5_stateAfter_1 (show (nI 14).toInt = 14 from by decide) (by decide) (by decide) rfl (by decide) ?_
  refine go_iload_n (q := 160) dX5_stateAfter_159 rfl rfl rfl ?_
  refine go_bipush (q := 162) (v := 48) dX5_stateAfter_160 (by decide) rfl ?_
  refine go_bipush (q := 164) (v := 57) dX5_stateAfter_162 (by decide) rfl ?_
  refine go_cS3 (cal := mX5_isBetween) (q := 167) dX5_stateAfter_164 lRX5_23 vX5_isBetween ⟨by decide, by decide⟩ (Nat.le_of_ble_eq_true rfl) (ok_isBetween (by omega) (by decide) (by decide)) rfl ?_
  refine go_if_eqB (q := 170) (t := 174) dX5_stateAfter_167 (by decide) rfl (fun c_167 => ?_) (fun c_167 => ?_)
  · refine go_iload_n (q := 175) dX5_stateAfter_174 rfl rfl rfl ?_
    refine go_cS1 (cal := mX5_stateAfterDeed) (q := 178) dX5_stateAfter_175 lRX5_39 vX5_stateAfterDeed ⟨by decide, by decide⟩ (Nat.le_of_ble_eq_true rfl) (ok_stateAfterDeed hx) rfl ?_
    exact go_ri dX5_stateAfter_178 rfl (by show _ = e1 (if isB x _ _ = true then _ else _); rw [c_167]; first | rfl | decide) rfl
  · refine go_iconst (q := 171) (v := 0) dX5_stateAfter_170 (by decide) rfl ?_
    refine go_goto (q := 178) dX5_stateAfter_171 (by decide) ?_
    exact go_ri dX5_stateAfter_178 rfl (by show _ = e1 (if isB x _ _ = true then _ else _); rw [c_167]; first | rfl | decide) rfl
theorem ok_stateAfter {M : KM} {x : Nat} (hx : x < 127) {s : Nat} (hs : s < 15) : OkF mX5_stateAfter [vI (nI s), vI (nI x)] M (some (vI (e1 (sA s x)))) M := by
  rcases (show s = 0 ∨ s = 1 ∨ s = 2 ∨ s = 3 ∨ s = 4 ∨ s = 5 ∨ s = 6 ∨ s = 7 ∨ s = 8 ∨ s = 9 ∨ s = 10 ∨ s = 11 ∨ s = 12 ∨ s = 13 ∨ s = 14 by omega) with rfl | rfl | rfl | rfl | rfl | rfl | rfl | rfl | rfl | rfl | rfl | rfl | rfl | rfl | rfl
  · exact ok_sA0 hx
  · exact ok_sA1 hx
  · exact ok_sA2 hx
  · exact ok_sA3 hx
  · exact ok_sA4 hx
  · exact ok_sA5 hx
  · exact ok_sA6 hx
  · exact ok_sA7 hx
  · exact ok_sA8 hx
  · exact ok_sA9 hx
  · exact ok_sA10 hx
  · exact ok_sA11 hx
  · exact ok_sA12 hx
  · exact ok_sA13 hx
  · exact ok_sA14 hx
theorem sA_lt {s x t : Nat} (hs : s < 15) (h : sA s x = some t) : t < 15 := by
  unfold sA at h
  split at h <;> (try unfold sDeed at h) <;> (try unfold sLet at h) <;> (try unfold sDig at h) <;> (try unfold sFat at h) <;> (repeat' split at h) <;> first | (cases h; omega) | cases h
/-- the state after j signs, or the first wrong place -/
def run (c : Nat → Nat) : Nat → Nat ⊕ Nat
  | 0 => .inl 7
  | j + 1 => match run c j with
    | .inr k => .inr k
    | .inl s => match sA s (c j) with
      | some t => .inl t
      | none => .inr j
/-- the fault of the pad -/
def pfault (n : Nat) (c : Nat → Nat) : Option Nat := match run c n with
  | .inr k => some k
  | .inl s => if s = 0 ∨ s = 14 then none else some n
theorem run_lt {c : Nat → Nat} : ∀ {j s : Nat}, run c j = .inl s → s < 15
  | 0, s, h => by cases h; decide
  | j + 1, s, h => by
    unfold run at h
    cases hr : run c j with
    | inr k => rw [hr] at h; cases h
    | inl u =>
      rw [hr] at h
      simp only at h
      cases hs : sA u (c j) with
      | none => rw [hs] at h; cases h
      | some t => rw [hs] at h; cases h; exact sA_lt (run_lt hr) hs
theorem run_inr {c : Nat → Nat} {j k : Nat} (h : run c j = .inr k) : ∀ n, j ≤ n → run c n = .inr k := fun n hn => by
  induction n with
  | zero => obtain rfl : j = 0 := by omega
            exact h
  | succ n ih =>
    by_cases hj : j ≤ n
    · unfold run; rw [ih hj]
    · obtain rfl : j = n + 1 := by omega
      exact h
theorem lp_firstFault {M : KM} {n : Nat} {c : Nat → Nat} (hP : PA M n c) : ∀ (d : Nat) (j s : Nat) (y : Int32), n - j < d → (run c j = .inl s) → (y = nI j) → (j ≤ n) → Go mX5_firstFault (Zm (QF (some (vI (e4 (pfault n c)))) M)) M [some (vR 9 0), some (vI (nI s)), some (vI y)] [] 5 := by
  intro d
  induction d with
  | zero => intro j s y hd; exact absurd hd (Nat.not_lt_zero _)
  | succ d ih =>
    intro j s y hd h0 h1 h2
    refine go_iload_n (q := 6) dX5_firstFault_5 rfl rfl rfl ?_
    refine go_aload_n (q := 7) dX5_firstFault_6 rfl rfl rfl ?_
    refine go_getf (q := 10) dX5_firstFault_7 fRX5_15 rfl (by decide) rfl rfl ?_
    refine go_topi hP.ln ?_
    refine go_icmp_geN j n (q := 13) (t := 36) dX5_firstFault_10 (by decide) rfl h1 rfl (by have := hP.2.1; omega) (by have := hP.2.1; omega) (fun c_10 => ?_) (fun c_10 => ?_)
    · have hs := run_lt h0
      refine go_iload_n (q := 37) dX5_firstFault_36 rfl rfl rfl ?_
      refine go_if_eq (q := 40) (t := 46) dX5_firstFault_37 (by decide) rfl (fun c_37 => ?_) (fun c_37 => ?_)
      · refine go_bipush (q := 48) (v := (-4)) dX5_firstFault_46 (by decide) rfl ?_
        refine go_goto (q := 55) dX5_firstFault_48 (by decide) ?_
        exact go_ri dX5_firstFault_55 rfl (by rw [show pfault n c = none from by unfold pfault; rw [show n = j by omega, h0]; simp [(nI_eq (show s < 2 ^ 31 by omega) (by decide)).mp c_37]]; rfl) rfl
      · refine go_iload_n (q := 41) dX5_firstFault_40 rfl rfl rfl ?_
        refine go_bipush (q := 43) (v := 14) dX5_firstFault_41 (by decide) rfl ?_
        refine go_icmp_neN s 14 (q := 46) (t := 51) dX5_firstFault_43 (by decide) rfl rfl rfl (by omega) (by omega) (fun c_43 => ?_) (fun c_43 => ?_)
        · refine go_aload_n (q := 52) dX5_firstFault_51 rfl rfl rfl ?_
          refine go_getf (q := 55) dX5_firstFault_52 fRX5_15 rfl (by decide) rfl rfl ?_
          refine go_topi hP.ln ?_
          exact go_ri dX5_firstFault_55 rfl (by have h37 : ¬ s = 0 := fun z => c_37 (by rw [z]; rfl); rw [show pfault n c = some n from by have e := h0; rw [show j = n by omega] at e; unfold pfault; rw [e]; simp [h37, c_43]]; rfl) rfl
        · refine go_bipush (q := 48) (v := (-4)) dX5_firstFault_46 (by decide) rfl ?_
          refine go_goto (q := 55) dX5_firstFault_48 (by decide) ?_
          exact go_ri dX5_firstFault_55 rfl (by rw [show pfault n c = none from by unfold pfault; rw [show n = j by omega, h0]; simp [c_43]]; rfl) rfl
    · subst h1
      have hs := run_lt h0
      have h127 := (hP.2.2 j c_10).2.2
      refine go_iload_n (q := 14) dX5_firstFault_13 rfl rfl rfl ?_
      refine go_aload_n (q := 15) dX5_firstFault_14 rfl rfl rfl ?_
      refine go_iload_n (q := 16) dX5_firstFault_15 rfl rfl rfl ?_
      refine go_cV1 (cal := mX5_signAt) (q := 19) dX5_firstFault_16 lRX5_19 vX5_signAt ⟨by decide, by decide⟩ rfl (by decide) (Nat.le_of_ble_eq_true rfl) (ok_signAt hP (by have := hP.2.1; omega)) rfl ?_
      rw [show ch n c j = c j from if_pos c_10]
      refine go_cS2 (cal := mX5_stateAfter) (q := 22) dX5_firstFault_19 lRX5_35 vX5_stateAfter ⟨by decide, by decide⟩ (Nat.le_of_ble_eq_true rfl) (ok_stateAfter (by omega) hs) rfl ?_
      refine go_istore_n (q := 23) dX5_firstFault_22 rfl (by decide) rfl rfl ?_
      refine go_iload_n (q := 24) dX5_firstFault_23 rfl rfl rfl ?_
      refine go_iconst (q := 25) (v := (-1)) dX5_firstFault_24 (by decide) rfl ?_
      refine go_icmp_ne (q := 28) (t := 30) dX5_firstFault_25 (by decide) rfl (fun c_25 => ?_) (fun c_25 => ?_)
      · obtain ⟨t, ht⟩ : ∃ t, sA s (c j) = some t := by
          cases h : sA s (c j) with
          | none => exact absurd (by rw [h]; rfl) c_25
          | some t => exact ⟨t, rfl⟩
        rw [ht]
        refine go_iinc (q := 33) (v := 1) dX5_firstFault_30 (by decide) rfl (by decide) rfl rfl ?_
        refine go_goto (q := 5) dX5_firstFault_33 (by decide) ?_
        exact ih (j + 1) t _ (by omega) (by unfold run; rw [h0]; simp only; rw [ht]) (nI_1 j) (by omega)
      · have hsn : sA s (c j) = none := (e1_eq (fun k hk => by have := sA_lt hs hk; omega)).mp (Classical.not_not.mp c_25)
        refine go_iload_n (q := 29) dX5_firstFault_28 rfl rfl rfl ?_
        exact go_ri dX5_firstFault_29 rfl (by rw [show pfault n c = some j from by unfold pfault; rw [run_inr (j := j + 1) (by unfold run; rw [h0]; simp only; rw [hsn]) n c_10]]; rfl) rfl
theorem ok_firstFault {M : KM} {n : Nat} {c : Nat → Nat} (hP : PA M n c) : OkF mX5_firstFault [vR 9 0] M (some (vI (e4 (pfault n c)))) M := by
  refine ok_of (by decide) rfl (Nat.le_of_ble_eq_true rfl) ⟨rfl, rfl⟩ ?_
  show Go mX5_firstFault (Zm (QF (some (vI (e4 (pfault n c)))) M)) M [some (vR 9 0), none, none] [] 0
  refine go_bipush (q := 2) (v := 7) dX5_firstFault_0 (by decide) rfl ?_
  refine go_istore_n (q := 3) dX5_firstFault_2 rfl (by decide) rfl rfl ?_
  refine go_iconst (q := 4) (v := 0) dX5_firstFault_3 (by decide) rfl ?_
  refine go_istore_n (q := 5) dX5_firstFault_4 rfl (by decide) rfl rfl ?_
  exact lp_firstFault hP (n + 1) 0 7 _ (by omega) rfl rfl (by omega)
end
