-- ===== PART A: goes FIRST, ahead of the names: the tables' words, and 'selects' of the private methods out of them =====
/-- a private method of a class that the tables say can be made, by its rows of tables_1 -/
def lw_okq (q : MethodName × Nat) : Prop := (q.1.cls ≠ "java/lang/invoke/MethodHandle" ∧ q.1.cls ≠ "java/lang/invoke/VarHandle") ∧ Cond.instantiable q.1.cls q.2 ∈ tables_1 ∧ Cond.privateMethod q.1 ∈ tables_1 ∧ Cond.instanceMethod q.1 ∈ tables_1
theorem lw_p0 : lw_okq (⟨"OffForSecond", "error", "(I)I"⟩, 7) := ⟨⟨by decide +kernel, by decide +kernel⟩, List.mem_of_getElem? (i := 14) (by decide +kernel), List.mem_of_getElem? (i := 292) (by decide +kernel), List.mem_of_getElem? (i := 293) (by decide +kernel)⟩
theorem lw_p1 : lw_okq (⟨"OffForSecond", "isPitch", "(I)Z"⟩, 7) := ⟨⟨by decide +kernel, by decide +kernel⟩, List.mem_of_getElem? (i := 14) (by decide +kernel), List.mem_of_getElem? (i := 305) (by decide +kernel), List.mem_of_getElem? (i := 306) (by decide +kernel)⟩
theorem lw_p2 : lw_okq (⟨"OffForSecond", "isRunner", "(I)Z"⟩, 7) := ⟨⟨by decide +kernel, by decide +kernel⟩, List.mem_of_getElem? (i := 14) (by decide +kernel), List.mem_of_getElem? (i := 373) (by decide +kernel), List.mem_of_getElem? (i := 374) (by decide +kernel)⟩
theorem lw_p3 : lw_okq (⟨"OffForSecond$Reader", "begins", "(II)Z"⟩, 7) := ⟨⟨by decide +kernel, by decide +kernel⟩, List.mem_of_getElem? (i := 180) (by decide +kernel), List.mem_of_getElem? (i := 452) (by decide +kernel), List.mem_of_getElem? (i := 453) (by decide +kernel)⟩
theorem lw_p4 : lw_okq (⟨"OffForSecond$Reader", "park", "(I)V"⟩, 7) := ⟨⟨by decide +kernel, by decide +kernel⟩, List.mem_of_getElem? (i := 180) (by decide +kernel), List.mem_of_getElem? (i := 456) (by decide +kernel), List.mem_of_getElem? (i := 457) (by decide +kernel)⟩
theorem lw_p5 : lw_okq (⟨"OffForSecond$Reader", "continues", "(I)Z"⟩, 7) := ⟨⟨by decide +kernel, by decide +kernel⟩, List.mem_of_getElem? (i := 180) (by decide +kernel), List.mem_of_getElem? (i := 469) (by decide +kernel), List.mem_of_getElem? (i := 470) (by decide +kernel)⟩
theorem lw_p6 : lw_okq (⟨"OffForSecond$Reader", "lengthens", "(I)Z"⟩, 7) := ⟨⟨by decide +kernel, by decide +kernel⟩, List.mem_of_getElem? (i := 180) (by decide +kernel), List.mem_of_getElem? (i := 473) (by decide +kernel), List.mem_of_getElem? (i := 474) (by decide +kernel)⟩
theorem lw_p7 : lw_okq (⟨"OffForSecond$Reader", "closes", "()Z"⟩, 7) := ⟨⟨by decide +kernel, by decide +kernel⟩, List.mem_of_getElem? (i := 180) (by decide +kernel), List.mem_of_getElem? (i := 477) (by decide +kernel), List.mem_of_getElem? (i := 478) (by decide +kernel)⟩
theorem lw_p8 : lw_okq (⟨"OffForSecond$Reader", "settle", "(I)V"⟩, 7) := ⟨⟨by decide +kernel, by decide +kernel⟩, List.mem_of_getElem? (i := 180) (by decide +kernel), List.mem_of_getElem? (i := 481) (by decide +kernel), List.mem_of_getElem? (i := 482) (by decide +kernel)⟩
theorem lw_p9 : lw_okq (⟨"OffForSecond", "fitsFrom", "(III)Z"⟩, 7) := ⟨⟨by decide +kernel, by decide +kernel⟩, List.mem_of_getElem? (i := 14) (by decide +kernel), List.mem_of_getElem? (i := 586) (by decide +kernel), List.mem_of_getElem? (i := 587) (by decide +kernel)⟩
theorem lw_p10 : lw_okq (⟨"OffForSecond$Throat", "say", "(IIII)I"⟩, 6) := ⟨⟨by decide +kernel, by decide +kernel⟩, List.mem_of_getElem? (i := 229) (by decide +kernel), List.mem_of_getElem? (i := 626) (by decide +kernel), List.mem_of_getElem? (i := 627) (by decide +kernel)⟩
theorem lw_p11 : lw_okq (⟨"OffForSecond$Throat", "begin", "(I)V"⟩, 6) := ⟨⟨by decide +kernel, by decide +kernel⟩, List.mem_of_getElem? (i := 229) (by decide +kernel), List.mem_of_getElem? (i := 636) (by decide +kernel), List.mem_of_getElem? (i := 637) (by decide +kernel)⟩
theorem lw_p12 : lw_okq (⟨"OffForSecond$Throat", "parts", "(I)I"⟩, 6) := ⟨⟨by decide +kernel, by decide +kernel⟩, List.mem_of_getElem? (i := 229) (by decide +kernel), List.mem_of_getElem? (i := 640) (by decide +kernel), List.mem_of_getElem? (i := 641) (by decide +kernel)⟩
theorem lw_p13 : lw_okq (⟨"OffForSecond$Throat", "partsOfCurve", "(II)I"⟩, 6) := ⟨⟨by decide +kernel, by decide +kernel⟩, List.mem_of_getElem? (i := 229) (by decide +kernel), List.mem_of_getElem? (i := 644) (by decide +kernel), List.mem_of_getElem? (i := 645) (by decide +kernel)⟩
theorem lw_p14 : lw_okq (⟨"OffForSecondModel", "error", "(I)I"⟩, 19) := ⟨⟨by decide +kernel, by decide +kernel⟩, List.mem_of_getElem? (i := 730) (by decide +kernel), List.mem_of_getElem? (i := 805) (by decide +kernel), List.mem_of_getElem? (i := 806) (by decide +kernel)⟩
theorem lw_p15 : lw_okq (⟨"OffForSecondModel", "isPitch", "(I)Z"⟩, 19) := ⟨⟨by decide +kernel, by decide +kernel⟩, List.mem_of_getElem? (i := 730) (by decide +kernel), List.mem_of_getElem? (i := 815) (by decide +kernel), List.mem_of_getElem? (i := 816) (by decide +kernel)⟩
def lw_privs_1 : List (MethodName × Nat) := [(⟨"OffForSecond", "error", "(I)I"⟩, 7), (⟨"OffForSecond", "isPitch", "(I)Z"⟩, 7), (⟨"OffForSecond", "isRunner", "(I)Z"⟩, 7), (⟨"OffForSecond$Reader", "begins", "(II)Z"⟩, 7), (⟨"OffForSecond$Reader", "park", "(I)V"⟩, 7), (⟨"OffForSecond$Reader", "continues", "(I)Z"⟩, 7), (⟨"OffForSecond$Reader", "lengthens", "(I)Z"⟩, 7), (⟨"OffForSecond$Reader", "closes", "()Z"⟩, 7), (⟨"OffForSecond$Reader", "settle", "(I)V"⟩, 7), (⟨"OffForSecond", "fitsFrom", "(III)Z"⟩, 7), (⟨"OffForSecond$Throat", "say", "(IIII)I"⟩, 6), (⟨"OffForSecond$Throat", "begin", "(I)V"⟩, 6), (⟨"OffForSecond$Throat", "parts", "(I)I"⟩, 6), (⟨"OffForSecond$Throat", "partsOfCurve", "(II)I"⟩, 6), (⟨"OffForSecondModel", "error", "(I)I"⟩, 19), (⟨"OffForSecondModel", "isPitch", "(I)Z"⟩, 19)]
theorem lw_r1 : ∀ q ∈ lw_privs_1, lw_okq q := List.forall_mem_cons.mpr ⟨lw_p0, List.forall_mem_cons.mpr ⟨lw_p1, List.forall_mem_cons.mpr ⟨lw_p2, List.forall_mem_cons.mpr ⟨lw_p3, List.forall_mem_cons.mpr ⟨lw_p4, List.forall_mem_cons.mpr ⟨lw_p5, List.forall_mem_cons.mpr ⟨lw_p6, List.forall_mem_cons.mpr ⟨lw_p7, List.forall_mem_cons.mpr ⟨lw_p8, List.forall_mem_cons.mpr ⟨lw_p9, List.forall_mem_cons.mpr ⟨lw_p10, List.forall_mem_cons.mpr ⟨lw_p11, List.forall_mem_cons.mpr ⟨lw_p12, List.forall_mem_cons.mpr ⟨lw_p13, List.forall_mem_cons.mpr ⟨lw_p14, List.forall_mem_cons.mpr ⟨lw_p15, fun _ h => absurd h List.not_mem_nil⟩⟩⟩⟩⟩⟩⟩⟩⟩⟩⟩⟩⟩⟩⟩⟩
theorem lw_p16 : lw_okq (⟨"OffForSecondModel", "of", "(II)I"⟩, 19) := ⟨⟨by decide +kernel, by decide +kernel⟩, List.mem_of_getElem? (i := 730) (by decide +kernel), List.mem_of_getElem? (i := 819) (by decide +kernel), List.mem_of_getElem? (i := 820) (by decide +kernel)⟩
theorem lw_p17 : lw_okq (⟨"OffForSecondModel", "airOf", "(I)I"⟩, 19) := ⟨⟨by decide +kernel, by decide +kernel⟩, List.mem_of_getElem? (i := 730) (by decide +kernel), List.mem_of_getElem? (i := 823) (by decide +kernel), List.mem_of_getElem? (i := 824) (by decide +kernel)⟩
theorem lw_p18 : lw_okq (⟨"OffForSecondModel", "plainAir", "(I)I"⟩, 19) := ⟨⟨by decide +kernel, by decide +kernel⟩, List.mem_of_getElem? (i := 730) (by decide +kernel), List.mem_of_getElem? (i := 827) (by decide +kernel), List.mem_of_getElem? (i := 828) (by decide +kernel)⟩
theorem lw_p19 : lw_okq (⟨"OffForSecondModel", "gives", "(IIII)I"⟩, 19) := ⟨⟨by decide +kernel, by decide +kernel⟩, List.mem_of_getElem? (i := 730) (by decide +kernel), List.mem_of_getElem? (i := 831) (by decide +kernel), List.mem_of_getElem? (i := 832) (by decide +kernel)⟩
theorem lw_p20 : lw_okq (⟨"OffForSecondModel", "works", "(I)I"⟩, 19) := ⟨⟨by decide +kernel, by decide +kernel⟩, List.mem_of_getElem? (i := 730) (by decide +kernel), List.mem_of_getElem? (i := 835) (by decide +kernel), List.mem_of_getElem? (i := 836) (by decide +kernel)⟩
theorem lw_p21 : lw_okq (⟨"OffForSecondModel", "costsOf", "(I)I"⟩, 19) := ⟨⟨by decide +kernel, by decide +kernel⟩, List.mem_of_getElem? (i := 730) (by decide +kernel), List.mem_of_getElem? (i := 845) (by decide +kernel), List.mem_of_getElem? (i := 846) (by decide +kernel)⟩
theorem lw_p22 : lw_okq (⟨"OffForSecondModel", "becomes", "(II)I"⟩, 19) := ⟨⟨by decide +kernel, by decide +kernel⟩, List.mem_of_getElem? (i := 730) (by decide +kernel), List.mem_of_getElem? (i := 853) (by decide +kernel), List.mem_of_getElem? (i := 854) (by decide +kernel)⟩
theorem lw_p23 : lw_okq (⟨"OffForSecondModel", "lets", "(III)V"⟩, 19) := ⟨⟨by decide +kernel, by decide +kernel⟩, List.mem_of_getElem? (i := 730) (by decide +kernel), List.mem_of_getElem? (i := 870) (by decide +kernel), List.mem_of_getElem? (i := 871) (by decide +kernel)⟩
theorem lw_p24 : lw_okq (⟨"OffForSecondModel", "isRunner", "(I)Z"⟩, 19) := ⟨⟨by decide +kernel, by decide +kernel⟩, List.mem_of_getElem? (i := 730) (by decide +kernel), List.mem_of_getElem? (i := 878) (by decide +kernel), List.mem_of_getElem? (i := 879) (by decide +kernel)⟩
theorem lw_p25 : lw_okq (⟨"OffForSecondModel", "about", "(II)I"⟩, 19) := ⟨⟨by decide +kernel, by decide +kernel⟩, List.mem_of_getElem? (i := 730) (by decide +kernel), List.mem_of_getElem? (i := 882) (by decide +kernel), List.mem_of_getElem? (i := 883) (by decide +kernel)⟩
theorem lw_p26 : lw_okq (⟨"OffForSecondModel", "runFrom", "(II)I"⟩, 19) := ⟨⟨by decide +kernel, by decide +kernel⟩, List.mem_of_getElem? (i := 730) (by decide +kernel), List.mem_of_getElem? (i := 886) (by decide +kernel), List.mem_of_getElem? (i := 887) (by decide +kernel)⟩
theorem lw_p27 : lw_okq (⟨"OffForSecondModel", "isPickedAt", "(II)Z"⟩, 19) := ⟨⟨by decide +kernel, by decide +kernel⟩, List.mem_of_getElem? (i := 730) (by decide +kernel), List.mem_of_getElem? (i := 890) (by decide +kernel), List.mem_of_getElem? (i := 891) (by decide +kernel)⟩
theorem lw_p28 : lw_okq (⟨"OffForSecondModel", "goes", "(II)Z"⟩, 19) := ⟨⟨by decide +kernel, by decide +kernel⟩, List.mem_of_getElem? (i := 730) (by decide +kernel), List.mem_of_getElem? (i := 909) (by decide +kernel), List.mem_of_getElem? (i := 910) (by decide +kernel)⟩
theorem lw_p29 : lw_okq (⟨"OffForSecondModel", "isSafe", "(III)Z"⟩, 19) := ⟨⟨by decide +kernel, by decide +kernel⟩, List.mem_of_getElem? (i := 730) (by decide +kernel), List.mem_of_getElem? (i := 913) (by decide +kernel), List.mem_of_getElem? (i := 914) (by decide +kernel)⟩
theorem lw_p30 : lw_okq (⟨"OffForSecondModel", "marginOf", "(III)I"⟩, 19) := ⟨⟨by decide +kernel, by decide +kernel⟩, List.mem_of_getElem? (i := 730) (by decide +kernel), List.mem_of_getElem? (i := 917) (by decide +kernel), List.mem_of_getElem? (i := 918) (by decide +kernel)⟩
theorem lw_p31 : lw_okq (⟨"OffForSecondModel", "gainOf", "(III)I"⟩, 19) := ⟨⟨by decide +kernel, by decide +kernel⟩, List.mem_of_getElem? (i := 730) (by decide +kernel), List.mem_of_getElem? (i := 921) (by decide +kernel), List.mem_of_getElem? (i := 922) (by decide +kernel)⟩
def lw_privs_2 : List (MethodName × Nat) := [(⟨"OffForSecondModel", "of", "(II)I"⟩, 19), (⟨"OffForSecondModel", "airOf", "(I)I"⟩, 19), (⟨"OffForSecondModel", "plainAir", "(I)I"⟩, 19), (⟨"OffForSecondModel", "gives", "(IIII)I"⟩, 19), (⟨"OffForSecondModel", "works", "(I)I"⟩, 19), (⟨"OffForSecondModel", "costsOf", "(I)I"⟩, 19), (⟨"OffForSecondModel", "becomes", "(II)I"⟩, 19), (⟨"OffForSecondModel", "lets", "(III)V"⟩, 19), (⟨"OffForSecondModel", "isRunner", "(I)Z"⟩, 19), (⟨"OffForSecondModel", "about", "(II)I"⟩, 19), (⟨"OffForSecondModel", "runFrom", "(II)I"⟩, 19), (⟨"OffForSecondModel", "isPickedAt", "(II)Z"⟩, 19), (⟨"OffForSecondModel", "goes", "(II)Z"⟩, 19), (⟨"OffForSecondModel", "isSafe", "(III)Z"⟩, 19), (⟨"OffForSecondModel", "marginOf", "(III)I"⟩, 19), (⟨"OffForSecondModel", "gainOf", "(III)I"⟩, 19)]
theorem lw_r2 : ∀ q ∈ lw_privs_2, lw_okq q := List.forall_mem_cons.mpr ⟨lw_p16, List.forall_mem_cons.mpr ⟨lw_p17, List.forall_mem_cons.mpr ⟨lw_p18, List.forall_mem_cons.mpr ⟨lw_p19, List.forall_mem_cons.mpr ⟨lw_p20, List.forall_mem_cons.mpr ⟨lw_p21, List.forall_mem_cons.mpr ⟨lw_p22, List.forall_mem_cons.mpr ⟨lw_p23, List.forall_mem_cons.mpr ⟨lw_p24, List.forall_mem_cons.mpr ⟨lw_p25, List.forall_mem_cons.mpr ⟨lw_p26, List.forall_mem_cons.mpr ⟨lw_p27, List.forall_mem_cons.mpr ⟨lw_p28, List.forall_mem_cons.mpr ⟨lw_p29, List.forall_mem_cons.mpr ⟨lw_p30, List.forall_mem_cons.mpr ⟨lw_p31, fun _ h => absurd h List.not_mem_nil⟩⟩⟩⟩⟩⟩⟩⟩⟩⟩⟩⟩⟩⟩⟩⟩
theorem lw_p32 : lw_okq (⟨"OffForSecondModel", "more", "(I)V"⟩, 19) := ⟨⟨by decide +kernel, by decide +kernel⟩, List.mem_of_getElem? (i := 730) (by decide +kernel), List.mem_of_getElem? (i := 925) (by decide +kernel), List.mem_of_getElem? (i := 926) (by decide +kernel)⟩
theorem lw_p33 : lw_okq (⟨"OffForSecondModel", "isOut", "(I)V"⟩, 19) := ⟨⟨by decide +kernel, by decide +kernel⟩, List.mem_of_getElem? (i := 730) (by decide +kernel), List.mem_of_getElem? (i := 929) (by decide +kernel), List.mem_of_getElem? (i := 930) (by decide +kernel)⟩
theorem lw_p34 : lw_okq (⟨"OffForSecondModel", "any", "()V"⟩, 19) := ⟨⟨by decide +kernel, by decide +kernel⟩, List.mem_of_getElem? (i := 730) (by decide +kernel), List.mem_of_getElem? (i := 946) (by decide +kernel), List.mem_of_getElem? (i := 947) (by decide +kernel)⟩
theorem lw_p35 : lw_okq (⟨"OffForSecondModel", "all", "()V"⟩, 19) := ⟨⟨by decide +kernel, by decide +kernel⟩, List.mem_of_getElem? (i := 730) (by decide +kernel), List.mem_of_getElem? (i := 950) (by decide +kernel), List.mem_of_getElem? (i := 951) (by decide +kernel)⟩
theorem lw_p36 : lw_okq (⟨"OffForSecondModel", "compares", "()V"⟩, 19) := ⟨⟨by decide +kernel, by decide +kernel⟩, List.mem_of_getElem? (i := 730) (by decide +kernel), List.mem_of_getElem? (i := 954) (by decide +kernel), List.mem_of_getElem? (i := 955) (by decide +kernel)⟩
theorem lw_p37 : lw_okq (⟨"OffForSecondModel", "sum", "()V"⟩, 19) := ⟨⟨by decide +kernel, by decide +kernel⟩, List.mem_of_getElem? (i := 730) (by decide +kernel), List.mem_of_getElem? (i := 958) (by decide +kernel), List.mem_of_getElem? (i := 959) (by decide +kernel)⟩
theorem lw_p38 : lw_okq (⟨"OffForSecondModel", "times", "()V"⟩, 19) := ⟨⟨by decide +kernel, by decide +kernel⟩, List.mem_of_getElem? (i := 730) (by decide +kernel), List.mem_of_getElem? (i := 962) (by decide +kernel), List.mem_of_getElem? (i := 963) (by decide +kernel)⟩
theorem lw_p39 : lw_okq (⟨"OffForSecondModel", "one", "()V"⟩, 19) := ⟨⟨by decide +kernel, by decide +kernel⟩, List.mem_of_getElem? (i := 730) (by decide +kernel), List.mem_of_getElem? (i := 966) (by decide +kernel), List.mem_of_getElem? (i := 967) (by decide +kernel)⟩
theorem lw_p40 : lw_okq (⟨"OffForSecondModel", "look", "()I"⟩, 19) := ⟨⟨by decide +kernel, by decide +kernel⟩, List.mem_of_getElem? (i := 730) (by decide +kernel), List.mem_of_getElem? (i := 970) (by decide +kernel), List.mem_of_getElem? (i := 971) (by decide +kernel)⟩
theorem lw_p41 : lw_okq (⟨"OffForSecondModel", "nameOf", "(I)I"⟩, 19) := ⟨⟨by decide +kernel, by decide +kernel⟩, List.mem_of_getElem? (i := 730) (by decide +kernel), List.mem_of_getElem? (i := 974) (by decide +kernel), List.mem_of_getElem? (i := 975) (by decide +kernel)⟩
theorem lw_p42 : lw_okq (⟨"OffForSecondModel", "lays", "(II)V"⟩, 19) := ⟨⟨by decide +kernel, by decide +kernel⟩, List.mem_of_getElem? (i := 730) (by decide +kernel), List.mem_of_getElem? (i := 978) (by decide +kernel), List.mem_of_getElem? (i := 979) (by decide +kernel)⟩
theorem lw_p43 : lw_okq (⟨"OffForSecondModel", "opens", "(I)V"⟩, 19) := ⟨⟨by decide +kernel, by decide +kernel⟩, List.mem_of_getElem? (i := 730) (by decide +kernel), List.mem_of_getElem? (i := 982) (by decide +kernel), List.mem_of_getElem? (i := 983) (by decide +kernel)⟩
theorem lw_p44 : lw_okq (⟨"OffForSecondModel", "number", "()V"⟩, 19) := ⟨⟨by decide +kernel, by decide +kernel⟩, List.mem_of_getElem? (i := 730) (by decide +kernel), List.mem_of_getElem? (i := 986) (by decide +kernel), List.mem_of_getElem? (i := 987) (by decide +kernel)⟩
theorem lw_p45 : lw_okq (⟨"OffForSecondModel", "gainsFrom", "(II)I"⟩, 19) := ⟨⟨by decide +kernel, by decide +kernel⟩, List.mem_of_getElem? (i := 730) (by decide +kernel), List.mem_of_getElem? (i := 1011) (by decide +kernel), List.mem_of_getElem? (i := 1012) (by decide +kernel)⟩
theorem lw_p46 : lw_okq (⟨"OffForSecondModel", "weights", "()I"⟩, 19) := ⟨⟨by decide +kernel, by decide +kernel⟩, List.mem_of_getElem? (i := 730) (by decide +kernel), List.mem_of_getElem? (i := 1019) (by decide +kernel), List.mem_of_getElem? (i := 1020) (by decide +kernel)⟩
theorem lw_p47 : lw_okq (⟨"OffForSecondModel", "isSo", "(III)Z"⟩, 19) := ⟨⟨by decide +kernel, by decide +kernel⟩, List.mem_of_getElem? (i := 730) (by decide +kernel), List.mem_of_getElem? (i := 1052) (by decide +kernel), List.mem_of_getElem? (i := 1053) (by decide +kernel)⟩
def lw_privs_3 : List (MethodName × Nat) := [(⟨"OffForSecondModel", "more", "(I)V"⟩, 19), (⟨"OffForSecondModel", "isOut", "(I)V"⟩, 19), (⟨"OffForSecondModel", "any", "()V"⟩, 19), (⟨"OffForSecondModel", "all", "()V"⟩, 19), (⟨"OffForSecondModel", "compares", "()V"⟩, 19), (⟨"OffForSecondModel", "sum", "()V"⟩, 19), (⟨"OffForSecondModel", "times", "()V"⟩, 19), (⟨"OffForSecondModel", "one", "()V"⟩, 19), (⟨"OffForSecondModel", "look", "()I"⟩, 19), (⟨"OffForSecondModel", "nameOf", "(I)I"⟩, 19), (⟨"OffForSecondModel", "lays", "(II)V"⟩, 19), (⟨"OffForSecondModel", "opens", "(I)V"⟩, 19), (⟨"OffForSecondModel", "number", "()V"⟩, 19), (⟨"OffForSecondModel", "gainsFrom", "(II)I"⟩, 19), (⟨"OffForSecondModel", "weights", "()I"⟩, 19), (⟨"OffForSecondModel", "isSo", "(III)Z"⟩, 19)]
theorem lw_r3 : ∀ q ∈ lw_privs_3, lw_okq q := List.forall_mem_cons.mpr ⟨lw_p32, List.forall_mem_cons.mpr ⟨lw_p33, List.forall_mem_cons.mpr ⟨lw_p34, List.forall_mem_cons.mpr ⟨lw_p35, List.forall_mem_cons.mpr ⟨lw_p36, List.forall_mem_cons.mpr ⟨lw_p37, List.forall_mem_cons.mpr ⟨lw_p38, List.forall_mem_cons.mpr ⟨lw_p39, List.forall_mem_cons.mpr ⟨lw_p40, List.forall_mem_cons.mpr ⟨lw_p41, List.forall_mem_cons.mpr ⟨lw_p42, List.forall_mem_cons.mpr ⟨lw_p43, List.forall_mem_cons.mpr ⟨lw_p44, List.forall_mem_cons.mpr ⟨lw_p45, List.forall_mem_cons.mpr ⟨lw_p46, List.forall_mem_cons.mpr ⟨lw_p47, fun _ h => absurd h List.not_mem_nil⟩⟩⟩⟩⟩⟩⟩⟩⟩⟩⟩⟩⟩⟩⟩⟩
theorem lw_p48 : lw_okq (⟨"OffForSecondModel", "drawn", "()Z"⟩, 19) := ⟨⟨by decide +kernel, by decide +kernel⟩, List.mem_of_getElem? (i := 730) (by decide +kernel), List.mem_of_getElem? (i := 1060) (by decide +kernel), List.mem_of_getElem? (i := 1061) (by decide +kernel)⟩
theorem lw_p49 : lw_okq (⟨"OffForSecondModel", "draw", "()I"⟩, 19) := ⟨⟨by decide +kernel, by decide +kernel⟩, List.mem_of_getElem? (i := 730) (by decide +kernel), List.mem_of_getElem? (i := 1064) (by decide +kernel), List.mem_of_getElem? (i := 1065) (by decide +kernel)⟩
theorem lw_p50 : lw_okq (⟨"OffForSecondModel", "hisses", "(II)I"⟩, 19) := ⟨⟨by decide +kernel, by decide +kernel⟩, List.mem_of_getElem? (i := 730) (by decide +kernel), List.mem_of_getElem? (i := 1077) (by decide +kernel), List.mem_of_getElem? (i := 1078) (by decide +kernel)⟩
theorem lw_p51 : lw_okq (⟨"OffForSecondModel", "curveHisses", "(II)I"⟩, 19) := ⟨⟨by decide +kernel, by decide +kernel⟩, List.mem_of_getElem? (i := 730) (by decide +kernel), List.mem_of_getElem? (i := 1081) (by decide +kernel), List.mem_of_getElem? (i := 1082) (by decide +kernel)⟩
theorem lw_p52 : lw_okq (⟨"OffForSecondModel", "begins", "(I)V"⟩, 19) := ⟨⟨by decide +kernel, by decide +kernel⟩, List.mem_of_getElem? (i := 730) (by decide +kernel), List.mem_of_getElem? (i := 1085) (by decide +kernel), List.mem_of_getElem? (i := 1086) (by decide +kernel)⟩
theorem lw_p53 : lw_okq (⟨"OffForSecondModel", "plainHisses", "(II)I"⟩, 19) := ⟨⟨by decide +kernel, by decide +kernel⟩, List.mem_of_getElem? (i := 730) (by decide +kernel), List.mem_of_getElem? (i := 1089) (by decide +kernel), List.mem_of_getElem? (i := 1090) (by decide +kernel)⟩
theorem lw_p54 : lw_okq (⟨"OffForSecondModel", "drops", "(II)I"⟩, 19) := ⟨⟨by decide +kernel, by decide +kernel⟩, List.mem_of_getElem? (i := 730) (by decide +kernel), List.mem_of_getElem? (i := 1093) (by decide +kernel), List.mem_of_getElem? (i := 1094) (by decide +kernel)⟩
theorem lw_p55 : lw_okq (⟨"OffForSecondModel", "hardDrops", "(II)I"⟩, 19) := ⟨⟨by decide +kernel, by decide +kernel⟩, List.mem_of_getElem? (i := 730) (by decide +kernel), List.mem_of_getElem? (i := 1097) (by decide +kernel), List.mem_of_getElem? (i := 1098) (by decide +kernel)⟩
theorem lw_p56 : lw_okq (⟨"OffForSecondModel", "plainDrops", "(II)I"⟩, 19) := ⟨⟨by decide +kernel, by decide +kernel⟩, List.mem_of_getElem? (i := 730) (by decide +kernel), List.mem_of_getElem? (i := 1101) (by decide +kernel), List.mem_of_getElem? (i := 1102) (by decide +kernel)⟩
theorem lw_p57 : lw_okq (⟨"OffForSecondModel", "thuds", "(II)I"⟩, 19) := ⟨⟨by decide +kernel, by decide +kernel⟩, List.mem_of_getElem? (i := 730) (by decide +kernel), List.mem_of_getElem? (i := 1105) (by decide +kernel), List.mem_of_getElem? (i := 1106) (by decide +kernel)⟩
theorem lw_p58 : lw_okq (⟨"OffForSecondModel", "plainThuds", "(II)I"⟩, 19) := ⟨⟨by decide +kernel, by decide +kernel⟩, List.mem_of_getElem? (i := 730) (by decide +kernel), List.mem_of_getElem? (i := 1109) (by decide +kernel), List.mem_of_getElem? (i := 1110) (by decide +kernel)⟩
theorem lw_p59 : lw_okq (⟨"OffForSecondModel", "partsBy", "(II)I"⟩, 19) := ⟨⟨by decide +kernel, by decide +kernel⟩, List.mem_of_getElem? (i := 730) (by decide +kernel), List.mem_of_getElem? (i := 1113) (by decide +kernel), List.mem_of_getElem? (i := 1114) (by decide +kernel)⟩
theorem lw_p60 : lw_okq (⟨"OffForSecondModel", "plainParts", "(II)I"⟩, 19) := ⟨⟨by decide +kernel, by decide +kernel⟩, List.mem_of_getElem? (i := 730) (by decide +kernel), List.mem_of_getElem? (i := 1117) (by decide +kernel), List.mem_of_getElem? (i := 1118) (by decide +kernel)⟩
theorem lw_p61 : lw_okq (⟨"OffForSecondModel", "notThere", "(I)I"⟩, 19) := ⟨⟨by decide +kernel, by decide +kernel⟩, List.mem_of_getElem? (i := 730) (by decide +kernel), List.mem_of_getElem? (i := 1134) (by decide +kernel), List.mem_of_getElem? (i := 1135) (by decide +kernel)⟩
theorem lw_p62 : lw_okq (⟨"OffForSecondModel", "notMoved", "(IIIII)I"⟩, 19) := ⟨⟨by decide +kernel, by decide +kernel⟩, List.mem_of_getElem? (i := 730) (by decide +kernel), List.mem_of_getElem? (i := 1142) (by decide +kernel), List.mem_of_getElem? (i := 1143) (by decide +kernel)⟩
def lw_privs_4 : List (MethodName × Nat) := [(⟨"OffForSecondModel", "drawn", "()Z"⟩, 19), (⟨"OffForSecondModel", "draw", "()I"⟩, 19), (⟨"OffForSecondModel", "hisses", "(II)I"⟩, 19), (⟨"OffForSecondModel", "curveHisses", "(II)I"⟩, 19), (⟨"OffForSecondModel", "begins", "(I)V"⟩, 19), (⟨"OffForSecondModel", "plainHisses", "(II)I"⟩, 19), (⟨"OffForSecondModel", "drops", "(II)I"⟩, 19), (⟨"OffForSecondModel", "hardDrops", "(II)I"⟩, 19), (⟨"OffForSecondModel", "plainDrops", "(II)I"⟩, 19), (⟨"OffForSecondModel", "thuds", "(II)I"⟩, 19), (⟨"OffForSecondModel", "plainThuds", "(II)I"⟩, 19), (⟨"OffForSecondModel", "partsBy", "(II)I"⟩, 19), (⟨"OffForSecondModel", "plainParts", "(II)I"⟩, 19), (⟨"OffForSecondModel", "notThere", "(I)I"⟩, 19), (⟨"OffForSecondModel", "notMoved", "(IIIII)I"⟩, 19)]
theorem lw_r4 : ∀ q ∈ lw_privs_4, lw_okq q := List.forall_mem_cons.mpr ⟨lw_p48, List.forall_mem_cons.mpr ⟨lw_p49, List.forall_mem_cons.mpr ⟨lw_p50, List.forall_mem_cons.mpr ⟨lw_p51, List.forall_mem_cons.mpr ⟨lw_p52, List.forall_mem_cons.mpr ⟨lw_p53, List.forall_mem_cons.mpr ⟨lw_p54, List.forall_mem_cons.mpr ⟨lw_p55, List.forall_mem_cons.mpr ⟨lw_p56, List.forall_mem_cons.mpr ⟨lw_p57, List.forall_mem_cons.mpr ⟨lw_p58, List.forall_mem_cons.mpr ⟨lw_p59, List.forall_mem_cons.mpr ⟨lw_p60, List.forall_mem_cons.mpr ⟨lw_p61, List.forall_mem_cons.mpr ⟨lw_p62, fun _ h => absurd h List.not_mem_nil⟩⟩⟩⟩⟩⟩⟩⟩⟩⟩⟩⟩⟩⟩⟩
def lw_privs : List (MethodName × Nat) := lw_privs_1 ++ (lw_privs_2 ++ (lw_privs_3 ++ (lw_privs_4)))
def lw_tbl : List Cond := k2_sels lw_privs ++ tables_1
theorem lw_privs_ok : ∀ q ∈ lw_privs, lw_okq q := by
  show ∀ q ∈ lw_privs_1 ++ (lw_privs_2 ++ (lw_privs_3 ++ (lw_privs_4))), lw_okq q
  exact List.forall_mem_append.mpr ⟨lw_r1, List.forall_mem_append.mpr ⟨lw_r2, List.forall_mem_append.mpr ⟨lw_r3, lw_r4⟩⟩⟩
theorem tb_of {ws big : List Cond} (ps : List Nat) (h : ws = ps.filterMap (fun i => big[i]?)) : ∀ w ∈ ws, w ∈ big := by
  intro w hw
  rw [h] at hw
  obtain ⟨i, -, hi⟩ := List.mem_filterMap.mp hw
  exact List.mem_of_getElem? hi
set_option maxRecDepth 100000 in
theorem tb_0 : ∀ w ∈ AL_0, w ∈ lw_tbl := tb_of [241, 122, 248, 123, 158, 90, 242, 273, 291, 84, 608, 401, 398, 83, 633, 362, 598, 673, 94, 763, 517, 542, 534, 513, 246] (by decide +kernel)
set_option maxRecDepth 100000 in
theorem tb_1 : ∀ w ∈ AL_1, w ∈ lw_tbl := tb_of [524, 538, 521, 549, 546, 430, 450, 127, 442, 768, 374, 378, 468, 405, 668, 590, 486, 382, 476, 395, 88, 493, 446, 663, 480] (by decide +kernel)
set_option maxRecDepth 100000 in
theorem tb_2 : ∀ w ∈ AL_2, w ∈ lw_tbl := tb_of [489, 630, 602, 759, 553, 586, 742, 277, 647, 721, 655, 729, 733, 528, 162, 392, 389, 557, 386, 701, 694, 295, 705, 709, 691] (by decide +kernel)
set_option maxRecDepth 100000 in
theorem tb_3 : ∀ w ∈ AL_3, w ∈ lw_tbl := tb_of [687, 413, 409, 582, 713, 783, 611, 787, 620, 357, 502, 640, 651, 616, 755, 80, 353, 457, 347, 370, 438, 643, 416, 509, 751] (by decide +kernel)
set_option maxRecDepth 100000 in
theorem tb_4 : ∀ w ∈ AL_4, w ∈ lw_tbl := tb_of [568, 578, 454, 659, 573, 464, 738, 594, 497, 605, 344, 366, 725, 775, 426, 434, 679, 461, 717, 472, 626, 779, 506, 791, 564] (by decide +kernel)
set_option maxRecDepth 100000 in
theorem tb_5 : ∀ w ∈ AL_5, w ∈ lw_tbl := tb_of [683, 422, 747, 350, 947, 888, 1015, 1011, 922, 914, 918, 1150, 1072, 1187, 1234, 1019, 1222, 910, 1238, 1146, 1129, 1125, 1158, 1096, 870] (by decide +kernel)
set_option maxRecDepth 100000 in
theorem tb_6 : ∀ w ∈ AL_6, w ∈ lw_tbl := tb_of [1002, 1110, 986, 1076, 896, 1092, 974, 1102, 1162, 906, 1142, 1219, 865, 796, 862, 962, 994, 955, 880, 943, 978, 1113, 1117, 1215, 1059] (by decide +kernel)
set_option maxRecDepth 100000 in
theorem tb_7 : ∀ w ∈ AL_7, w ∈ lw_tbl := tb_of [1043, 1067, 959, 1099, 935, 1035, 1121, 1063, 982, 990, 1203, 1039, 1207, 1199, 1051, 1080, 884, 1031, 1047, 998, 1088, 1178, 859, 876, 892] (by decide +kernel)
set_option maxRecDepth 100000 in
theorem tb_8 : ∀ w ∈ AL_8, w ∈ lw_tbl := tb_of [1166, 1154, 1182, 1174, 1195, 1226, 951, 931, 939, 1134, 966, 1191, 970, 1023, 1106, 1230, 1007, 1170, 1027, 1242, 903, 1055, 1138, 927, 1084] (by decide +kernel)
set_option maxRecDepth 100000 in
theorem tb_9 : ∀ w ∈ AL_9, w ∈ lw_tbl := tb_of [1211, 900, 634, 635, 636, 669, 734, 358, 1068, 1085, 1130, 1183, 871, 866, 872, 923, 1003, 99, 102, 105, 108, 96, 250, 252, 253] (by decide +kernel)
set_option maxRecDepth 100000 in
theorem tb_10 : ∀ w ∈ AL_10, w ∈ lw_tbl := tb_of [254, 255, 256, 257, 168, 170, 165, 131, 133, 136, 139, 142, 129, 98, 107, 182, 110, 104, 135, 138, 141, 144, 184, 186, 187] (by decide +kernel)
set_option maxRecDepth 100000 in
theorem tb_11 : ∀ w ∈ AL_11, w ∈ lw_tbl := tb_of [188, 190, 192, 194, 196, 198, 200, 202, 204, 206, 208, 171, 101, 281, 283, 279, 166, 167, 169, 164, 299, 301, 303, 304, 305] (by decide +kernel)
set_option maxRecDepth 100000 in
theorem tb_12 : ∀ w ∈ AL_12, w ∈ lw_tbl := tb_of [297, 319, 185, 143, 134, 130, 132, 137, 140, 191, 189, 320, 251, 172, 321, 209, 302, 300, 298, 280, 282, 205, 195, 193, 203] (by decide +kernel)
set_option maxRecDepth 100000 in
theorem tb_13 : ∀ w ∈ AL_13, w ∈ lw_tbl := tb_of [207, 322, 197, 199, 201, 417, 323, 324, 325, 183, 109, 97, 100, 103, 106, 810, 799, 809, 813, 812, 811, 801, 802, 815, 803] (by decide +kernel)
set_option maxRecDepth 100000 in
theorem tb_14 : ∀ w ∈ AL_14, w ∈ lw_tbl := tb_of [816, 804, 800, 805, 806, 807, 808, 814, 798, 73, 74, 75, 66, 69, 67, 65, 70, 68, 71, 64, 72, 82, 360, 596, 671] (by decide +kernel)
set_option maxRecDepth 100000 in
theorem tb_15 : ∀ w ∈ AL_15, w ∈ lw_tbl := tb_of [93, 761, 516, 541, 533, 511, 245, 537, 520, 545, 428, 448, 126, 440, 766, 372, 376, 466, 403, 666, 588, 484, 380, 474, 87] (by decide +kernel)
set_option maxRecDepth 100000 in
theorem tb_16 : ∀ w ∈ AL_16, w ∈ lw_tbl := tb_of [491, 444, 661, 478, 628, 600, 757, 551, 584, 740, 276, 645, 719, 653, 727, 731, 526, 161, 555, 384, 700, 294, 704, 708, 690] (by decide +kernel)
set_option maxRecDepth 100000 in
theorem tb_17 : ∀ w ∈ AL_17, w ∈ lw_tbl := tb_of [685, 411, 407, 580, 711, 781, 785, 618, 356, 500, 638, 650, 614, 753, 79, 369, 437, 749, 566, 576, 452, 657, 571, 736, 592] (by decide +kernel)
set_option maxRecDepth 100000 in
theorem tb_18 : ∀ w ∈ AL_18, w ∈ lw_tbl := tb_of [495, 342, 364, 723, 773, 424, 432, 677, 459, 715, 470, 624, 777, 504, 789, 562, 681, 420, 745, 946, 887, 1014, 1010, 920, 912] (by decide +kernel)
set_option maxRecDepth 100000 in
theorem tb_19 : ∀ w ∈ AL_19, w ∈ lw_tbl := tb_of [917, 1149, 1070, 1185, 1232, 1018, 909, 1236, 1145, 1128, 1124, 1157, 1094, 869, 1000, 1108, 985, 1075, 895, 1090, 973, 1161, 1141, 1217, 795] (by decide +kernel)
set_option maxRecDepth 100000 in
theorem tb_20 : ∀ w ∈ AL_20, w ∈ lw_tbl := tb_of [993, 954, 879, 942, 977, 1116, 1213, 1057, 1042, 1065, 957, 934, 1034, 1119, 1061, 981, 989, 1201, 1038, 1206, 1198, 1050, 1078, 883, 1030] (by decide +kernel)
set_option maxRecDepth 100000 in
theorem tb_21 : ∀ w ∈ AL_21, w ∈ lw_tbl := tb_of [1046, 996, 1177, 857, 874, 891, 1165, 1153, 1181, 1173, 1193, 1224, 950, 929, 937, 1132, 964, 1189, 968, 1022, 1104, 1228, 1005, 1169, 1026] (by decide +kernel)
set_option maxRecDepth 100000 in
theorem tb_22 : ∀ w ∈ AL_22, w ∈ lw_tbl := tb_of [1240, 1053, 1136, 925, 1083, 1209, 899, 91, 243, 124, 85, 274, 159, 292, 77, 793, 764, 95, 247, 514, 531, 543, 518, 522, 525] (by decide +kernel)
set_option maxRecDepth 100000 in
theorem tb_23 : ∀ w ∈ AL_23, w ∈ lw_tbl := tb_of [535, 539, 547, 128, 769, 375, 379, 447, 481, 482, 477, 483, 587, 487, 490, 664, 665, 670, 674, 675, 396, 399, 89, 760, 765] (by decide +kernel)
set_option maxRecDepth 100000 in
theorem tb_24 : ∀ w ∈ AL_24, w ∈ lw_tbl := tb_of [770, 771, 383, 393, 743, 278, 558, 163, 387, 390, 296, 688, 692, 698, 702, 706, 81, 427, 435, 439, 443, 455, 462, 465, 473] (by decide +kernel)
set_option maxRecDepth 100000 in
theorem tb_25 : ∀ w ∈ AL_25, w ∈ lw_tbl := tb_of [498, 507, 510, 550, 554, 569, 574, 583, 595, 599, 603, 621, 622, 612, 627, 631, 641, 644, 648, 660, 684, 718, 726, 730, 739] (by decide +kernel)
set_option maxRecDepth 100000 in
theorem tb_26 : ∀ w ∈ AL_26, w ∈ lw_tbl := tb_of [652, 756, 606, 609, 345, 351, 354, 359, 367, 371, 402, 348, 414, 960, 904, 987, 975, 983, 991, 971, 1032, 1040, 1028, 1008, 1036] (by decide +kernel)
set_option maxRecDepth 100000 in
theorem tb_27 : ∀ w ∈ AL_27, w ∈ lw_tbl := tb_of [1044, 1048, 1024, 1020, 1016, 1012, 901, 897, 1073, 1081, 1086, 1097, 1100, 1111, 1114, 1126, 1122, 1147, 1151, 1143, 1139, 1163, 1159, 1155, 1171] (by decide +kernel)
set_option maxRecDepth 100000 in
theorem tb_28 : ∀ w ∈ AL_28, w ∈ lw_tbl := tb_of [1179, 1167, 1175, 1196, 1204, 1220, 797, 863, 881, 889, 893, 944, 885, 948, 979, 860, 867, 877, 907, 915, 932, 940, 952, 560, 361] (by decide +kernel)
set_option maxRecDepth 100000 in
theorem tb_29 : ∀ w ∈ AL_29, w ∈ lw_tbl := tb_of [597, 672, 762, 3, 7, 5, 512, 6, 4, 8, 429, 449, 441, 767, 373, 377, 467, 404, 667, 589, 485, 381, 475, 492, 445] (by decide +kernel)
set_option maxRecDepth 100000 in
theorem tb_30 : ∀ w ∈ AL_30, w ∈ lw_tbl := tb_of [662, 479, 629, 601, 758, 552, 585, 741, 646, 720, 654, 728, 732, 527, 556, 385, 11, 12, 13, 10, 686, 412, 408, 581, 712] (by decide +kernel)
set_option maxRecDepth 100000 in
theorem tb_31 : ∀ w ∈ AL_31, w ∈ lw_tbl := tb_of [782, 786, 619, 0, 501, 639, 9, 615, 754, 1, 2, 750, 567, 577, 453, 658, 572, 737, 593, 496, 343, 365, 724, 774, 425] (by decide +kernel)
set_option maxRecDepth 100000 in
theorem tb_32 : ∀ w ∈ AL_32, w ∈ lw_tbl := tb_of [433, 678, 460, 716, 471, 625, 778, 505, 790, 563, 682, 421, 746, 25, 17, 35, 34, 921, 913, 22, 52, 1071, 1186, 1233, 36] (by decide +kernel)
set_option maxRecDepth 100000 in
theorem tb_33 : ∀ w ∈ AL_33, w ∈ lw_tbl := tb_of [21, 1237, 51, 49, 48, 54, 1095, 14, 1001, 1109, 31, 45, 19, 1091, 28, 55, 50, 1218, 33, 27, 15, 24, 29, 47, 1214] (by decide +kernel)
set_option maxRecDepth 100000 in
theorem tb_34 : ∀ w ∈ AL_34, w ∈ lw_tbl := tb_of [1058, 42, 1066, 958, 23, 40, 1120, 1062, 30, 32, 1202, 41, 62, 61, 44, 1079, 16, 39, 43, 997, 59, 858, 875, 18, 56] (by decide +kernel)
set_option maxRecDepth 100000 in
theorem tb_35 : ∀ w ∈ AL_35, w ∈ lw_tbl := tb_of [53, 60, 58, 1194, 1225, 26, 930, 938, 1133, 965, 1190, 969, 37, 1105, 1229, 1006, 57, 38, 1241, 1054, 1137, 926, 46, 1210, 20] (by decide +kernel)
set_option maxRecDepth 100000 in
theorem tb_36 : ∀ w ∈ AL_36, w ∈ lw_tbl := tb_of [607, 400, 397, 559, 632, 523, 548, 394, 488, 391, 388, 693, 610, 352, 456, 346, 642, 415, 508, 463, 604, 349, 1221, 1101, 905] (by decide +kernel)
set_option maxRecDepth 100000 in
theorem tb_37 : ∀ w ∈ AL_37, w ∈ lw_tbl := tb_of [864, 861, 961, 1112, 1098, 1087, 902] (by decide +kernel)
set_option maxRecDepth 100000 in
theorem tb_u : ∀ w ∈ AL_u, w ∈ lw_tbl := tb_of [111, 113, 115, 117, 119, 258, 260, 262, 264, 266, 268, 270, 145, 147, 149, 151, 153, 155, 210, 212, 214, 216, 218, 220, 222, 224, 226, 228, 230, 232, 234, 236, 238, 284, 286, 288, 173, 175, 177, 179, 306, 308, 310, 312, 314, 316, 326, 328, 330, 332, 334, 336, 338, 817, 819, 821, 823, 825, 827, 829, 831, 833, 835, 837, 839, 841, 843, 845, 847, 849, 851, 853] (by decide +kernel)
theorem ALL_tbl : ∀ w ∈ ALL, w ∈ lw_tbl := fun w h => (List.mem_append.mp h).elim (tb_u w) (fun h => (List.mem_append.mp h).elim (tb_0 w) (fun h => (List.mem_append.mp h).elim (tb_1 w) (fun h => (List.mem_append.mp h).elim (tb_2 w) (fun h => (List.mem_append.mp h).elim (tb_3 w) (fun h => (List.mem_append.mp h).elim (tb_4 w) (fun h => (List.mem_append.mp h).elim (tb_5 w) (fun h => (List.mem_append.mp h).elim (tb_6 w) (fun h => (List.mem_append.mp h).elim (tb_7 w) (fun h => (List.mem_append.mp h).elim (tb_8 w) (fun h => (List.mem_append.mp h).elim (tb_9 w) (fun h => (List.mem_append.mp h).elim (tb_10 w) (fun h => (List.mem_append.mp h).elim (tb_11 w) (fun h => (List.mem_append.mp h).elim (tb_12 w) (fun h => (List.mem_append.mp h).elim (tb_13 w) (fun h => (List.mem_append.mp h).elim (tb_14 w) (fun h => (List.mem_append.mp h).elim (tb_15 w) (fun h => (List.mem_append.mp h).elim (tb_16 w) (fun h => (List.mem_append.mp h).elim (tb_17 w) (fun h => (List.mem_append.mp h).elim (tb_18 w) (fun h => (List.mem_append.mp h).elim (tb_19 w) (fun h => (List.mem_append.mp h).elim (tb_20 w) (fun h => (List.mem_append.mp h).elim (tb_21 w) (fun h => (List.mem_append.mp h).elim (tb_22 w) (fun h => (List.mem_append.mp h).elim (tb_23 w) (fun h => (List.mem_append.mp h).elim (tb_24 w) (fun h => (List.mem_append.mp h).elim (tb_25 w) (fun h => (List.mem_append.mp h).elim (tb_26 w) (fun h => (List.mem_append.mp h).elim (tb_27 w) (fun h => (List.mem_append.mp h).elim (tb_28 w) (fun h => (List.mem_append.mp h).elim (tb_29 w) (fun h => (List.mem_append.mp h).elim (tb_30 w) (fun h => (List.mem_append.mp h).elim (tb_31 w) (fun h => (List.mem_append.mp h).elim (tb_32 w) (fun h => (List.mem_append.mp h).elim (tb_33 w) (fun h => (List.mem_append.mp h).elim (tb_34 w) (fun h => (List.mem_append.mp h).elim (tb_35 w) (fun h => (List.mem_append.mp h).elim (tb_36 w) (fun h => tb_37 w h))))))))))))))))))))))))))))))))))))))
def LK : List Cond := [.methodLink "OffForSecondLaw" 13 yX7_pitch, .methodLink "OffForSecondLaw" 17 yX8_pitch, .methodLink "OffForSecondLaw" 18 yX7_pitchIs, .methodLink "OffForSecondLaw" 21 yX8_pitchIs, .methodLink "OffForSecondLaw" 22 yX7_become, .methodLink "OffForSecondLaw" 25 yX8_become, .methodLink "OffForSecondLaw" 26 yX7_as, .methodLink "OffForSecondLaw" 29 yX8_as, .methodLink "OffForSecondLaw" 30 yX7_weighs, .methodLink "OffForSecondLaw" 33 yX8_weighs, .methodLink "OffForSecondLaw" 34 yX7_runner, .methodLink "OffForSecondLaw" 37 yX8_runner, .methodLink "OffForSecondLaw" 38 yX7_runnerIs, .methodLink "OffForSecondLaw" 41 yX8_runnerIs, .methodLink "OffForSecondLaw" 42 yX7_leads, .methodLink "OffForSecondLaw" 45 yX8_leads, .methodLink "OffForSecondLaw" 46 yX7_set, .methodLink "OffForSecondLaw" 49 yX8_set, .methodLink "OffForSecondLaw" 50 yX7_steal, .methodLink "OffForSecondLaw" 53 yX8_steal, .methodLink "OffForSecondLaw" 54 yX7_over, .methodLink "OffForSecondLaw" 58 yX8_over, .methodLink "OffForSecondLaw" 61 yX7_feed, .methodLink "OffForSecondLaw" 65 yX8_feed, .methodLink "OffForSecondLaw" 66 yX7_text, .methodLink "OffForSecondLaw" 69 yX8_text, .methodLink "OffForSecondLaw" 70 yX7_untell, .methodLink "OffForSecondLaw" 73 yX8_untell, .methodLink "OffForSecondLaw" 74 yX7_law, .methodLink "OffForSecondLaw" 78 yX8_law, .methodLink "OffForSecondLaw" 79 yX7_margin, .methodLink "OffForSecondLaw" 83 yX8_margin, .methodLink "OffForSecondLaw" 84 yX7_leadFor, .methodLink "OffForSecondLaw" 87 yX8_leadFor, .methodLink "OffForSecondLaw" 88 yX7_bestLead, .methodLink "OffForSecondLaw" 91 yX8_bestLead, .methodLink "OffForSecondLaw" 92 yX7_odds, .methodLink "OffForSecondLaw" 95 yX8_odds, .methodLink "OffForSecondLaw" 96 yX7_go, .methodLink "OffForSecondLaw" 99 yX8_go, .methodLink "OffForSecondLaw" 100 yX7_duel, .methodLink "OffForSecondLaw" 103 yX8_duel, .methodLink "OffForSecondLaw" 104 yX7_surely, .methodLink "OffForSecondLaw" 107 yX8_surely, .methodLink "OffForSecondLaw" 108 yX7_fits, .methodLink "OffForSecondLaw" 111 yX8_fits, .methodLink "OffForSecondLaw" 112 yX7_loose, .methodLink "OffForSecondLaw" 115 yX8_loose, .methodLink "OffForSecondLaw" 116 yX7_seed, .methodLink "OffForSecondLaw" 119 yX8_seed, .methodLink "OffForSecondLaw" 120 yX7_voice, .methodLink "OffForSecondLaw" 123 yX8_voice, .methodLink "OffForSecondLaw" 124 yX7_body, .methodLink "OffForSecondLaw" 127 yX8_body, .methodLink "OffForSecondLaw" 128 yX7_sheet, .methodLink "OffForSecondLaw" 131 yX8_sheet, .methodLink "OffForSecondLaw" 132 yX7_put, .methodLink "OffForSecondLaw" 135 yX8_put, .methodLink "OffForSecondLaw" 136 yX7_move, .methodLink "OffForSecondLaw" 140 yX8_move, .methodLink "OffForSecondLaw" 141 yX7_weightsBy, .methodLink "OffForSecondLaw" 144 yX8_weightsBy, .methodLink "OffForSecondLaw" 145 yX7_judge, .methodLink "OffForSecondLaw" 148 yX8_judge, .methodLink "OffForSecondLaw" 149 yX7_image, .methodLink "OffForSecondLaw" 153 yX8_image, .methodLink "OffForSecondLaw" 154 yX7_restore, .methodLink "OffForSecondLaw" 157 yX8_restore, .methodLink "OffForSecondLaw" 158 yX7_tell, .methodLink "OffForSecondLaw" 161 yX8_tell, .methodLink "OffForSecondLaw" 162 yX7_check, .methodLink "OffForSecondLaw" 165 yX8_check, .methodLink "OffForSecondLaw" 166 yX7_count, .methodLink "OffForSecondLaw" 169 yX8_count, .methodLink "OffForSecondLaw" 170 yX7_told, .methodLink "OffForSecondLaw" 173 yX8_told]
set_option maxRecDepth 100000 in
theorem LK_tbl : ∀ w ∈ LK, w ∈ lw_tbl := tb_of [341, 856, 363, 873, 406, 911, 410, 919, 419, 924, 423, 928, 431, 936, 451, 956, 458, 963, 469, 967, 494, 995, 499, 999, 503, 1004, 561, 1052, 565, 1056, 570, 1060, 575, 1064, 579, 1069, 591, 1077, 613, 1089, 617, 1093, 623, 1103, 637, 1107, 656, 1118, 676, 1131, 680, 1135, 710, 1184, 714, 1188, 722, 1192, 735, 1200, 744, 1208, 748, 1212, 752, 1216, 772, 1223, 776, 1227, 780, 1231, 784, 1235, 788, 1239] (by decide +kernel)
theorem LK_good : LK.all goodWord = true := by decide +kernel
theorem k_13 : Cond.methodLink "OffForSecondLaw" 13 yX7_pitch ∈ LK := List.mem_of_getElem? (i := 0) rfl
theorem k_17 : Cond.methodLink "OffForSecondLaw" 17 yX8_pitch ∈ LK := List.mem_of_getElem? (i := 1) rfl
theorem k_18 : Cond.methodLink "OffForSecondLaw" 18 yX7_pitchIs ∈ LK := List.mem_of_getElem? (i := 2) rfl
theorem k_21 : Cond.methodLink "OffForSecondLaw" 21 yX8_pitchIs ∈ LK := List.mem_of_getElem? (i := 3) rfl
theorem k_22 : Cond.methodLink "OffForSecondLaw" 22 yX7_become ∈ LK := List.mem_of_getElem? (i := 4) rfl
theorem k_25 : Cond.methodLink "OffForSecondLaw" 25 yX8_become ∈ LK := List.mem_of_getElem? (i := 5) rfl
theorem k_26 : Cond.methodLink "OffForSecondLaw" 26 yX7_as ∈ LK := List.mem_of_getElem? (i := 6) rfl
theorem k_29 : Cond.methodLink "OffForSecondLaw" 29 yX8_as ∈ LK := List.mem_of_getElem? (i := 7) rfl
theorem k_30 : Cond.methodLink "OffForSecondLaw" 30 yX7_weighs ∈ LK := List.mem_of_getElem? (i := 8) rfl
theorem k_33 : Cond.methodLink "OffForSecondLaw" 33 yX8_weighs ∈ LK := List.mem_of_getElem? (i := 9) rfl
theorem k_34 : Cond.methodLink "OffForSecondLaw" 34 yX7_runner ∈ LK := List.mem_of_getElem? (i := 10) rfl
theorem k_37 : Cond.methodLink "OffForSecondLaw" 37 yX8_runner ∈ LK := List.mem_of_getElem? (i := 11) rfl
theorem k_38 : Cond.methodLink "OffForSecondLaw" 38 yX7_runnerIs ∈ LK := List.mem_of_getElem? (i := 12) rfl
theorem k_41 : Cond.methodLink "OffForSecondLaw" 41 yX8_runnerIs ∈ LK := List.mem_of_getElem? (i := 13) rfl
theorem k_42 : Cond.methodLink "OffForSecondLaw" 42 yX7_leads ∈ LK := List.mem_of_getElem? (i := 14) rfl
theorem k_45 : Cond.methodLink "OffForSecondLaw" 45 yX8_leads ∈ LK := List.mem_of_getElem? (i := 15) rfl
theorem k_46 : Cond.methodLink "OffForSecondLaw" 46 yX7_set ∈ LK := List.mem_of_getElem? (i := 16) rfl
theorem k_49 : Cond.methodLink "OffForSecondLaw" 49 yX8_set ∈ LK := List.mem_of_getElem? (i := 17) rfl
theorem k_50 : Cond.methodLink "OffForSecondLaw" 50 yX7_steal ∈ LK := List.mem_of_getElem? (i := 18) rfl
theorem k_53 : Cond.methodLink "OffForSecondLaw" 53 yX8_steal ∈ LK := List.mem_of_getElem? (i := 19) rfl
theorem k_54 : Cond.methodLink "OffForSecondLaw" 54 yX7_over ∈ LK := List.mem_of_getElem? (i := 20) rfl
theorem k_58 : Cond.methodLink "OffForSecondLaw" 58 yX8_over ∈ LK := List.mem_of_getElem? (i := 21) rfl
theorem k_61 : Cond.methodLink "OffForSecondLaw" 61 yX7_feed ∈ LK := List.mem_of_getElem? (i := 22) rfl
theorem k_65 : Cond.methodLink "OffForSecondLaw" 65 yX8_feed ∈ LK := List.mem_of_getElem? (i := 23) rfl
theorem k_66 : Cond.methodLink "OffForSecondLaw" 66 yX7_text ∈ LK := List.mem_of_getElem? (i := 24) rfl
theorem k_69 : Cond.methodLink "OffForSecondLaw" 69 yX8_text ∈ LK := List.mem_of_getElem? (i := 25) rfl
theorem k_70 : Cond.methodLink "OffForSecondLaw" 70 yX7_untell ∈ LK := List.mem_of_getElem? (i := 26) rfl
theorem k_73 : Cond.methodLink "OffForSecondLaw" 73 yX8_untell ∈ LK := List.mem_of_getElem? (i := 27) rfl
theorem k_74 : Cond.methodLink "OffForSecondLaw" 74 yX7_law ∈ LK := List.mem_of_getElem? (i := 28) rfl
theorem k_78 : Cond.methodLink "OffForSecondLaw" 78 yX8_law ∈ LK := List.mem_of_getElem? (i := 29) rfl
theorem k_79 : Cond.methodLink "OffForSecondLaw" 79 yX7_margin ∈ LK := List.mem_of_getElem? (i := 30) rfl
theorem k_83 : Cond.methodLink "OffForSecondLaw" 83 yX8_margin ∈ LK := List.mem_of_getElem? (i := 31) rfl
theorem k_84 : Cond.methodLink "OffForSecondLaw" 84 yX7_leadFor ∈ LK := List.mem_of_getElem? (i := 32) rfl
theorem k_87 : Cond.methodLink "OffForSecondLaw" 87 yX8_leadFor ∈ LK := List.mem_of_getElem? (i := 33) rfl
theorem k_88 : Cond.methodLink "OffForSecondLaw" 88 yX7_bestLead ∈ LK := List.mem_of_getElem? (i := 34) rfl
theorem k_91 : Cond.methodLink "OffForSecondLaw" 91 yX8_bestLead ∈ LK := List.mem_of_getElem? (i := 35) rfl
theorem k_92 : Cond.methodLink "OffForSecondLaw" 92 yX7_odds ∈ LK := List.mem_of_getElem? (i := 36) rfl
theorem k_95 : Cond.methodLink "OffForSecondLaw" 95 yX8_odds ∈ LK := List.mem_of_getElem? (i := 37) rfl
theorem k_96 : Cond.methodLink "OffForSecondLaw" 96 yX7_go ∈ LK := List.mem_of_getElem? (i := 38) rfl
theorem k_99 : Cond.methodLink "OffForSecondLaw" 99 yX8_go ∈ LK := List.mem_of_getElem? (i := 39) rfl
theorem k_100 : Cond.methodLink "OffForSecondLaw" 100 yX7_duel ∈ LK := List.mem_of_getElem? (i := 40) rfl
theorem k_103 : Cond.methodLink "OffForSecondLaw" 103 yX8_duel ∈ LK := List.mem_of_getElem? (i := 41) rfl
theorem k_104 : Cond.methodLink "OffForSecondLaw" 104 yX7_surely ∈ LK := List.mem_of_getElem? (i := 42) rfl
theorem k_107 : Cond.methodLink "OffForSecondLaw" 107 yX8_surely ∈ LK := List.mem_of_getElem? (i := 43) rfl
theorem k_108 : Cond.methodLink "OffForSecondLaw" 108 yX7_fits ∈ LK := List.mem_of_getElem? (i := 44) rfl
theorem k_111 : Cond.methodLink "OffForSecondLaw" 111 yX8_fits ∈ LK := List.mem_of_getElem? (i := 45) rfl
theorem k_112 : Cond.methodLink "OffForSecondLaw" 112 yX7_loose ∈ LK := List.mem_of_getElem? (i := 46) rfl
theorem k_115 : Cond.methodLink "OffForSecondLaw" 115 yX8_loose ∈ LK := List.mem_of_getElem? (i := 47) rfl
theorem k_116 : Cond.methodLink "OffForSecondLaw" 116 yX7_seed ∈ LK := List.mem_of_getElem? (i := 48) rfl
theorem k_119 : Cond.methodLink "OffForSecondLaw" 119 yX8_seed ∈ LK := List.mem_of_getElem? (i := 49) rfl
theorem k_120 : Cond.methodLink "OffForSecondLaw" 120 yX7_voice ∈ LK := List.mem_of_getElem? (i := 50) rfl
theorem k_123 : Cond.methodLink "OffForSecondLaw" 123 yX8_voice ∈ LK := List.mem_of_getElem? (i := 51) rfl
theorem k_124 : Cond.methodLink "OffForSecondLaw" 124 yX7_body ∈ LK := List.mem_of_getElem? (i := 52) rfl
theorem k_127 : Cond.methodLink "OffForSecondLaw" 127 yX8_body ∈ LK := List.mem_of_getElem? (i := 53) rfl
theorem k_128 : Cond.methodLink "OffForSecondLaw" 128 yX7_sheet ∈ LK := List.mem_of_getElem? (i := 54) rfl
theorem k_131 : Cond.methodLink "OffForSecondLaw" 131 yX8_sheet ∈ LK := List.mem_of_getElem? (i := 55) rfl
theorem k_132 : Cond.methodLink "OffForSecondLaw" 132 yX7_put ∈ LK := List.mem_of_getElem? (i := 56) rfl
theorem k_135 : Cond.methodLink "OffForSecondLaw" 135 yX8_put ∈ LK := List.mem_of_getElem? (i := 57) rfl
theorem k_136 : Cond.methodLink "OffForSecondLaw" 136 yX7_move ∈ LK := List.mem_of_getElem? (i := 58) rfl
theorem k_140 : Cond.methodLink "OffForSecondLaw" 140 yX8_move ∈ LK := List.mem_of_getElem? (i := 59) rfl
theorem k_141 : Cond.methodLink "OffForSecondLaw" 141 yX7_weightsBy ∈ LK := List.mem_of_getElem? (i := 60) rfl
theorem k_144 : Cond.methodLink "OffForSecondLaw" 144 yX8_weightsBy ∈ LK := List.mem_of_getElem? (i := 61) rfl
theorem k_145 : Cond.methodLink "OffForSecondLaw" 145 yX7_judge ∈ LK := List.mem_of_getElem? (i := 62) rfl
theorem k_148 : Cond.methodLink "OffForSecondLaw" 148 yX8_judge ∈ LK := List.mem_of_getElem? (i := 63) rfl
theorem k_149 : Cond.methodLink "OffForSecondLaw" 149 yX7_image ∈ LK := List.mem_of_getElem? (i := 64) rfl
theorem k_153 : Cond.methodLink "OffForSecondLaw" 153 yX8_image ∈ LK := List.mem_of_getElem? (i := 65) rfl
theorem k_154 : Cond.methodLink "OffForSecondLaw" 154 yX7_restore ∈ LK := List.mem_of_getElem? (i := 66) rfl
theorem k_157 : Cond.methodLink "OffForSecondLaw" 157 yX8_restore ∈ LK := List.mem_of_getElem? (i := 67) rfl
theorem k_158 : Cond.methodLink "OffForSecondLaw" 158 yX7_tell ∈ LK := List.mem_of_getElem? (i := 68) rfl
theorem k_161 : Cond.methodLink "OffForSecondLaw" 161 yX8_tell ∈ LK := List.mem_of_getElem? (i := 69) rfl
theorem k_162 : Cond.methodLink "OffForSecondLaw" 162 yX7_check ∈ LK := List.mem_of_getElem? (i := 70) rfl
theorem k_165 : Cond.methodLink "OffForSecondLaw" 165 yX8_check ∈ LK := List.mem_of_getElem? (i := 71) rfl
theorem k_166 : Cond.methodLink "OffForSecondLaw" 166 yX7_count ∈ LK := List.mem_of_getElem? (i := 72) rfl
theorem k_169 : Cond.methodLink "OffForSecondLaw" 169 yX8_count ∈ LK := List.mem_of_getElem? (i := 73) rfl
theorem k_170 : Cond.methodLink "OffForSecondLaw" 170 yX7_told ∈ LK := List.mem_of_getElem? (i := 74) rfl
theorem k_173 : Cond.methodLink "OffForSecondLaw" 173 yX8_told ∈ LK := List.mem_of_getElem? (i := 75) rfl
/-! THE CLAIM OUT OF ONE WALK OF THE LAW'S BODY. Your part is whole_start (and what it stands on); all else here is the same for every law, but numbers. -/
def R_law : String := "OffForSecondLaw"
def lw_P (b : Addr) (xs : List Int32) (args : Array Value) (s : State) : Prop := args = #[.ref b] ∧ s.IntsAt b xs ∧ xs.length ≤ 6 ∧ (Jvm.Cond.and given_1 narrow_1).before args s = true
def lw_Q (_ : Array Value) (s : State) (o : Outcome) (t : State) : Prop := o = .returned (some (.int 1)) ∧ Framed s o t [] 600000 7302250
def lw_Z (below : List Frame) (a : Array Value) (s : State) : State → Prop := fun t => ∃ o, t.status = .running ∧ Ended t below o ∧ lw_Q a s o t
/-- the law's own end, with 1 on the stack, nothing written that was there before, its room as the claim has it -/
theorem lw_ret {p : Program} {l : Launch} {e : Env} {s : State} {m : MethodId} {below : List Frame} {meth : Method} {c : Code} {b : Nat} (hx : p.tables.exec = Jvm.exec) (hb : c.code = code) (hr : meth.sig.returnType = ret) (hlocks : meth.locks = false) {pc : Nat} {H : Heap} {ls : Array Slot} (hdg : decode code pc = .ok (.ireturn, 1)) : W p l e room_1 s m #[Value.ref b] below meth c H [] 600000 7302250 (lw_Z below #[Value.ref b] s) (F0 m pc ls [.int 1]) := by
  intro T hT X
  obtain ⟨fs, hret, hrun, hended, hW, hframe⟩ := X.leave (v := some (.int 1)) (hlocks := hlocks) (fun h => by rw [hr] at h; cases h)
  have hmeth' : T.vm.method? m = some meth := X.method'
  refine ⟨T.setFrames fs, ?_, .returned (some (.int 1)), hrun, hended, rfl, ⟨_, rfl⟩, hW, hframe⟩
  jvm_step X.here [X.here.top, hx, hb, hdg, hmeth', hr, ret, narrow_b1]
  (try refine ⟨rfl, ?_⟩); (try refine ⟨rfl, ?_⟩)
  first | (intro acts; rw [hret _ acts rfl rfl rfl]) | rw [hret _ _ rfl rfl rfl]
  exact Steps.refl _
/-- what holds at the law's entry: the machine, the code, the tables' words (any of lw_tbl by 'hts w (by decide +kernel)'), the script of L ints xs at the cell b, what the Statement gives of the start (any of its parts by flat_of_before) -/
def lw_At (p : Program) (s : State) (m : MethodId) (meth : Method) (c : Code) (b L : Nat) (xs : Nat → Int32) : Prop :=
  p.tables.exec = Jvm.exec ∧ c.code = code ∧ meth.sig.returnType = ret ∧ c.maxLocals = 4 ∧ s.vm.findClass R_law = some m.cls ∧ (∀ w ∈ lw_tbl, w.before #[Value.ref b] s = true) ∧ va_X b L xs s s.heap ∧ b < s.heap.size ∧ meth.locks = false ∧ (Jvm.Cond.and given_1 narrow_1).before #[Value.ref b] s = true
