section
-- ===== PART A: goes FIRST, ahead of the names: the tables' words, and 'selects' of the private methods out of them =====
/-- a private method of a class that the tables say can be made, by its rows of tables_1 -/
def lw_okq (q : MethodName × Nat) : Prop := (q.1.cls ≠ "java/lang/invoke/MethodHandle" ∧ q.1.cls ≠ "java/lang/invoke/VarHandle") ∧ Cond.instantiable q.1.cls q.2 ∈ tables_1 ∧ Cond.privateMethod q.1 ∈ tables_1 ∧ Cond.instanceMethod q.1 ∈ tables_1
theorem lw_p0 : lw_okq (⟨"java/lang/Throwable", "fillInStackTrace", "(I)Ljava/lang/Throwable;"⟩, 6) := ⟨⟨by decide +kernel, by decide +kernel⟩, List.mem_of_getElem? (i := 245) (by decide +kernel), List.mem_of_getElem? (i := 243) (by decide +kernel), List.mem_of_getElem? (i := 244) (by decide +kernel)⟩
theorem lw_p1 : lw_okq (⟨"Aislewright$Warehouse", "insertPlace", "(II)V"⟩, 7) := ⟨⟨by decide +kernel, by decide +kernel⟩, List.mem_of_getElem? (i := 33) (by decide +kernel), List.mem_of_getElem? (i := 328) (by decide +kernel), List.mem_of_getElem? (i := 329) (by decide +kernel)⟩
theorem lw_p2 : lw_okq (⟨"Aislewright$Warehouse", "isNearer", "(II)Z"⟩, 7) := ⟨⟨by decide +kernel, by decide +kernel⟩, List.mem_of_getElem? (i := 33) (by decide +kernel), List.mem_of_getElem? (i := 332) (by decide +kernel), List.mem_of_getElem? (i := 333) (by decide +kernel)⟩
theorem lw_p3 : lw_okq (⟨"Aislewright$Warehouse", "insertProduct", "(II)V"⟩, 7) := ⟨⟨by decide +kernel, by decide +kernel⟩, List.mem_of_getElem? (i := 33) (by decide +kernel), List.mem_of_getElem? (i := 348) (by decide +kernel), List.mem_of_getElem? (i := 349) (by decide +kernel)⟩
theorem lw_p4 : lw_okq (⟨"java/util/ArrayList", "add", "(Ljava/lang/Object;[Ljava/lang/Object;I)V"⟩, 3) := ⟨⟨by decide +kernel, by decide +kernel⟩, List.mem_of_getElem? (i := 105) (by decide +kernel), List.mem_of_getElem? (i := 432) (by decide +kernel), List.mem_of_getElem? (i := 433) (by decide +kernel)⟩
theorem lw_p5 : lw_okq (⟨"java/util/ArrayList", "grow", "()[Ljava/lang/Object;"⟩, 3) := ⟨⟨by decide +kernel, by decide +kernel⟩, List.mem_of_getElem? (i := 105) (by decide +kernel), List.mem_of_getElem? (i := 436) (by decide +kernel), List.mem_of_getElem? (i := 437) (by decide +kernel)⟩
theorem lw_p6 : lw_okq (⟨"java/util/ArrayList", "grow", "(I)[Ljava/lang/Object;"⟩, 3) := ⟨⟨by decide +kernel, by decide +kernel⟩, List.mem_of_getElem? (i := 105) (by decide +kernel), List.mem_of_getElem? (i := 440) (by decide +kernel), List.mem_of_getElem? (i := 441) (by decide +kernel)⟩
theorem lw_p7 : lw_okq (⟨"Aislewright", "orderNumbered", "(I)LAislewright$Order;"⟩, 7) := ⟨⟨by decide +kernel, by decide +kernel⟩, List.mem_of_getElem? (i := 25) (by decide +kernel), List.mem_of_getElem? (i := 489) (by decide +kernel), List.mem_of_getElem? (i := 490) (by decide +kernel)⟩
theorem lw_p8 : lw_okq (⟨"Aislewright", "takesLine", "(LAislewright$Order;)Z"⟩, 7) := ⟨⟨by decide +kernel, by decide +kernel⟩, List.mem_of_getElem? (i := 25) (by decide +kernel), List.mem_of_getElem? (i := 509) (by decide +kernel), List.mem_of_getElem? (i := 510) (by decide +kernel)⟩
theorem lw_p9 : lw_okq (⟨"Aislewright$Router", "gather", "(I)V"⟩, 5) := ⟨⟨by decide +kernel, by decide +kernel⟩, List.mem_of_getElem? (i := 75) (by decide +kernel), List.mem_of_getElem? (i := 553) (by decide +kernel), List.mem_of_getElem? (i := 554) (by decide +kernel)⟩
theorem lw_p10 : lw_okq (⟨"Aislewright$Router", "insertPlace", "(I)V"⟩, 5) := ⟨⟨by decide +kernel, by decide +kernel⟩, List.mem_of_getElem? (i := 75) (by decide +kernel), List.mem_of_getElem? (i := 558) (by decide +kernel), List.mem_of_getElem? (i := 559) (by decide +kernel)⟩
theorem lw_p11 : lw_okq (⟨"Aislewright$Router", "fillOnward", "()V"⟩, 5) := ⟨⟨by decide +kernel, by decide +kernel⟩, List.mem_of_getElem? (i := 75) (by decide +kernel), List.mem_of_getElem? (i := 563) (by decide +kernel), List.mem_of_getElem? (i := 564) (by decide +kernel)⟩
theorem lw_p12 : lw_okq (⟨"Aislewright$Router", "leastOnward", "(II)I"⟩, 5) := ⟨⟨by decide +kernel, by decide +kernel⟩, List.mem_of_getElem? (i := 75) (by decide +kernel), List.mem_of_getElem? (i := 567) (by decide +kernel), List.mem_of_getElem? (i := 568) (by decide +kernel)⟩
theorem lw_p13 : lw_okq (⟨"Aislewright$Router", "lengthBy", "(III)I"⟩, 5) := ⟨⟨by decide +kernel, by decide +kernel⟩, List.mem_of_getElem? (i := 75) (by decide +kernel), List.mem_of_getElem? (i := 572) (by decide +kernel), List.mem_of_getElem? (i := 573) (by decide +kernel)⟩
theorem lw_p14 : lw_okq (⟨"Aislewright$Router", "everyPlace", "()I"⟩, 5) := ⟨⟨by decide +kernel, by decide +kernel⟩, List.mem_of_getElem? (i := 75) (by decide +kernel), List.mem_of_getElem? (i := 577) (by decide +kernel), List.mem_of_getElem? (i := 578) (by decide +kernel)⟩
theorem lw_p15 : lw_okq (⟨"Aislewright", "mostLinesToDo", "()I"⟩, 7) := ⟨⟨by decide +kernel, by decide +kernel⟩, List.mem_of_getElem? (i := 25) (by decide +kernel), List.mem_of_getElem? (i := 589) (by decide +kernel), List.mem_of_getElem? (i := 590) (by decide +kernel)⟩
def lw_privs_1 : List (MethodName × Nat) := [(⟨"java/lang/Throwable", "fillInStackTrace", "(I)Ljava/lang/Throwable;"⟩, 6), (⟨"Aislewright$Warehouse", "insertPlace", "(II)V"⟩, 7), (⟨"Aislewright$Warehouse", "isNearer", "(II)Z"⟩, 7), (⟨"Aislewright$Warehouse", "insertProduct", "(II)V"⟩, 7), (⟨"java/util/ArrayList", "add", "(Ljava/lang/Object;[Ljava/lang/Object;I)V"⟩, 3), (⟨"java/util/ArrayList", "grow", "()[Ljava/lang/Object;"⟩, 3), (⟨"java/util/ArrayList", "grow", "(I)[Ljava/lang/Object;"⟩, 3), (⟨"Aislewright", "orderNumbered", "(I)LAislewright$Order;"⟩, 7), (⟨"Aislewright", "takesLine", "(LAislewright$Order;)Z"⟩, 7), (⟨"Aislewright$Router", "gather", "(I)V"⟩, 5), (⟨"Aislewright$Router", "insertPlace", "(I)V"⟩, 5), (⟨"Aislewright$Router", "fillOnward", "()V"⟩, 5), (⟨"Aislewright$Router", "leastOnward", "(II)I"⟩, 5), (⟨"Aislewright$Router", "lengthBy", "(III)I"⟩, 5), (⟨"Aislewright$Router", "everyPlace", "()I"⟩, 5), (⟨"Aislewright", "mostLinesToDo", "()I"⟩, 7)]
theorem lw_r1 : ∀ q ∈ lw_privs_1, lw_okq q := List.forall_mem_cons.mpr ⟨lw_p0, List.forall_mem_cons.mpr ⟨lw_p1, List.forall_mem_cons.mpr ⟨lw_p2, List.forall_mem_cons.mpr ⟨lw_p3, List.forall_mem_cons.mpr ⟨lw_p4, List.forall_mem_cons.mpr ⟨lw_p5, List.forall_mem_cons.mpr ⟨lw_p6, List.forall_mem_cons.mpr ⟨lw_p7, List.forall_mem_cons.mpr ⟨lw_p8, List.forall_mem_cons.mpr ⟨lw_p9, List.forall_mem_cons.mpr ⟨lw_p10, List.forall_mem_cons.mpr ⟨lw_p11, List.forall_mem_cons.mpr ⟨lw_p12, List.forall_mem_cons.mpr ⟨lw_p13, List.forall_mem_cons.mpr ⟨lw_p14, List.forall_mem_cons.mpr ⟨lw_p15, fun _ h => absurd h List.not_mem_nil⟩⟩⟩⟩⟩⟩⟩⟩⟩⟩⟩⟩⟩⟩⟩⟩
theorem lw_p16 : lw_okq (⟨"Aislewright", "takesAnyOrder", "(I)Z"⟩, 7) := ⟨⟨by decide +kernel, by decide +kernel⟩, List.mem_of_getElem? (i := 25) (by decide +kernel), List.mem_of_getElem? (i := 601) (by decide +kernel), List.mem_of_getElem? (i := 602) (by decide +kernel)⟩
theorem lw_p17 : lw_okq (⟨"Aislewright$Wave", "noteSaving", "(III)V"⟩, 3) := ⟨⟨by decide +kernel, by decide +kernel⟩, List.mem_of_getElem? (i := 99) (by decide +kernel), List.mem_of_getElem? (i := 655) (by decide +kernel), List.mem_of_getElem? (i := 656) (by decide +kernel)⟩
theorem lw_p18 : lw_okq (⟨"Aislewright$Wave", "joinBestPair", "()I"⟩, 3) := ⟨⟨by decide +kernel, by decide +kernel⟩, List.mem_of_getElem? (i := 99) (by decide +kernel), List.mem_of_getElem? (i := 660) (by decide +kernel), List.mem_of_getElem? (i := 661) (by decide +kernel)⟩
theorem lw_p19 : lw_okq (⟨"Aislewright$Wave", "savingOf", "(II)I"⟩, 3) := ⟨⟨by decide +kernel, by decide +kernel⟩, List.mem_of_getElem? (i := 99) (by decide +kernel), List.mem_of_getElem? (i := 664) (by decide +kernel), List.mem_of_getElem? (i := 665) (by decide +kernel)⟩
theorem lw_p20 : lw_okq (⟨"java/util/ArrayList", "fastRemove", "([Ljava/lang/Object;I)V"⟩, 3) := ⟨⟨by decide +kernel, by decide +kernel⟩, List.mem_of_getElem? (i := 105) (by decide +kernel), List.mem_of_getElem? (i := 676) (by decide +kernel), List.mem_of_getElem? (i := 677) (by decide +kernel)⟩
theorem lw_p21 : lw_okq (⟨"Aislewright$Router", "bestNext", "(II)I"⟩, 5) := ⟨⟨by decide +kernel, by decide +kernel⟩, List.mem_of_getElem? (i := 75) (by decide +kernel), List.mem_of_getElem? (i := 685) (by decide +kernel), List.mem_of_getElem? (i := 686) (by decide +kernel)⟩
theorem lw_p22 : lw_okq (⟨"Aislewright", "batchNumbered", "(I)LAislewright$Batch;"⟩, 7) := ⟨⟨by decide +kernel, by decide +kernel⟩, List.mem_of_getElem? (i := 25) (by decide +kernel), List.mem_of_getElem? (i := 696) (by decide +kernel), List.mem_of_getElem? (i := 697) (by decide +kernel)⟩
theorem lw_p23 : lw_okq (⟨"Aislewright", "finish", "(LAislewright$Order;)V"⟩, 7) := ⟨⟨by decide +kernel, by decide +kernel⟩, List.mem_of_getElem? (i := 25) (by decide +kernel), List.mem_of_getElem? (i := 706) (by decide +kernel), List.mem_of_getElem? (i := 707) (by decide +kernel)⟩
theorem lw_p24 : lw_okq (⟨"Aislewright$Router", "tryFrom", "(IIIII)I"⟩, 5) := ⟨⟨by decide +kernel, by decide +kernel⟩, List.mem_of_getElem? (i := 75) (by decide +kernel), List.mem_of_getElem? (i := 756) (by decide +kernel), List.mem_of_getElem? (i := 757) (by decide +kernel)⟩
theorem lw_p25 : lw_okq (⟨"Aislewright$Router", "countAisles", "()I"⟩, 5) := ⟨⟨by decide +kernel, by decide +kernel⟩, List.mem_of_getElem? (i := 75) (by decide +kernel), List.mem_of_getElem? (i := 771) (by decide +kernel), List.mem_of_getElem? (i := 772) (by decide +kernel)⟩
theorem lw_p26 : lw_okq (⟨"AislewrightModel", "fails", "(I)I"⟩, 22) := ⟨⟨by decide +kernel, by decide +kernel⟩, List.mem_of_getElem? (i := 807) (by decide +kernel), List.mem_of_getElem? (i := 894) (by decide +kernel), List.mem_of_getElem? (i := 895) (by decide +kernel)⟩
theorem lw_p27 : lw_okq (⟨"AislewrightModel", "ranks", "(II)V"⟩, 22) := ⟨⟨by decide +kernel, by decide +kernel⟩, List.mem_of_getElem? (i := 807) (by decide +kernel), List.mem_of_getElem? (i := 902) (by decide +kernel), List.mem_of_getElem? (i := 903) (by decide +kernel)⟩
theorem lw_p28 : lw_okq (⟨"AislewrightModel", "turnoverOf", "(I)I"⟩, 22) := ⟨⟨by decide +kernel, by decide +kernel⟩, List.mem_of_getElem? (i := 807) (by decide +kernel), List.mem_of_getElem? (i := 906) (by decide +kernel), List.mem_of_getElem? (i := 907) (by decide +kernel)⟩
theorem lw_p29 : lw_okq (⟨"AislewrightModel", "spreads", "(II)V"⟩, 22) := ⟨⟨by decide +kernel, by decide +kernel⟩, List.mem_of_getElem? (i := 807) (by decide +kernel), List.mem_of_getElem? (i := 910) (by decide +kernel), List.mem_of_getElem? (i := 911) (by decide +kernel)⟩
theorem lw_p30 : lw_okq (⟨"AislewrightModel", "way", "(II)I"⟩, 22) := ⟨⟨by decide +kernel, by decide +kernel⟩, List.mem_of_getElem? (i := 807) (by decide +kernel), List.mem_of_getElem? (i := 914) (by decide +kernel), List.mem_of_getElem? (i := 915) (by decide +kernel)⟩
theorem lw_p31 : lw_okq (⟨"AislewrightModel", "isOrder", "(I)Z"⟩, 22) := ⟨⟨by decide +kernel, by decide +kernel⟩, List.mem_of_getElem? (i := 807) (by decide +kernel), List.mem_of_getElem? (i := 938) (by decide +kernel), List.mem_of_getElem? (i := 939) (by decide +kernel)⟩
def lw_privs_2 : List (MethodName × Nat) := [(⟨"Aislewright", "takesAnyOrder", "(I)Z"⟩, 7), (⟨"Aislewright$Wave", "noteSaving", "(III)V"⟩, 3), (⟨"Aislewright$Wave", "joinBestPair", "()I"⟩, 3), (⟨"Aislewright$Wave", "savingOf", "(II)I"⟩, 3), (⟨"java/util/ArrayList", "fastRemove", "([Ljava/lang/Object;I)V"⟩, 3), (⟨"Aislewright$Router", "bestNext", "(II)I"⟩, 5), (⟨"Aislewright", "batchNumbered", "(I)LAislewright$Batch;"⟩, 7), (⟨"Aislewright", "finish", "(LAislewright$Order;)V"⟩, 7), (⟨"Aislewright$Router", "tryFrom", "(IIIII)I"⟩, 5), (⟨"Aislewright$Router", "countAisles", "()I"⟩, 5), (⟨"AislewrightModel", "fails", "(I)I"⟩, 22), (⟨"AislewrightModel", "ranks", "(II)V"⟩, 22), (⟨"AislewrightModel", "turnoverOf", "(I)I"⟩, 22), (⟨"AislewrightModel", "spreads", "(II)V"⟩, 22), (⟨"AislewrightModel", "way", "(II)I"⟩, 22), (⟨"AislewrightModel", "isOrder", "(I)Z"⟩, 22)]
theorem lw_r2 : ∀ q ∈ lw_privs_2, lw_okq q := List.forall_mem_cons.mpr ⟨lw_p16, List.forall_mem_cons.mpr ⟨lw_p17, List.forall_mem_cons.mpr ⟨lw_p18, List.forall_mem_cons.mpr ⟨lw_p19, List.forall_mem_cons.mpr ⟨lw_p20, List.forall_mem_cons.mpr ⟨lw_p21, List.forall_mem_cons.mpr ⟨lw_p22, List.forall_mem_cons.mpr ⟨lw_p23, List.forall_mem_cons.mpr ⟨lw_p24, List.forall_mem_cons.mpr ⟨lw_p25, List.forall_mem_cons.mpr ⟨lw_p26, List.forall_mem_cons.mpr ⟨lw_p27, List.forall_mem_cons.mpr ⟨lw_p28, List.forall_mem_cons.mpr ⟨lw_p29, List.forall_mem_cons.mpr ⟨lw_p30, List.forall_mem_cons.mpr ⟨lw_p31, fun _ h => absurd h List.not_mem_nil⟩⟩⟩⟩⟩⟩⟩⟩⟩⟩⟩⟩⟩⟩⟩⟩
theorem lw_p32 : lw_okq (⟨"AislewrightModel", "wanted", "(I)I"⟩, 22) := ⟨⟨by decide +kernel, by decide +kernel⟩, List.mem_of_getElem? (i := 807) (by decide +kernel), List.mem_of_getElem? (i := 942) (by decide +kernel), List.mem_of_getElem? (i := 943) (by decide +kernel)⟩
theorem lw_p33 : lw_okq (⟨"AislewrightModel", "length", "(I)I"⟩, 22) := ⟨⟨by decide +kernel, by decide +kernel⟩, List.mem_of_getElem? (i := 807) (by decide +kernel), List.mem_of_getElem? (i := 958) (by decide +kernel), List.mem_of_getElem? (i := 959) (by decide +kernel)⟩
theorem lw_p34 : lw_okq (⟨"AislewrightModel", "layRoute", "(I)V"⟩, 22) := ⟨⟨by decide +kernel, by decide +kernel⟩, List.mem_of_getElem? (i := 807) (by decide +kernel), List.mem_of_getElem? (i := 962) (by decide +kernel), List.mem_of_getElem? (i := 963) (by decide +kernel)⟩
theorem lw_p35 : lw_okq (⟨"AislewrightModel", "wayOn", "(II)I"⟩, 22) := ⟨⟨by decide +kernel, by decide +kernel⟩, List.mem_of_getElem? (i := 807) (by decide +kernel), List.mem_of_getElem? (i := 966) (by decide +kernel), List.mem_of_getElem? (i := 967) (by decide +kernel)⟩
theorem lw_p36 : lw_okq (⟨"AislewrightModel", "step", "(II)I"⟩, 22) := ⟨⟨by decide +kernel, by decide +kernel⟩, List.mem_of_getElem? (i := 807) (by decide +kernel), List.mem_of_getElem? (i := 970) (by decide +kernel), List.mem_of_getElem? (i := 971) (by decide +kernel)⟩
theorem lw_p37 : lw_okq (⟨"AislewrightModel", "joins", "()Z"⟩, 22) := ⟨⟨by decide +kernel, by decide +kernel⟩, List.mem_of_getElem? (i := 807) (by decide +kernel), List.mem_of_getElem? (i := 983) (by decide +kernel), List.mem_of_getElem? (i := 984) (by decide +kernel)⟩
theorem lw_p38 : lw_okq (⟨"AislewrightModel", "countLines", "(I)I"⟩, 22) := ⟨⟨by decide +kernel, by decide +kernel⟩, List.mem_of_getElem? (i := 807) (by decide +kernel), List.mem_of_getElem? (i := 987) (by decide +kernel), List.mem_of_getElem? (i := 988) (by decide +kernel)⟩
theorem lw_p39 : lw_okq (⟨"AislewrightModel", "productsOf", "(I)I"⟩, 22) := ⟨⟨by decide +kernel, by decide +kernel⟩, List.mem_of_getElem? (i := 807) (by decide +kernel), List.mem_of_getElem? (i := 991) (by decide +kernel), List.mem_of_getElem? (i := 992) (by decide +kernel)⟩
theorem lw_p40 : lw_okq (⟨"AislewrightModel", "closeUp", "(I)V"⟩, 22) := ⟨⟨by decide +kernel, by decide +kernel⟩, List.mem_of_getElem? (i := 807) (by decide +kernel), List.mem_of_getElem? (i := 995) (by decide +kernel), List.mem_of_getElem? (i := 996) (by decide +kernel)⟩
theorem lw_p41 : lw_okq (⟨"AislewrightModel", "isBatch", "(I)Z"⟩, 22) := ⟨⟨by decide +kernel, by decide +kernel⟩, List.mem_of_getElem? (i := 807) (by decide +kernel), List.mem_of_getElem? (i := 1003) (by decide +kernel), List.mem_of_getElem? (i := 1004) (by decide +kernel)⟩
theorem lw_p42 : lw_okq (⟨"AislewrightModel", "farthest", "(II)I"⟩, 22) := ⟨⟨by decide +kernel, by decide +kernel⟩, List.mem_of_getElem? (i := 807) (by decide +kernel), List.mem_of_getElem? (i := 1031) (by decide +kernel), List.mem_of_getElem? (i := 1032) (by decide +kernel)⟩
theorem lw_p43 : lw_okq (⟨"AislewrightModel", "layPath", "(I)V"⟩, 22) := ⟨⟨by decide +kernel, by decide +kernel⟩, List.mem_of_getElem? (i := 807) (by decide +kernel), List.mem_of_getElem? (i := 1043) (by decide +kernel), List.mem_of_getElem? (i := 1044) (by decide +kernel)⟩
def lw_privs_3 : List (MethodName × Nat) := [(⟨"AislewrightModel", "wanted", "(I)I"⟩, 22), (⟨"AislewrightModel", "length", "(I)I"⟩, 22), (⟨"AislewrightModel", "layRoute", "(I)V"⟩, 22), (⟨"AislewrightModel", "wayOn", "(II)I"⟩, 22), (⟨"AislewrightModel", "step", "(II)I"⟩, 22), (⟨"AislewrightModel", "joins", "()Z"⟩, 22), (⟨"AislewrightModel", "countLines", "(I)I"⟩, 22), (⟨"AislewrightModel", "productsOf", "(I)I"⟩, 22), (⟨"AislewrightModel", "closeUp", "(I)V"⟩, 22), (⟨"AislewrightModel", "isBatch", "(I)Z"⟩, 22), (⟨"AislewrightModel", "farthest", "(II)I"⟩, 22), (⟨"AislewrightModel", "layPath", "(I)V"⟩, 22)]
theorem lw_r3 : ∀ q ∈ lw_privs_3, lw_okq q := List.forall_mem_cons.mpr ⟨lw_p32, List.forall_mem_cons.mpr ⟨lw_p33, List.forall_mem_cons.mpr ⟨lw_p34, List.forall_mem_cons.mpr ⟨lw_p35, List.forall_mem_cons.mpr ⟨lw_p36, List.forall_mem_cons.mpr ⟨lw_p37, List.forall_mem_cons.mpr ⟨lw_p38, List.forall_mem_cons.mpr ⟨lw_p39, List.forall_mem_cons.mpr ⟨lw_p40, List.forall_mem_cons.mpr ⟨lw_p41, List.forall_mem_cons.mpr ⟨lw_p42, List.forall_mem_cons.mpr ⟨lw_p43, fun _ h => absurd h List.not_mem_nil⟩⟩⟩⟩⟩⟩⟩⟩⟩⟩⟩⟩
def lw_privs : List (MethodName × Nat) := lw_privs_1 ++ (lw_privs_2 ++ (lw_privs_3))
def lw_tbl : List Cond := k2_sels lw_privs ++ tables_1
theorem lw_privs_ok : ∀ q ∈ lw_privs, lw_okq q := by
  show ∀ q ∈ lw_privs_1 ++ (lw_privs_2 ++ (lw_privs_3)), lw_okq q
  exact List.forall_mem_append.mpr ⟨lw_r1, List.forall_mem_append.mpr ⟨lw_r2, lw_r3⟩⟩
/-- the streams that the claim lets the run draw from -/
abbrev lw_cs : List Choice := [Jvm.Choice.named "NaN.bits"]
theorem lw_bits : nanBits ∈ lw_cs := by first | decide | exact List.mem_cons_self | simp [lw_cs, nanBits]
/-- an array of arrays, by the tables -/
def va_AOA (t : FieldType) (U : State) : Prop := (Cond.arrayOver (.array t)).before #[] U = true
theorem va_AOA.use {t : FieldType} {A : Array Value} {U : State} (h : va_AOA t U) : (Cond.arrayOver (.array t)).before A U = true := h
/-! ===== BEGIN words of one list among another's, by their places ===== -/
theorem goodIn_r {big : List Cond} (ws : List Cond) (ps : List Nat) (hp : ws = ps.filterMap (fun i => big[i]?)) (h : ws.all goodWord = true) : GoodIn big ws := by
  intro w hw
  have h1 := List.all_eq_true.mp h w hw
  rw [hp] at hw
  obtain ⟨i, -, hi⟩ := List.mem_filterMap.mp hw
  have hm : w ∈ big := by first | exact List.mem_of_getElem? hi | exact List.getElem?_mem hi
  exact ⟨hm, good_of_word h1⟩
theorem goodIn_app {big a b : List Cond} (ha : GoodIn big a) (hb : GoodIn big b) : GoodIn big (a ++ b) := fun w h => (List.mem_append.mp h).elim (ha w) (hb w)
theorem goodIn_ca {big a b : List Cond} {c : Cond} (ha : GoodIn big (c :: a)) (hb : GoodIn big b) : GoodIn big (c :: (a ++ b)) := fun w h => (List.mem_cons.mp h).elim (fun e => ha w (List.mem_cons.mpr (Or.inl e))) (fun h => (List.mem_append.mp h).elim (fun h => ha w (List.mem_cons.mpr (Or.inr h))) (hb w))
theorem goodIn_sub {big ws : List Cond} (hm : ∀ w ∈ ws, w ∈ big) (h : ws.all goodWord = true) : GoodIn big ws := fun w hw => ⟨hm w hw, good_of_word (List.all_eq_true.mp h w hw)⟩
/-! ===== END ===== -/

/-! ===== BEGIN new T[n][m]: the outer array a place, the inner ones among the pooled ===== -/
/-- f, but v at every address of l -/
def vr_up {α : Type} (f : Nat → α) (l : List Nat) (v : α) : Nat → α := fun a => if a ∈ l then v else f a
theorem vr_up_in {α : Type} {f : Nat → α} {l : List Nat} {v : α} {a : Nat} (h : a ∈ l) : vr_up f l v a = v := if_pos h
theorem vr_up_ne {α : Type} {f : Nat → α} {l : List Nat} {v : α} {a : Nat} (h : a ∉ l) : vr_up f l v a = f a := if_neg h
theorem vr_rows {L l : List Nat} {f : Nat → va_E} {e : va_E} (h : ∀ a, a ∈ l → a ∉ L) : va_pl L f ++ l.map (fun a => (a, e)) = va_pl (L ++ l) (vr_up f l e) := by
  unfold va_pl
  rw [List.map_append]
  congr 1
  · apply List.map_congr_left
    intro a ha
    rw [vr_up_ne (fun q => h a q ha)]
  · apply List.map_congr_left
    intro a ha
    rw [vr_up_in ha]
theorem vr_lay {X rows : va_W} {x : Nat × va_E} {pl : va_W} {D : va_G} {cl : List vw_C} {H : Heap} (hP : va_P D cl (((X ++ pl) ++ [x]) ++ rows) H) : va_P D cl ((X ++ [x]) ++ (pl ++ rows)) H := by
  rw [List.append_assoc (X ++ pl)] at hP
  have h := va_P.swap hP
  rw [← List.append_assoc X] at h
  have h2 := va_P.swap h
  rw [List.append_assoc (X ++ [x])] at h2
  exact h2
theorem vr_layD {X rows : va_W} {x : Nat × va_E} {pl : va_W} {A : Nat → Prop} (hD : va_D A (((X ++ pl) ++ [x]) ++ rows)) : va_D A ((X ++ [x]) ++ (pl ++ rows)) := by
  rw [List.append_assoc (X ++ pl)] at hD
  have h := va_D.swap hD
  rw [← List.append_assoc X] at h
  have h2 := va_D.swap h
  rw [List.append_assoc (X ++ [x])] at h2
  exact h2
theorem vr_outer (c : ClassId) (N h0 : Nat) : ∀ i : Nat, Jvm.Free.Multi.outerC c N h0 i = arrV c N (fun j => va_rf (if j < i then some (h0 + 1 + j) else none))
  | 0 => by
    show ({ cls := c, slots := Array.replicate N .null, vm := .none } : Cell) = _
    rw [arrV_new]
    refine congrArg (arrV c N) (funext fun j => ?_)
    simp [va_rf]
  | i + 1 => by
    show (Jvm.Free.Multi.outerC c N h0 i).setSlot i (.ref (h0 + 1 + i)) = _
    rw [vr_outer c N h0 i, arrV_store]
    refine congrArg (arrV c N) (funext fun j => ?_)
    by_cases e : j = i
    · subst e
      simp [updV, va_rf]
    · by_cases h : j < i
      · simp [updV, e, h, Nat.lt_succ_of_lt h]
      · simp [updV, e, h, show ¬ j < i + 1 by omega]
section VGM
variable {p : Program} {l : Launch} {e : Env} {R : Room} {s : State} {m : MethodId} {args : Array Value} {below : List Frame} {meth : Method} {c : Code} {H : Heap} {locs : List Loc} {cells slots : Nat} {Q : State → Prop}
variable {cc : ByteArray} {pc : Nat} {ls : Array Slot} {rest : List Value} {D : va_G} {cl : List vw_C} {A : Nat → Prop} {a : Nat} {tys : List (ClassId × FieldType)} {ws : va_W} {H0 : Heap}
theorem va_mna {X : va_W} {L : List Nat} {f : Nat → va_E} {cc : ByteArray} (hexec : p.tables.exec = Jvm.exec) (hb : c.code = cc) {own : String} {index : Nat} {ty : FieldType} {cy : ClassId} (hown : s.vm.findClass own = some m.cls) (hclink : (Cond.classLink own index ("[" ++ (FieldType.array ty).toString)).before args s = true) (hover : va_AOA ty s) (harr : (Cond.arrayClass ty).before args s = true) (hcy : s.vm.findClass (FieldType.array ty).toString = some cy)
    (hK : va_K D cl tys s) (hP : va_P D cl (X ++ va_pl L f) H) (hD : va_D A (X ++ va_pl L f)) (hS : va_S A H0 H locs) (hA : ∀ q, H0.size ≤ q → A q) {n k : Int32} {N' K' : Nat} {z : vp_A} (hn : ¬ n < 0) (hk : ¬ k < 0) (hN : n.toNatClampNeg = N') (hM : k.toNatClampNeg = K')
    (hb1 : N' * 4 ≤ 536870912) (hb2 : K' * componentBytes ty ≤ 536870912) (hb3 : K' ≤ 536870912) (hdf : fits ty (defaultValue ty) = true) (hdd : (defaultValue ty).isDefault = true) (hcells : cells + (1 + N') ≤ R.cells) (hslots : slots + (N' + N' * K') ≤ R.slots) (hz : ∀ c : ClassId, Jvm.Free.Multi.innerC c K' (defaultValue ty) = vp_cell c z) (hdg : decode cc pc = .ok (.multianewarray index 2, 4))
    (kk : ∀ (q : Nat) (r : Nat → Nat) (cA : ClassId) (H1 : Heap), (∀ i j : Nat, i < N' → j < N' → r i = r j → i = j) → (∀ i : Nat, i < N' → r i ∉ L) → va_K D cl (tys ++ [(cA, .array ty)]) s →
      va_P D cl ((X ++ [(q, .inl (cA, N', .inr (.inr (.inr (.inr (fun i => if i < N' then some (r i) else none))))))]) ++ va_pl (L ++ (List.range N').map r) (vr_up f ((List.range N').map r) (.inl (cy, z)))) H1 → va_D A ((X ++ [(q, .inl (cA, N', .inr (.inr (.inr (.inr (fun i => if i < N' then some (r i) else none))))))]) ++ va_pl (L ++ (List.range N').map r) (vr_up f ((List.range N').map r) (.inl (cy, z)))) → va_S A H0 H1 locs →
      W p l e R s m args below meth c H1 locs (cells + 1 + N') (slots + N' + N' * K') Q (F0 m (pc + 4) ls (.ref q :: rest))) : W p l e R s m args below meth c H locs cells slots Q (F0 m pc ls (.int k :: .int n :: rest)) := by
  subst hN
  subst hM
  intro T hT Xs
  obtain ⟨vm₁, cA, comp, -, fA, fC, hO, -, X', step⟩ := Xs.multianewarray2F hexec hown hclink (va_AOA.use hover) harr (g := F0 m pc ls (.int k :: .int n :: rest)) rfl (by rw [hb]; exact hdg) rfl hn hk hb1 hb2 hb3 hdf hdd hcells hslots
  have ec : some cy = some comp := hcy.symm.trans fC
  cases ec
  generalize hF : Jvm.Free.Multi.fill (T.setVm vm₁) cA cy n.toNatClampNeg k.toNatClampNeg (defaultValue ty) n.toNatClampNeg = F at X' step
  have hTh : (T.setVm vm₁).heap = H := hT
  obtain ⟨f1, f2, -, -⟩ := Jvm.Free.Multi.fill_facts (T.setVm vm₁) cA cy n.toNatClampNeg k.toNatClampNeg (defaultValue ty) n.toNatClampNeg
  rw [hF, hTh] at f1 f2
  have hold : ∀ x : Nat, x < H.size → F.heap[x]? = H[x]? := fun x hx => by
    have := Jvm.Free.Multi.fill_old (T.setVm vm₁) cA cy n.toNatClampNeg k.toNatClampNeg (defaultValue ty) (a := x) (by rw [hTh]; exact hx) n.toNatClampNeg
    rw [hF, hTh] at this
    exact this
  have hrow : ∀ j : Nat, j < n.toNatClampNeg → F.heap[H.size + 1 + j]? = some (vp_cell cy z) := fun j hj => by
    have := Jvm.Free.Multi.fill_inner (T.setVm vm₁) cA cy n.toNatClampNeg k.toNatClampNeg (defaultValue ty) n.toNatClampNeg j hj
    rw [hF, hTh, hz] at this
    exact this
  have hout : Jvm.Free.Multi.outerC cA n.toNatClampNeg H.size n.toNatClampNeg = vp_cell cA (n.toNatClampNeg, .inr (.inr (.inr (.inr (fun i => if i < n.toNatClampNeg then some (H.size + 1 + i) else none))))) := by
    rw [vp_cell_q]
    exact vr_outer cA n.toNatClampNeg H.size n.toNatClampNeg
  rw [hout] at f2
  have hlt : ∀ a, a ∈ L → a < H.size := fun a ha => by
    obtain ⟨k9, hk9⟩ := va_pl_get (X := X) (f := f) ha
    exact (hP k9 _ hk9).lt
  have hnl : ∀ i : Nat, i < n.toNatClampNeg → H.size + 1 + i ∉ L := fun i _ h => by
    have := hlt _ h
    omega
  have hnm : ∀ a, a ∈ (List.range n.toNatClampNeg).map (fun i => H.size + 1 + i) → a ∉ L := fun a ha h => by
    obtain ⟨i, -, rfl⟩ := List.mem_map.mp ha
    have := hlt _ h
    omega
  have hP0 : va_P D cl (X ++ va_pl L f) F.heap := hP.kept (fun k9 x hx => hold x.1 ((hP k9 x hx).lt))
  have hP1 : va_P D cl ((X ++ va_pl L f) ++ [(H.size, .inl (cA, n.toNatClampNeg, .inr (.inr (.inr (.inr (fun i => if i < n.toNatClampNeg then some (H.size + 1 + i) else none))))))]) F.heap := hP0.app (fun k9 x hx => by
    have h0 : k9 < 1 := (List.getElem?_eq_some_iff.mp hx).1
    rw [show k9 = 0 by omega] at hx
    cases hx
    exact f2)
  have hP2 : va_P D cl (((X ++ va_pl L f) ++ [(H.size, .inl (cA, n.toNatClampNeg, .inr (.inr (.inr (.inr (fun i => if i < n.toNatClampNeg then some (H.size + 1 + i) else none))))))]) ++ ((List.range n.toNatClampNeg).map (fun i => H.size + 1 + i)).map (fun a => (a, .inl (cy, z)))) F.heap := hP1.app (fun k9 x hx => by
    obtain ⟨a, ha, rfl⟩ := List.mem_map.mp (List.mem_of_getElem? hx)
    obtain ⟨i, hi, rfl⟩ := List.mem_map.mp ha
    exact hrow i (List.mem_range.mp hi))
  have hD2 : va_D A (((X ++ va_pl L f) ++ [(H.size, .inl (cA, n.toNatClampNeg, .inr (.inr (.inr (.inr (fun i => if i < n.toNatClampNeg then some (H.size + 1 + i) else none))))))]) ++ ((List.range n.toNatClampNeg).map (fun i => H.size + 1 + i)).map (fun a => (a, .inl (cy, z)))) := by
    have hD1 := hD.push (e := .inl (cA, n.toNatClampNeg, .inr (.inr (.inr (.inr (fun i => if i < n.toNatClampNeg then some (H.size + 1 + i) else none)))))) hP rfl (hA _ hS.1)
    generalize hW1 : (X ++ va_pl L f) ++ [(H.size, .inl (cA, n.toNatClampNeg, .inr (.inr (.inr (.inr (fun i => if i < n.toNatClampNeg then some (H.size + 1 + i) else none))))))] = W1 at hD1 hP1 ⊢
    have hle : ∀ (k9 : Nat) (x : Nat × va_E), W1[k9]? = some x → x.1 ≤ H.size := fun k9 x hx => by
      rw [← hW1] at hx
      by_cases hl : k9 < (X ++ va_pl L f).length
      · rw [List.getElem?_append_left hl] at hx
        exact Nat.le_of_lt ((hP k9 x hx).lt)
      · rw [List.getElem?_append_right (by omega)] at hx
        have h0 : k9 - (X ++ va_pl L f).length < 1 := (List.getElem?_eq_some_iff.mp hx).1
        rw [show k9 - (X ++ va_pl L f).length = 0 by omega] at hx
        cases hx
        exact Nat.le_refl _
    have hr : ∀ (k9 : Nat) (x : Nat × va_E), (((List.range n.toNatClampNeg).map (fun i => H.size + 1 + i)).map (fun a => ((a, .inl (cy, z)) : Nat × va_E)))[k9]? = some x → x.1 = H.size + 1 + k9 := fun k9 x hx => by
      rw [List.getElem?_map, List.getElem?_map] at hx
      by_cases h9 : k9 < n.toNatClampNeg
      · rw [List.getElem?_range h9] at hx
        cases hx
        rfl
      · have hn0 : (List.range n.toNatClampNeg)[k9]? = none := List.getElem?_eq_none (by rw [List.length_range]; omega)
        rw [hn0] at hx
        cases hx
    refine ⟨fun i j x y hi hj hxy => ?_, fun k9 x hx => ?_⟩
    · by_cases h1 : i < W1.length <;> by_cases h2 : j < W1.length
      · rw [List.getElem?_append_left h1] at hi
        rw [List.getElem?_append_left h2] at hj
        exact hD1.1 i j x y hi hj hxy
      · rw [List.getElem?_append_left h1] at hi
        rw [List.getElem?_append_right (by omega)] at hj
        have := hle _ _ hi
        have := hr _ _ hj
        omega
      · rw [List.getElem?_append_right (by omega)] at hi
        rw [List.getElem?_append_left h2] at hj
        have := hle _ _ hj
        have := hr _ _ hi
        omega
      · rw [List.getElem?_append_right (by omega)] at hi hj
        have := hr _ _ hi
        have := hr _ _ hj
        omega
    · by_cases h1 : k9 < W1.length
      · rw [List.getElem?_append_left h1] at hx
        exact hD1.2 k9 x hx
      · rw [List.getElem?_append_right (by omega)] at hx
        have := hr _ _ hx
        exact hA _ (by have := hS.1; omega)
  have hAr : ArrOfT s cA (.array ty) := fun N9 z9 => by
    obtain ⟨-, k9, hk9, cm9, hkk9⟩ := (hO 0 0 0).1
    exact ⟨(fun q hq => by cases hq), k9, hk9, cm9, hkk9⟩
  have hK2 : va_K D cl (tys ++ [(cA, .array ty)]) s := ⟨hK.1, fun k9 x hx => by
    by_cases hl : k9 < tys.length
    · rw [List.getElem?_append_left hl] at hx
      exact hK.2 k9 x hx
    · rw [List.getElem?_append_right (by omega)] at hx
      have h0 : k9 - tys.length < 1 := (List.getElem?_eq_some_iff.mp hx).1
      rw [show k9 - tys.length = 0 by omega] at hx
      cases hx
      exact ⟨hAr, fA⟩⟩
  obtain ⟨t, a1, b1⟩ := kk H.size (fun i => H.size + 1 + i) cA F.heap (fun i j _ _ h => by have h9 : H.size + 1 + i = H.size + 1 + j := h; omega) hnl hK2 (by rw [← vr_rows hnm]; exact vr_lay hP2) (by rw [← vr_rows hnm]; exact vr_layD hD2) ⟨by rw [f1]; have := hS.1; omega, fun x h1 h2 => (hold x (Nat.lt_of_lt_of_le h1 hS.1)).trans (hS.2.1 x h1 h2), hS.2.2⟩ F rfl X'
  refine ⟨t, step t ?_, b1⟩
  have e : T.heap.size = H.size := by rw [hT]
  rw [e]
  exact a1
end VGM
/-! ===== END ===== -/

/-! ===== BEGIN exceptions that leave a method, and their catching by the caller (launches without stack traces) ===== -/
section VXA
/-! The laws vx_back, vx_callV, vx_callS, vx_callSW, vx_throw0, vx_throwS follow proofs of the library, with one case more: JvmDerived/Free/Laws.lean (Back.of_free), Shelf42/LK1.lean (callV, callS), Shelf/KitTraced.lean (throwNew0V, throwNewS). -/
/-- where a method has thrown q: the class by its name, the cell, what was written, the world -/
def vx_T (XC : String → State → State → Prop) (st : State) (q : Addr) (t : State) (mc ms : Nat) (free : Addr → Prop) : Prop :=
  ∃ (E : String) (ce : Cell) (L : List Loc), XC E st t ∧ t.heap[q]? = some ce ∧ ce.vm = .none ∧ st.vm.findClass E = some ce.cls ∧ st.WarmedH t.vm ∧ st.sameButNew ({ t with vm := st.vm } : State) L mc ms ∧ ∀ z ∈ L, free z.base
def vx_Q (Qc : Array Value → State → Outcome → State → Prop) (XC : String → State → State → Prop) (mc ms : Nat) (free : Addr → Prop) : Array Value → State → Outcome → State → Prop := fun a st o t =>
  (Qc a st o t ∧ ∃ L, FrameEnd st o t L mc ms ∧ ∀ q ∈ L, free q.base) ∨ ∃ q, o = .threw q ∧ vx_T XC st q t mc ms free
/-- a callee that returns or throws -/
def vx_Met (l : Launch) (y : MethodName) (ws : List Cond) (rm : Room) (Pc : Array Value → State → Prop) (Qc : Array Value → State → Outcome → State → Prop) (XC : String → State → State → Prop) (mc ms : Nat) (free : Addr → Prop) : Prop :=
  MetFree l y (headSpec ws rm) Pc (fun _ _ _ _ _ => True) (vx_Q Qc XC mc ms free)
def vx_Post (XC : String → State → State → Prop) (mc ms : Nat) (free : Addr → Prop) : Pt → Array Value → Addr → Pt → Prop := fun A a q B =>
  ∃ (g : JFrame) (mk : MethodId) (t : State) (L : List Loc) (E : String) (ce : Cell), B.U.heap = t.heap ∧ B.U.vm = t.vm ∧ XC E (A.U.calling g mk a) t ∧ t.heap[q]? = some ce ∧ ce.vm = .none ∧ A.U.vm.findClass E = some ce.cls ∧ B.locs = A.locs ++ L ∧ (∀ z ∈ L, free z.base) ∧ B.cells = A.cells + mc ∧ B.slots = A.slots + ms
def vx_Back (l : Launch) (R : Room) (p : Program) (e : Env) (below : List Frame) (s : State) (sargs : Array Value) (y : MethodName) (len W9 : Nat)
    (Pre : Pt → Array Value → Prop) (Post : Pt → Array Value → Option Value → Pt → Prop) (PostX : Pt → Array Value → Addr → Pt → Prop) : Prop :=
  ∀ (m : MethodId) (meth : Method) (c : Code) (A : Pt) (g : JFrame) (ig : Instr) (mk : MethodId) (a : Array Value),
    Stand p l e R s m sargs below meth c A.U A.locs A.cells A.slots → g.method = m → g.locals.size = c.maxLocals → decode c.code g.pc = .ok (ig, len) →
    2 * g.monitorRoom + (g.stack.map fun v => v.category).sum ≤ W9 → A.U.methodNamed? y = some mk → Pre A a →
    (∃ (v : Option Value) (B : Pt), Stand p l e R s m sargs below meth c B.U B.locs B.cells B.slots ∧ Post A a v B ∧
      Steps p.tables e below (doInvoke e (A.U.setTop g) [] mk a).1 (B.U.setTop { g with pc := g.pc + len, stack := v.toList ++ g.stack })) ∨
    (∃ (q : Addr) (B : Pt), Stand p l e R s m sargs below meth c B.U B.locs B.cells B.slots ∧ PostX A a q B ∧
      Steps p.tables e below (doInvoke e (A.U.setTop g) [] mk a).1 ((B.U.setTop g).pushFrame (.throwing q)))
section Payer
variable {l : Launch} {R : Room} {p : Program} {e : Env} {below : List Frame} {s : State} {sargs : Array Value} {y : MethodName} {len W9 : Nat}
theorem vx_back {ws : List Cond} {rm : Room} {Pc : Array Value → State → Prop} {Qc : Array Value → State → Outcome → State → Prop} {XC : String → State → State → Prop} {mc ms : Nat} {free : Addr → Prop} {bytes : ByteArray} {maxL : Nat} {ret : Option FieldType}
    (hM : vx_Met l y ws rm Pc Qc XC mc ms free) (hblind : FrameBlind Pc) (hrc : rm.cells = mc) (hrs : rm.slots = ms)
    (hframes : rm.frames + 1 ≤ R.frames) (hlocals : W9 + (maxL + 11) + rm.locals ≤ R.locals)
    (hws : ∀ w ∈ ws, ∀ a' U, s.WarmedH U.vm → w.before a' U = true) (hcode : Cond.code y bytes maxL ret ∈ ws) (hinit : ∀ a' U, s.WarmedH U.vm → (Cond.initialized y.cls).before a' U = true) :
    vx_Back l R p e below s sargs y len W9 (PreOf R mc ms Pc) (PostOf Qc mc ms free) (vx_Post XC mc ms free) := by
  intro m meth c A g ig mk a X hg hsize hdg hW hn hp
  have h1 : (headSpec ws rm).pre.before a A.U = true := atoms_intro fun w hw => hws w hw _ _ X.warmed
  have h2 : (Cond.code y bytes maxL ret).before a A.U = true := hws _ hcode _ _ X.warmed
  have h3 : (Cond.initialized y.cls).before a A.U = true := hinit _ _ X.warmed
  have h4 : A.cells + (headSpec ws rm).room.cells ≤ R.cells := by rw [show (headSpec ws rm).room.cells = mc from hrc]; exact hp.1
  have h5 : A.slots + (headSpec ws rm).room.slots ≤ R.slots := by rw [show (headSpec ws rm).room.slots = ms from hrs]; exact hp.2.1
  have hPc : Pc a (A.U.calling g mk a) := hblind _ _ _ _ hp.2.2
  obtain ⟨U, Ls, c0, s0⟩ := A
  dsimp only [Pt.U, Pt.locs, Pt.cells, Pt.slots] at h1 h2 h3 h4 h5 X hn hPc ⊢
  obtain ⟨methY, cY, hmY, hcY, -, hlY, -, -, -, -⟩ := Cond.code_spec hn h2
  obtain ⟨kY, hkY, -⟩ := className_of_methodNamed hn
  have hinitY : kY.init = .initialized := Cond.initialized_spec (findClass_of_methodNamed hn) hkY h3
  have h : At U g.method c below := by rw [hg]; exact X.here
  have hlocals9 : W9 + (maxL + 11) + (headSpec ws rm).room.locals ≤ R.locals := hlocals
  have happ : (headSpec ws rm).appliesLoose y e.platform (U.calling g mk a) = true :=
    Spec.appliesLoose_calling (g := g) h hdg hn hkY hinitY
      (X.room_calling (g := g) (R' := (headSpec ws rm).room) hsize hmY hcY hframes (by rw [hlY]; omega) h4 h5) h1
  obtain ⟨mid, hmid⟩ := h.above
  have hfr : (U.setTop g).frames = (.java g :: mid) ++ below := by rw [State.frames_setTop' g h.top, hmid]; rfl
  obtain ⟨o, s₂, hsteps, -, hend, hq⟩ := Steps.callFree hM p X.admits X.cas X.clock (acts := []) hfr happ hPc trivial
  have hq' : vx_Q Qc XC mc ms free a (U.calling g mk a) o s₂ := hq
  rw [State.frames_setTop' g h.top] at hend
  obtain ⟨g₀, hg0⟩ := Option.isSome_iff_exists.mp h.top
  obtain ⟨r, hr⟩ := State.topJava?_eq_some.mp hg0
  have hr' : (({ U with heap := s₂.heap, slotsUsed := s₂.slotsUsed } : State).setVm s₂.vm).frames = .java g₀ :: r := hr
  rcases hq' with ⟨hqc, L, hfe, hL⟩ | ⟨q, rfl, E, ce, L, hx, hce, hcv, hcl, hW₂, hsm, hL⟩
  · obtain ⟨⟨v, rfl⟩, hW₂, e2, q2, q3, q4, q5, q6⟩ := id hfe
    have e3 : s₂ = ({ (U.calling g mk a).setFrames s₂.frames with heap := s₂.heap, slotsUsed := s₂.slotsUsed } : State).setVm s₂.vm := by
      have : s₂ = ({ s₂ with vm := (U.calling g mk a).vm } : State).setVm s₂.vm := rfl
      rw [e2] at this
      exact this
    obtain ⟨c₂, i₂, len₂, hc₂, hd₂, hf₂⟩ := hend
    have hW' : U.WarmedH s₂.vm := hW₂
    have hcc : c₂ = c := by
      have h1 : s₂.code? g.method = U.code? g.method := by
        rw [State.code?_eq, State.code?_eq, hW'.alike.method?]
      exact Option.some.inj (hc₂.symm.trans (h1.trans h.code))
    subst hcc
    have hlen : len₂ = len := by rw [hdg] at hd₂; cases hd₂; rfl
    subst hlen
    have hs₂ : s₂ = (({ U with heap := s₂.heap, slotsUsed := s₂.slotsUsed } : State).setVm s₂.vm).setTop { g with pc := g.pc + len₂, stack := v.toList ++ g.stack } := by
      refine e3.trans ?_
      rw [hf₂, State.calling_eq h.top, State.setFrames_setFrames, State.setTop_of_frames _ hr', hr]
      rfl
    have hsame : U.sameButNew ({ U with heap := s₂.heap, slotsUsed := s₂.slotsUsed } : State) L mc ms := by
      refine ⟨?_, q2, q3, q4, q5, q6⟩
      obtain ⟨t, ht, -⟩ := State.frames_cons hr
      show ({ U with heap := s₂.heap, slotsUsed := s₂.slotsUsed } : State) = { U.setFrames U.frames with heap := s₂.heap, slotsUsed := s₂.slotsUsed }
      rw [State.setFrames_self ht]
    subst hg
    refine Or.inl ⟨v, ⟨(({ U with heap := s₂.heap, slotsUsed := s₂.slotsUsed } : State).setVm s₂.vm), Ls ++ L, c0 + mc, s0 + ms⟩,
      ⟨X.admits, X.cas, X.clock, X.frames, X.room, X.hears, X.method, X.code, (X.here.setHeapUsed s₂.heap s₂.slotsUsed).setVm hW'.alike, X.tail, State.WarmedH.trans X.warmed hW', X.limits, X.bytes, X.same.trans (hsame.setVm s.vm)⟩,
      ⟨g, mk, s₂, L, rfl, rfl, hqc, rfl, hL, rfl, rfl⟩, ?_⟩
    show Steps p.tables e below _ ((({ U with heap := s₂.heap, slotsUsed := s₂.slotsUsed } : State).setVm s₂.vm).setTop { g with pc := g.pc + len₂, stack := v.toList ++ g.stack })
    rw [← hs₂]
    exact hsteps
  · obtain ⟨e2, q2, q3, q4, q5, q6⟩ := id hsm
    have e3 : s₂ = ({ (U.calling g mk a).setFrames s₂.frames with heap := s₂.heap, slotsUsed := s₂.slotsUsed } : State).setVm s₂.vm := by
      have : s₂ = ({ s₂ with vm := (U.calling g mk a).vm } : State).setVm s₂.vm := rfl
      rw [e2] at this
      exact this
    have hf₂ : s₂.frames = .throwing q :: .java g :: U.frames.tail := hend
    have hW' : U.WarmedH s₂.vm := hW₂
    have hs₂ : s₂ = ((({ U with heap := s₂.heap, slotsUsed := s₂.slotsUsed } : State).setVm s₂.vm).setTop g).pushFrame (.throwing q) := by
      refine e3.trans ?_
      rw [hf₂, State.calling_eq h.top, State.setFrames_setFrames, State.pushFrame, State.frames_setTop _ hr', State.setTop_of_frames _ hr', State.setFrames_setFrames, hr]
      rfl
    have hsame : U.sameButNew ({ U with heap := s₂.heap, slotsUsed := s₂.slotsUsed } : State) L mc ms := by
      refine ⟨?_, q2, q3, q4, q5, q6⟩
      obtain ⟨t, ht, -⟩ := State.frames_cons hr
      show ({ U with heap := s₂.heap, slotsUsed := s₂.slotsUsed } : State) = { U.setFrames U.frames with heap := s₂.heap, slotsUsed := s₂.slotsUsed }
      rw [State.setFrames_self ht]
    subst hg
    refine Or.inr ⟨q, ⟨(({ U with heap := s₂.heap, slotsUsed := s₂.slotsUsed } : State).setVm s₂.vm), Ls ++ L, c0 + mc, s0 + ms⟩,
      ⟨X.admits, X.cas, X.clock, X.frames, X.room, X.hears, X.method, X.code, (X.here.setHeapUsed s₂.heap s₂.slotsUsed).setVm hW'.alike, X.tail, State.WarmedH.trans X.warmed hW', X.limits, X.bytes, X.same.trans (hsame.setVm s.vm)⟩,
      ⟨g, mk, s₂, L, E, ce, rfl, rfl, hx, hce, hcv, hcl, rfl, hL, rfl, rfl⟩, ?_⟩
    show Steps p.tables e below _ (((({ U with heap := s₂.heap, slotsUsed := s₂.slotsUsed } : State).setVm s₂.vm).setTop g).pushFrame (.throwing q))
    rw [← hs₂]
    exact hsteps
end Payer
section Calls
variable {p : Program} {l : Launch} {e : Env} {R : Room} {s : State} {m : MethodId} {args : Array Value} {below : List Frame} {meth : Method} {c : Code} {T : State} {locs : List Loc} {cells slots : Nat}
theorem vx_callV (X : Stand p l e R s m args below meth c T locs cells slots) (hexec : p.tables.exec = Jvm.exec) {own C : String} {index : Nat} {y : MethodName} {bytes : ByteArray} {maxL : Nat} {ret : Option FieldType}
    (hown : s.vm.findClass own = some m.cls) (hlink : (Cond.methodLink own index y).before args s = true) (hinst : (Cond.instanceMethod y).before args s = true) (hsel : (Cond.selects C y y).before args s = true)
    (hcode : (Cond.code y bytes maxL ret).before args s = true) (hy : y.cls ≠ "java/lang/invoke/MethodHandle" ∧ y.cls ≠ "java/lang/invoke/VarHandle")
    {W9 : Nat} {Pre : Pt → Array Value → Prop} {Post : Pt → Array Value → Option Value → Pt → Prop} {PostX : Pt → Array Value → Addr → Pt → Prop} (hK : vx_Back l R p e below s args y 3 W9 Pre Post PostX)
    {b : Addr} {cellB : Cell} (hcell : T.heap[b]? = some cellB) (hobj : cellB.vm.isStatics = false) (hcls : s.vm.findClass C = some cellB.cls)
    {g : JFrame} (hg : g.method = m) (hsize : g.locals.size = c.maxLocals) {argsL rest : List Value} (hlen : ∀ sig, parseMethodDescriptor y.desc = some sig → argsL.length = sig.parameters.length)
    (hstack : g.stack = argsL.reverse ++ .ref b :: rest) (hW : 2 * g.monitorRoom + (rest.map fun v => v.category).sum ≤ W9) (hdg : decode c.code g.pc = .ok (.invokevirtual index, 3))
    (hpre : ∀ vm₁, s.WarmedH vm₁ → Pre ⟨T.setVm vm₁, locs, cells, slots⟩ (Value.ref b :: argsL).toArray) :
    (∃ (v : Option Value) (vm₁ : Vm) (B : Pt), s.WarmedH vm₁ ∧ Stand p l e R s m args below meth c B.U B.locs B.cells B.slots ∧ Post ⟨T.setVm vm₁, locs, cells, slots⟩ (Value.ref b :: argsL).toArray v B ∧
      ∀ target, Steps p.tables e below (B.U.setTop { g with pc := g.pc + 3, stack := v.toList ++ rest }) target → Steps p.tables e below (T.setTop g) target) ∨
    (∃ (q : Addr) (vm₁ : Vm) (B : Pt), s.WarmedH vm₁ ∧ Stand p l e R s m args below meth c B.U B.locs B.cells B.slots ∧ PostX ⟨T.setVm vm₁, locs, cells, slots⟩ (Value.ref b :: argsL).toArray q B ∧
      Steps p.tables e below (T.setTop g) ((B.U.setTop { g with stack := rest }).pushFrame (.throwing q))) := by
  obtain ⟨mk, methM, hnamed, hmethM, hstM, habM⟩ := Cond.instanceMethod_spec hinst
  obtain ⟨methM', cM, hmethM', -, -, -, -, -, -, hsigM⟩ := Cond.code_spec hnamed hcode
  cases hmethM.symm.trans hmethM'
  obtain ⟨c2, r2, m2, q1, q2, q3, q4, kP, hkP, hkPi⟩ := Cond.selects_spec hsel
  cases hcls.symm.trans q1
  cases (State.methodFound?_of_named hnamed hy).symm.trans q2
  cases hnamed.symm.trans q3
  have hselP : selectMethod e.platform s.vm cellB.cls mk = .method mk := by rw [Launch.admits_selectMethod X.admits]; exact q4
  obtain ⟨vm₁, X₁, hstep₁⟩ := X.invokevirtual hexec hown hlink hnamed hmethM hstM hkP hkPi hy (a := b) (cell := cellB) hcell
    (fun z h => by rw [h] at hobj; cases hobj) hselP hmethM habM hkP hkPi (g := g) hg (argsL := argsL) (rest := rest) (hlen _ hsigM) hstack hdg
  rcases hK m meth c ⟨T.setVm vm₁, locs, cells, slots⟩ { g with stack := rest } (.invokevirtual index) mk (Value.ref b :: argsL).toArray X₁ hg hsize hdg hW (X₁.named hnamed) (hpre vm₁ X₁.warmed) with ⟨v, B, X', hpost, hsteps⟩ | ⟨q, B, X', hpost, hsteps⟩
  · exact Or.inl ⟨v, vm₁, B, X₁.warmed, X', hpost, fun target h => hstep₁ _ fun acts => by rw [doInvoke_state]; exact hsteps.trans h⟩
  · exact Or.inr ⟨q, vm₁, B, X₁.warmed, X', hpost, hstep₁ _ fun acts => by rw [doInvoke_state]; exact hsteps⟩
theorem vx_callS (X : Stand p l e R s m args below meth c T locs cells slots) (hexec : p.tables.exec = Jvm.exec) {own : String} {index : Nat} {y : MethodName} {bytes : ByteArray} {maxL : Nat} {ret : Option FieldType}
    (hown : s.vm.findClass own = some m.cls) (hlink : (Cond.methodLink own index y).before args s = true) (hstat : (Cond.static y).before args s = true) (hinit : (Cond.initialized y.cls).before args s = true)
    (hcode : (Cond.code y bytes maxL ret).before args s = true) (hy : y.cls ≠ "java/lang/invoke/MethodHandle" ∧ y.cls ≠ "java/lang/invoke/VarHandle")
    {W9 : Nat} {Pre : Pt → Array Value → Prop} {Post : Pt → Array Value → Option Value → Pt → Prop} {PostX : Pt → Array Value → Addr → Pt → Prop} (hK : vx_Back l R p e below s args y 3 W9 Pre Post PostX)
    {g : JFrame} (hg : g.method = m) (hsize : g.locals.size = c.maxLocals) {argsL rest : List Value} (hlen : ∀ sig, parseMethodDescriptor y.desc = some sig → argsL.length = sig.parameters.length)
    (hstack : g.stack = argsL.reverse ++ rest) (hW : 2 * g.monitorRoom + (rest.map fun v => v.category).sum ≤ W9) (hdg : decode c.code g.pc = .ok (.invokestatic index, 3))
    (hpre : ∀ vm₁, s.WarmedH vm₁ → Pre ⟨T.setVm vm₁, locs, cells, slots⟩ argsL.toArray) :
    (∃ (v : Option Value) (vm₁ : Vm) (B : Pt), s.WarmedH vm₁ ∧ Stand p l e R s m args below meth c B.U B.locs B.cells B.slots ∧ Post ⟨T.setVm vm₁, locs, cells, slots⟩ argsL.toArray v B ∧
      ∀ target, Steps p.tables e below (B.U.setTop { g with pc := g.pc + 3, stack := v.toList ++ rest }) target → Steps p.tables e below (T.setTop g) target) ∨
    (∃ (q : Addr) (vm₁ : Vm) (B : Pt), s.WarmedH vm₁ ∧ Stand p l e R s m args below meth c B.U B.locs B.cells B.slots ∧ PostX ⟨T.setVm vm₁, locs, cells, slots⟩ argsL.toArray q B ∧
      Steps p.tables e below (T.setTop g) ((B.U.setTop { g with stack := rest }).pushFrame (.throwing q))) := by
  obtain ⟨mk, hnamed⟩ := Cond.code_named hcode
  obtain ⟨methM, cM, hmethM, -, -, -, -, -, -, hsigM⟩ := Cond.code_spec hnamed hcode
  have hstatic : methM.isStatic = true := Cond.static_spec hnamed hmethM hstat
  obtain ⟨kP, hkP, -⟩ := className_of_methodNamed hnamed
  have hinitP : kP.init = .initialized := Cond.initialized_spec (findClass_of_methodNamed hnamed) hkP hinit
  obtain ⟨vm₁, X₁, hstep₁⟩ := X.invokestatic hexec hown hlink hnamed hmethM hstatic hkP hinitP hy (g := g) hg (argsL := argsL) (rest := rest) (hlen _ hsigM) hstack hdg
  rcases hK m meth c ⟨T.setVm vm₁, locs, cells, slots⟩ { g with stack := rest } (.invokestatic index) mk argsL.toArray X₁ hg hsize hdg hW (X₁.named hnamed) (hpre vm₁ X₁.warmed) with ⟨v, B, X', hpost, hsteps⟩ | ⟨q, B, X', hpost, hsteps⟩
  · exact Or.inl ⟨v, vm₁, B, X₁.warmed, X', hpost, fun target h => hstep₁ _ fun acts => by rw [doInvoke_state]; exact hsteps.trans h⟩
  · exact Or.inr ⟨q, vm₁, B, X₁.warmed, X', hpost, hstep₁ _ fun acts => by rw [doInvoke_state]; exact hsteps⟩
end Calls
theorem vx_cls {s : State} {T : State} {vm₁ : Vm} {E : String} {k : ClassId} (hW : s.WarmedH vm₁) (h : (T.setVm vm₁).vm.findClass E = some k) : s.vm.findClass E = some k := by
  have h1 : vm₁.findClass E = some k := h
  rw [hW.alike.findClass] at h1
  exact h1
/-- the method's frame g, with q thrown over it -/
def vx_W (p : Program) (l : Launch) (e : Env) (R : Room) (s : State) (m : MethodId) (args : Array Value) (below : List Frame) (meth : Method) (c : Code) (H : Heap) (locs : List Loc) (cells slots : Nat) (Q : State → Prop) (g : JFrame) (q : Addr) : Prop :=
  ∀ T : State, T.heap = H → Stand p l e R s m args below meth c T locs cells slots → ∃ t, Steps p.tables e below ((T.setTop g).pushFrame (.throwing q)) t ∧ Q t
def vx_Run (p : Program) (l : Launch) (e : Env) (R : Room) (s : State) (m : MethodId) (args : Array Value) (below : List Frame) (meth : Method) (c : Code) (H : Heap) (locs : List Loc) (cells slots mc ms : Nat) (g : JFrame) (rest : List Value) (Qa : State → Outcome → State → Prop) (XC : String → State → State → Prop) (free : Addr → Prop) : Prop :=
  ∀ T : State, T.heap = H → Stand p l e R s m args below meth c T locs cells slots →
    (∃ (v : Option Value) (st₀ t T' : State) (L : List Loc), st₀.heap = H ∧ Stand p l e R s m args below meth c T' (locs ++ L) (cells + mc) (slots + ms) ∧ (∀ q ∈ L, free q.base) ∧ T'.heap = t.heap ∧ T'.vm = t.vm ∧ Qa st₀ (.returned v) t ∧
      Goes p e below T g T' { g with pc := g.pc + 3, stack := v.toList ++ rest }) ∨
    (∃ (q : Addr) (st₀ t T' : State) (L : List Loc) (E : String) (ce : Cell), st₀.heap = H ∧ Stand p l e R s m args below meth c T' (locs ++ L) (cells + mc) (slots + ms) ∧ (∀ z ∈ L, free z.base) ∧ T'.heap = t.heap ∧ T'.vm = t.vm ∧ XC E st₀ t ∧ t.heap[q]? = some ce ∧ ce.vm = .none ∧ s.vm.findClass E = some ce.cls ∧
      Steps p.tables e below (T.setTop g) ((T'.setTop { g with stack := rest }).pushFrame (.throwing q)))
def vx_X {S : Type} (px : S → Prop) (B : String → S → State → Prop) (A : Nat → Prop) : String → State → State → Prop := fun E st t => ∃ u : S, px u ∧ B E u t ∧ va_F A st t
section Runs
variable {p : Program} {l : Launch} {e : Env} {R : Room} {s : State} {m : MethodId} {args : Array Value} {below : List Frame} {meth : Method} {c : Code} {H : Heap} {locs : List Loc} {cells slots : Nat}
variable {y : MethodName} {bytes cc : ByteArray} {maxL nL mc ms n index : Nat} {ret : Option FieldType} {ws : List Cond} {rm : Room} {Pc : Array Value → State → Prop} {Qc : Array Value → State → Outcome → State → Prop} {XC : String → State → State → Prop} {free : Addr → Prop} {Ts : List Cond} {own C : String} {b : Addr} {As rest : List Value} {g : JFrame}
theorem vx_callBack (cb : CallB R s args own index y bytes maxL ret ws rm mc ms n) (hM : vx_Met l y ws rm Pc Qc XC mc ms free) (hbl : FrameBlind Pc) : vx_Back l R p e below s args y 3 8 (PreOf R mc ms Pc) (PostOf Qc mc ms free) (vx_Post XC mc ms free) := by
  obtain ⟨hrc, hrs, hfr, hlo, hws, hcw, -, hini, -⟩ := cb
  exact vx_back (bytes := bytes) (maxL := maxL) (ret := ret) hM hbl hrc hrs hfr hlo hws hcw (fun a' U hW => word_at hW (Or.inl (by first | rfl | simp [Cond.onTables, Cond.keeps, Cond.steady])) hini)
theorem vx_runV (S : CallFix p m c cc nL s args Ts own) (hM : vx_Met l y ws rm Pc Qc XC mc ms free) (cw : CallW R s args own C index y bytes maxL ret ws rm mc ms n) (hp : PreV s H C b Pc As)
    (hg : g.method = m) (hn : As.length = n) (hsize : g.locals.size = nL) (hstack : g.stack = As.reverse ++ .ref b :: rest) (hW : 2 * g.monitorRoom + (rest.map fun v => v.category).sum ≤ 8) (hdg : decode cc g.pc = .ok (.invokevirtual index, 3)) (hf : cells + mc ≤ R.cells ∧ slots + ms ≤ R.slots) :
    vx_Run p l e R s m args below meth c H locs cells slots mc ms g rest (Qc (Value.ref b :: As).toArray) XC free := by
  have hK : vx_Back l R p e below s args y 3 8 (PreOf R mc ms Pc) (PostOf Qc mc ms free) (vx_Post XC mc ms free) := vx_callBack cw.1 hM hp.1
  obtain ⟨⟨-, -, -, -, -, -, hcode, -, hy, hlen, hl⟩, hin, hse⟩ := cw
  obtain ⟨hx, hb, hml, ho, -⟩ := S
  obtain ⟨-, ⟨cellB, hcB, hoB, hclB⟩, hPc⟩ := hp
  intro T hT X
  rcases vx_callV X hx (C := C) (bytes := bytes) (maxL := maxL) (ret := ret) ho hl hin hse hcode hy hK (by rw [hT]; exact hcB) hoB hclB hg (hsize.trans hml.symm) (argsL := As) (rest := rest) (fun sig h => hn.trans (hlen sig h)) hstack hW (by rw [hb]; exact hdg)
    (fun vm₁ hW₁ => ⟨hf.1, hf.2, hPc (T.setVm vm₁) hT hW₁⟩) with ⟨v, vm₁, ⟨U', l2, c2, s2⟩, hW₁, X', ⟨g', mk, t, L, e1, e2, hq, h1, hL, h2, h3⟩, st⟩ | ⟨q, vm₁, ⟨U', l2, c2, s2⟩, hW₁, X', ⟨g', mk, t, L, E, ce, e1, e2, hq, hce, hcv, hcl, h1, hL, h2, h3⟩, st⟩
  · dsimp only [Pt.U, Pt.locs, Pt.cells, Pt.slots] at X' e1 e2 h1 h2 h3 st
    subst h1; subst h2; subst h3
    exact Or.inl ⟨v, (T.setVm vm₁).calling g' mk (Value.ref b :: As).toArray, t, U', L, hT, X', hL, e1, e2, hq, st⟩
  · dsimp only [Pt.U, Pt.locs, Pt.cells, Pt.slots] at X' e1 e2 h1 h2 h3 st hcl
    subst h1; subst h2; subst h3
    exact Or.inr ⟨q, (T.setVm vm₁).calling g' mk (Value.ref b :: As).toArray, t, U', L, E, ce, hT, X', hL, e1, e2, hq, hce, hcv, vx_cls hW₁ hcl, st⟩
theorem vx_runS (S : CallFix p m c cc nL s args Ts own) (hM : vx_Met l y ws rm Pc Qc XC mc ms free) (cw : CallB R s args own index y bytes maxL ret ws rm mc ms n ∧ (Cond.static y).before args s = true) (hp : PreS s H Pc As)
    (hg : g.method = m) (hn : As.length = n) (hsize : g.locals.size = nL) (hstack : g.stack = As.reverse ++ rest) (hW : 2 * g.monitorRoom + (rest.map fun v => v.category).sum ≤ 8) (hdg : decode cc g.pc = .ok (.invokestatic index, 3)) (hf : cells + mc ≤ R.cells ∧ slots + ms ≤ R.slots) :
    vx_Run p l e R s m args below meth c H locs cells slots mc ms g rest (Qc As.toArray) XC free := by
  have hK : vx_Back l R p e below s args y 3 8 (PreOf R mc ms Pc) (PostOf Qc mc ms free) (vx_Post XC mc ms free) := vx_callBack cw.1 hM hp.1
  obtain ⟨⟨-, -, -, -, -, -, hcode, hini, hy, hlen, hl⟩, hstt⟩ := cw
  obtain ⟨hx, hb, hml, ho, -⟩ := S
  intro T hT X
  rcases vx_callS X hx (bytes := bytes) (maxL := maxL) (ret := ret) ho hl hstt hini hcode hy hK hg (hsize.trans hml.symm) (argsL := As) (rest := rest) (fun sig h => hn.trans (hlen sig h)) hstack hW (by rw [hb]; exact hdg)
    (fun vm₁ hW₁ => ⟨hf.1, hf.2, hp.2 (T.setVm vm₁) hT hW₁⟩) with ⟨v, vm₁, ⟨U', l2, c2, s2⟩, hW₁, X', ⟨g', mk, t, L, e1, e2, hq, h1, hL, h2, h3⟩, st⟩ | ⟨q, vm₁, ⟨U', l2, c2, s2⟩, hW₁, X', ⟨g', mk, t, L, E, ce, e1, e2, hq, hce, hcv, hcl, h1, hL, h2, h3⟩, st⟩
  · dsimp only [Pt.U, Pt.locs, Pt.cells, Pt.slots] at X' e1 e2 h1 h2 h3 st
    subst h1; subst h2; subst h3
    exact Or.inl ⟨v, (T.setVm vm₁).calling g' mk As.toArray, t, U', L, hT, X', hL, e1, e2, hq, st⟩
  · dsimp only [Pt.U, Pt.locs, Pt.cells, Pt.slots] at X' e1 e2 h1 h2 h3 st hcl
    subst h1; subst h2; subst h3
    exact Or.inr ⟨q, (T.setVm vm₁).calling g' mk As.toArray, t, U', L, E, ce, hT, X', hL, e1, e2, hq, hce, hcv, vx_cls hW₁ hcl, st⟩
end Runs
section Rows
variable {p : Program} {l : Launch} {e : Env} {R : Room} {s : State} {m : MethodId} {args : Array Value} {below : List Frame} {meth : Method} {c : Code} {H : Heap} {locs : List Loc} {cells slots : Nat} {Q : State → Prop}
variable {mc ms : Nat} {free : Addr → Prop} {A0 A1 : Nat → Prop} {H0 : Heap} {a : Array Value} {pc : Nat} {ls : Array Slot} {st0 rest : List Value}
theorem vx_keep {st₀ t T' : State} {L : List Loc} (h0 : st₀.heap = H) (e1 : T'.heap = t.heap) (hS : va_S A0 H0 H locs) (hA : ∀ q, q < H.size → A1 q → A0 q) (hf : ∀ q, free q → A0 q) (hL : ∀ q ∈ L, free q.base) (hF : va_F A1 st₀ t) :
    H.size ≤ T'.heap.size ∧ (∀ q : Nat, q < H.size → ¬ A1 q → T'.heap[q]? = H[q]?) ∧ va_S A0 H0 T'.heap (locs ++ L) := by
  obtain ⟨hz, hk⟩ := hF
  rw [h0] at hz hk
  exact ⟨by rw [e1]; exact hz, fun q h1 h2 => by rw [e1]; exact hk q h1 h2,
    ⟨Nat.le_trans hS.1 (by rw [e1]; exact hz), fun q h1 h2 => by rw [e1, hk q (Nat.lt_of_lt_of_le h1 hS.1) (fun z => h2 (hA q (Nat.lt_of_lt_of_le h1 hS.1) z))]; exact hS.2.1 q h1 h2, fun q hq => by
      rcases List.mem_append.mp hq with h | h
      · exact hS.2.2 q h
      · exact hf _ (hL q h)⟩⟩
theorem vx_calli {S SX : Type} {post : Int32 → S → Prop} {px : SX → Prop} {B : S → State → Prop} {BX : String → SX → State → Prop} {AX : Nat → Prop} (hr : vx_Run p l e R s m args below meth c H locs cells slots mc ms (F0 m pc ls st0) rest (va_Qi post B A1 a) (vx_X px BX AX) free) (hS : va_S A0 H0 H locs) (hA : ∀ q, q < H.size → A1 q → A0 q) (hf : ∀ q, free q → A0 q) (hAX : ∀ q, q < H.size → AX q → A0 q)
    (kx : ∀ (E : String) (ce : Cell) (q9 : Addr) (u : SX) (t : State) (H1 : Heap) (locs1 : List Loc), t.heap = H1 → s.vm.Alike t.vm → px u → BX E u t → H.size ≤ H1.size → (∀ q : Nat, q < H.size → ¬ AX q → H1[q]? = H[q]?) → va_S A0 H0 H1 locs1 → H1[q9]? = some ce → ce.vm = .none → s.vm.findClass E = some ce.cls → vx_W p l e R s m args below meth c H1 locs1 (cells + mc) (slots + ms) Q (F0 m pc ls rest) q9)
    (kk : ∀ (r : Int32) (u : S) (t : State) (H1 : Heap) (locs1 : List Loc), t.heap = H1 → s.vm.Alike t.vm → post r u → B u t → H.size ≤ H1.size → (∀ q : Nat, q < H.size → ¬ A1 q → H1[q]? = H[q]?) → va_S A0 H0 H1 locs1 → W p l e R s m args below meth c H1 locs1 (cells + mc) (slots + ms) Q (F0 m (pc + 3) ls (.int r :: rest))) : W p l e R s m args below meth c H locs cells slots Q (F0 m pc ls st0) := by
  intro T hT X
  rcases hr T hT X with ⟨v, st₀, t, T', L, h0, X', hL, e1, e2, ⟨⟨r, u, hv, hp, hb⟩, hF⟩, st⟩ | ⟨q, st₀, t, T', L, E, ce, h0, X', hL, e1, e2, ⟨u, hp, hb, hF⟩, hce, hcv, hcl, st⟩
  · cases hv
    obtain ⟨k1, k2, k3⟩ := vx_keep h0 e1 hS hA hf hL hF
    obtain ⟨t2, a1, b1⟩ := kk r u t T'.heap (locs ++ L) e1.symm (by rw [← e2]; exact X'.warmed.alike) hp hb k1 k2 k3 T' rfl X'
    exact ⟨t2, st t2 a1, b1⟩
  · obtain ⟨k1, k2, k3⟩ := vx_keep h0 e1 hS hAX hf hL hF
    obtain ⟨t2, a1, b1⟩ := kx E ce q u t T'.heap (locs ++ L) e1.symm (by rw [← e2]; exact X'.warmed.alike) hp hb k1 k2 k3 (by rw [e1]; exact hce) hcv hcl T' rfl X'
    exact ⟨t2, st.trans a1, b1⟩
theorem vx_calll {S SX : Type} {post : Int64 → S → Prop} {px : SX → Prop} {B : S → State → Prop} {BX : String → SX → State → Prop} {AX : Nat → Prop} (hr : vx_Run p l e R s m args below meth c H locs cells slots mc ms (F0 m pc ls st0) rest (va_Ql post B A1 a) (vx_X px BX AX) free) (hS : va_S A0 H0 H locs) (hA : ∀ q, q < H.size → A1 q → A0 q) (hf : ∀ q, free q → A0 q) (hAX : ∀ q, q < H.size → AX q → A0 q)
    (kx : ∀ (E : String) (ce : Cell) (q9 : Addr) (u : SX) (t : State) (H1 : Heap) (locs1 : List Loc), t.heap = H1 → s.vm.Alike t.vm → px u → BX E u t → H.size ≤ H1.size → (∀ q : Nat, q < H.size → ¬ AX q → H1[q]? = H[q]?) → va_S A0 H0 H1 locs1 → H1[q9]? = some ce → ce.vm = .none → s.vm.findClass E = some ce.cls → vx_W p l e R s m args below meth c H1 locs1 (cells + mc) (slots + ms) Q (F0 m pc ls rest) q9)
    (kk : ∀ (r : Int64) (u : S) (t : State) (H1 : Heap) (locs1 : List Loc), t.heap = H1 → s.vm.Alike t.vm → post r u → B u t → H.size ≤ H1.size → (∀ q : Nat, q < H.size → ¬ A1 q → H1[q]? = H[q]?) → va_S A0 H0 H1 locs1 → W p l e R s m args below meth c H1 locs1 (cells + mc) (slots + ms) Q (F0 m (pc + 3) ls (.long r :: rest))) : W p l e R s m args below meth c H locs cells slots Q (F0 m pc ls st0) := by
  intro T hT X
  rcases hr T hT X with ⟨v, st₀, t, T', L, h0, X', hL, e1, e2, ⟨⟨r, u, hv, hp, hb⟩, hF⟩, st⟩ | ⟨q, st₀, t, T', L, E, ce, h0, X', hL, e1, e2, ⟨u, hp, hb, hF⟩, hce, hcv, hcl, st⟩
  · cases hv
    obtain ⟨k1, k2, k3⟩ := vx_keep h0 e1 hS hA hf hL hF
    obtain ⟨t2, a1, b1⟩ := kk r u t T'.heap (locs ++ L) e1.symm (by rw [← e2]; exact X'.warmed.alike) hp hb k1 k2 k3 T' rfl X'
    exact ⟨t2, st t2 a1, b1⟩
  · obtain ⟨k1, k2, k3⟩ := vx_keep h0 e1 hS hAX hf hL hF
    obtain ⟨t2, a1, b1⟩ := kx E ce q u t T'.heap (locs ++ L) e1.symm (by rw [← e2]; exact X'.warmed.alike) hp hb k1 k2 k3 (by rw [e1]; exact hce) hcv hcl T' rfl X'
    exact ⟨t2, st.trans a1, b1⟩
theorem vx_callf {S SX : Type} {post : UInt32 → S → Prop} {px : SX → Prop} {B : S → State → Prop} {BX : String → SX → State → Prop} {AX : Nat → Prop} (hr : vx_Run p l e R s m args below meth c H locs cells slots mc ms (F0 m pc ls st0) rest (va_Qf post B A1 a) (vx_X px BX AX) free) (hS : va_S A0 H0 H locs) (hA : ∀ q, q < H.size → A1 q → A0 q) (hf : ∀ q, free q → A0 q) (hAX : ∀ q, q < H.size → AX q → A0 q)
    (kx : ∀ (E : String) (ce : Cell) (q9 : Addr) (u : SX) (t : State) (H1 : Heap) (locs1 : List Loc), t.heap = H1 → s.vm.Alike t.vm → px u → BX E u t → H.size ≤ H1.size → (∀ q : Nat, q < H.size → ¬ AX q → H1[q]? = H[q]?) → va_S A0 H0 H1 locs1 → H1[q9]? = some ce → ce.vm = .none → s.vm.findClass E = some ce.cls → vx_W p l e R s m args below meth c H1 locs1 (cells + mc) (slots + ms) Q (F0 m pc ls rest) q9)
    (kk : ∀ (r : UInt32) (u : S) (t : State) (H1 : Heap) (locs1 : List Loc), t.heap = H1 → s.vm.Alike t.vm → post r u → B u t → H.size ≤ H1.size → (∀ q : Nat, q < H.size → ¬ A1 q → H1[q]? = H[q]?) → va_S A0 H0 H1 locs1 → W p l e R s m args below meth c H1 locs1 (cells + mc) (slots + ms) Q (F0 m (pc + 3) ls (.float r :: rest))) : W p l e R s m args below meth c H locs cells slots Q (F0 m pc ls st0) := by
  intro T hT X
  rcases hr T hT X with ⟨v, st₀, t, T', L, h0, X', hL, e1, e2, ⟨⟨r, u, hv, hp, hb⟩, hF⟩, st⟩ | ⟨q, st₀, t, T', L, E, ce, h0, X', hL, e1, e2, ⟨u, hp, hb, hF⟩, hce, hcv, hcl, st⟩
  · cases hv
    obtain ⟨k1, k2, k3⟩ := vx_keep h0 e1 hS hA hf hL hF
    obtain ⟨t2, a1, b1⟩ := kk r u t T'.heap (locs ++ L) e1.symm (by rw [← e2]; exact X'.warmed.alike) hp hb k1 k2 k3 T' rfl X'
    exact ⟨t2, st t2 a1, b1⟩
  · obtain ⟨k1, k2, k3⟩ := vx_keep h0 e1 hS hAX hf hL hF
    obtain ⟨t2, a1, b1⟩ := kx E ce q u t T'.heap (locs ++ L) e1.symm (by rw [← e2]; exact X'.warmed.alike) hp hb k1 k2 k3 (by rw [e1]; exact hce) hcv hcl T' rfl X'
    exact ⟨t2, st.trans a1, b1⟩
theorem vx_calld {S SX : Type} {post : UInt64 → S → Prop} {px : SX → Prop} {B : S → State → Prop} {BX : String → SX → State → Prop} {AX : Nat → Prop} (hr : vx_Run p l e R s m args below meth c H locs cells slots mc ms (F0 m pc ls st0) rest (va_Qd post B A1 a) (vx_X px BX AX) free) (hS : va_S A0 H0 H locs) (hA : ∀ q, q < H.size → A1 q → A0 q) (hf : ∀ q, free q → A0 q) (hAX : ∀ q, q < H.size → AX q → A0 q)
    (kx : ∀ (E : String) (ce : Cell) (q9 : Addr) (u : SX) (t : State) (H1 : Heap) (locs1 : List Loc), t.heap = H1 → s.vm.Alike t.vm → px u → BX E u t → H.size ≤ H1.size → (∀ q : Nat, q < H.size → ¬ AX q → H1[q]? = H[q]?) → va_S A0 H0 H1 locs1 → H1[q9]? = some ce → ce.vm = .none → s.vm.findClass E = some ce.cls → vx_W p l e R s m args below meth c H1 locs1 (cells + mc) (slots + ms) Q (F0 m pc ls rest) q9)
    (kk : ∀ (r : UInt64) (u : S) (t : State) (H1 : Heap) (locs1 : List Loc), t.heap = H1 → s.vm.Alike t.vm → post r u → B u t → H.size ≤ H1.size → (∀ q : Nat, q < H.size → ¬ A1 q → H1[q]? = H[q]?) → va_S A0 H0 H1 locs1 → W p l e R s m args below meth c H1 locs1 (cells + mc) (slots + ms) Q (F0 m (pc + 3) ls (.double r :: rest))) : W p l e R s m args below meth c H locs cells slots Q (F0 m pc ls st0) := by
  intro T hT X
  rcases hr T hT X with ⟨v, st₀, t, T', L, h0, X', hL, e1, e2, ⟨⟨r, u, hv, hp, hb⟩, hF⟩, st⟩ | ⟨q, st₀, t, T', L, E, ce, h0, X', hL, e1, e2, ⟨u, hp, hb, hF⟩, hce, hcv, hcl, st⟩
  · cases hv
    obtain ⟨k1, k2, k3⟩ := vx_keep h0 e1 hS hA hf hL hF
    obtain ⟨t2, a1, b1⟩ := kk r u t T'.heap (locs ++ L) e1.symm (by rw [← e2]; exact X'.warmed.alike) hp hb k1 k2 k3 T' rfl X'
    exact ⟨t2, st t2 a1, b1⟩
  · obtain ⟨k1, k2, k3⟩ := vx_keep h0 e1 hS hAX hf hL hF
    obtain ⟨t2, a1, b1⟩ := kx E ce q u t T'.heap (locs ++ L) e1.symm (by rw [← e2]; exact X'.warmed.alike) hp hb k1 k2 k3 (by rw [e1]; exact hce) hcv hcl T' rfl X'
    exact ⟨t2, st.trans a1, b1⟩
theorem vx_callv {S SX : Type} {post : S → Prop} {px : SX → Prop} {B : S → State → Prop} {BX : String → SX → State → Prop} {AX : Nat → Prop} (hr : vx_Run p l e R s m args below meth c H locs cells slots mc ms (F0 m pc ls st0) rest (va_Qv post B A1 a) (vx_X px BX AX) free) (hS : va_S A0 H0 H locs) (hA : ∀ q, q < H.size → A1 q → A0 q) (hf : ∀ q, free q → A0 q) (hAX : ∀ q, q < H.size → AX q → A0 q)
    (kx : ∀ (E : String) (ce : Cell) (q9 : Addr) (u : SX) (t : State) (H1 : Heap) (locs1 : List Loc), t.heap = H1 → s.vm.Alike t.vm → px u → BX E u t → H.size ≤ H1.size → (∀ q : Nat, q < H.size → ¬ AX q → H1[q]? = H[q]?) → va_S A0 H0 H1 locs1 → H1[q9]? = some ce → ce.vm = .none → s.vm.findClass E = some ce.cls → vx_W p l e R s m args below meth c H1 locs1 (cells + mc) (slots + ms) Q (F0 m pc ls rest) q9)
    (kk : ∀ (u : S) (t : State) (H1 : Heap) (locs1 : List Loc), t.heap = H1 → s.vm.Alike t.vm → post u → B u t → H.size ≤ H1.size → (∀ q : Nat, q < H.size → ¬ A1 q → H1[q]? = H[q]?) → va_S A0 H0 H1 locs1 → W p l e R s m args below meth c H1 locs1 (cells + mc) (slots + ms) Q (F0 m (pc + 3) ls (rest))) : W p l e R s m args below meth c H locs cells slots Q (F0 m pc ls st0) := by
  intro T hT X
  rcases hr T hT X with ⟨v, st₀, t, T', L, h0, X', hL, e1, e2, ⟨⟨u, hv, hp, hb⟩, hF⟩, st⟩ | ⟨q, st₀, t, T', L, E, ce, h0, X', hL, e1, e2, ⟨u, hp, hb, hF⟩, hce, hcv, hcl, st⟩
  · cases hv
    obtain ⟨k1, k2, k3⟩ := vx_keep h0 e1 hS hA hf hL hF
    obtain ⟨t2, a1, b1⟩ := kk u t T'.heap (locs ++ L) e1.symm (by rw [← e2]; exact X'.warmed.alike) hp hb k1 k2 k3 T' rfl X'
    exact ⟨t2, st t2 a1, b1⟩
  · obtain ⟨k1, k2, k3⟩ := vx_keep h0 e1 hS hAX hf hL hF
    obtain ⟨t2, a1, b1⟩ := kx E ce q u t T'.heap (locs ++ L) e1.symm (by rw [← e2]; exact X'.warmed.alike) hp hb k1 k2 k3 (by rw [e1]; exact hce) hcv hcl T' rfl X'
    exact ⟨t2, st.trans a1, b1⟩
/-- caught by the row x of this method's table; the rows ahead don't take it -/
theorem vx_catch {own name : String} {E : String} {ce : Cell} {q : Addr} (hown : s.vm.findClass own = some m.cls) (pre : List ExceptionTableEntry) (x : ExceptionTableEntry) (suf : List ExceptionTableEntry) (hsplit : c.exceptionTable.toList = pre ++ x :: suf)
    (hpass : ∀ z ∈ pre, covers z pc = false ∨ (z.catchType ≠ 0 ∧ ∃ nm : String, (Cond.classLink own z.catchType nm).before args s = true ∧ va_Nc E nm s)) (hx : covers x pc = true) (h0 : x.catchType ≠ 0)
    (hlink : (Cond.classLink own x.catchType name).before args s = true) (hcast : (Cond.castable E name).before args s = true) (hcell : H[q]? = some ce) (hv : ce.vm = .none) (hcl : s.vm.findClass E = some ce.cls)
    (kk : W p l e R s m args below meth c H locs cells slots Q (F0 m x.handlerPc ls [.ref q])) : vx_W p l e R s m args below meth c H locs cells slots Q (F0 m pc ls rest) q := by
  intro T hT X
  have hpl : e.platform.magicAccessors = ({} : Platform).magicAccessors := by rw [X.admits.platform]
  obtain ⟨c3, c4, hc3, hc4, hasg⟩ := Cond.castable_spec hcast
  cases Option.some.inj (hc3.symm.trans hcl)
  obtain ⟨c5, hc5, hcl5⟩ := Cond.classLink_spec hown hlink e.platform hpl
  cases Option.some.inj (hc4.symm.trans hc5)
  obtain ⟨vm', X', st⟩ := X.thenCaughtThrough q (g := F0 m pc ls rest) rfl (Steps.refl _) (by rw [hT]; exact hcell) (by rw [hv]; rfl) (by obtain ⟨k9, h9, -⟩ := Vm.findClass_spec hcl; exact ⟨k9, h9⟩) pre x suf hsplit
    (fun z hz => by
      rcases hpass z hz with h | ⟨hz0, nm, hl1, hn1⟩
      · exact Or.inl h
      · obtain ⟨c6, hc6, hcl6⟩ := Cond.classLink_spec hown hl1 e.platform hpl
        obtain ⟨a8, b8, h1, h2, h3⟩ := hn1
        cases Option.some.inj (h1.symm.trans hcl)
        cases Option.some.inj (h2.symm.trans hc6)
        exact Or.inr ⟨hz0, _, hcl6, h3⟩) hx (Or.inr ⟨h0, c4, hcl5, hasg⟩)
  obtain ⟨t, a1, b1⟩ := kk (T.setVm vm') hT X'
  exact ⟨t, st.trans a1, b1⟩
end Rows
section Ends
variable {p : Program} {l : Launch} {e : Env} {R : Room} {s : State} {m : MethodId} {args : Array Value} {below : List Frame} {meth : Method} {c : Code} {H : Heap} {locs : List Loc} {cells slots : Nat} {Q : State → Prop}
variable {mc ms : Nat} {free : Addr → Prop} {A0 A1 : Nat → Prop} {H0 : Heap} {a : Array Value} {ls : Array Slot} {st0 rest : List Value}
variable {Qc : Array Value → State → Outcome → State → Prop} {XC : String → State → State → Prop}
/-- what a body that may throw owes at its end -/
def vx_MQ (below : List Frame) (Qc : Array Value → State → Outcome → State → Prop) (XC : String → State → State → Prop) (a : Array Value) (s : State) (mc ms : Nat) (free : Addr → Prop) : State → Prop := fun t =>
  ∃ o, t.status = .running ∧ Ended t below o ∧ vx_Q Qc XC mc ms free a s o t
theorem vx_ret {g : JFrame} {mc ms : Nat} (k : W p l e R s m args below meth c H locs cells slots (MQ below Qc args s mc ms free) g) : W p l e R s m args below meth c H locs cells slots (vx_MQ below Qc XC args s mc ms free) g := by
  intro T hT X
  obtain ⟨t, a1, o, b1, b2, b3, b4⟩ := k T hT X
  exact ⟨t, a1, o, b1, b2, Or.inl ⟨b3, b4⟩⟩
/-- not caught here: it goes on to the caller -/
theorem vx_widen {g : JFrame} {q : Addr} {k n : Nat} (h1 : cells ≤ k) (h2 : slots ≤ n) (kk : vx_W p l e R s m args below meth c H locs k n Q g q) : vx_W p l e R s m args below meth c H locs cells slots Q g q := fun T hT X => kk T hT (stand_widen X h1 h2)
theorem vx_out {pc : Nat} {E : String} {ce : Cell} {q : Addr} {mc ms : Nat} (hout : ∀ x ∈ c.exceptionTable.toList, covers x pc = false) (hlocks : meth.locks = false) (hcell : H[q]? = some ce) (hv : ce.vm = .none) (hcl : s.vm.findClass E = some ce.cls)
    (hx : ∀ t : State, t.heap = H → s.vm.Alike t.vm → XC E s t) (hf : ∀ z ∈ locs, free z.base) (hc : cells ≤ mc) (hs : slots ≤ ms) :
    vx_W p l e R s m args below meth c H locs cells slots (vx_MQ below Qc XC args s mc ms free) (F0 m pc ls rest) q := by
  intro T hT X
  obtain ⟨st1, hrun, hend, hW, hsm⟩ := X.leaveThrown q (g := F0 m pc ls rest) rfl rfl rfl hout hlocks
  have hcell9 : (T.setFrames (.throwing q :: below)).heap[q]? = some ce := by
    show T.heap[q]? = some ce
    rw [hT]; exact hcell
  exact ⟨_, st1, .threw q, hrun, hend, Or.inr ⟨q, rfl, E, ce, locs, hx _ hT hW.alike, hcell9, hv, hcl, hW, hsm.mono hc hs, hf⟩⟩
theorem vx_frame {U : State} {k n : Nat} (h : s.sameButNew ({ U with vm := s.vm } : State) locs k n) : s.heap.size ≤ U.heap.size ∧ ∀ q : Nat, q < s.heap.size → (∀ z ∈ locs, z.base ≠ q) → U.heap[q]? = s.heap[q]? := by
  obtain ⟨-, h2, -, -, -, h6⟩ := h
  refine ⟨h2, fun q hq hz => ?_⟩
  obtain ⟨c9, e1, e2, e3, e4⟩ := h6 q _ (Array.getElem?_eq_getElem hq)
  have hs : c9.slots = (s.heap[q]).slots := Array.ext_getElem? fun i => e4 i fun hm => hz _ hm rfl
  have h9 : c9 = s.heap[q] := by
    rw [hs] at e2
    exact e2
  have e5 : U.heap[q]? = some c9 := e1
  rw [e5, h9, Array.getElem?_eq_getElem hq]
/-- the words of a throw but the four that speak of the heap -/
def vx_no (w : Cond) : Bool := decide (w ≠ .isRef (.static Bundle.tN "UNASSIGNED_STACK" Bundle.steD)) && decide (w ≠ .isRef (.static Bundle.tN "SUPPRESSED_SENTINEL" Bundle.listD)) && decide (w ≠ .laysStatic Bundle.tN "UNASSIGNED_STACK" Bundle.steD) && decide (w ≠ .laysStatic Bundle.tN "SUPPRESSED_SENTINEL" Bundle.listD)
def vx_at0 (own : String) (ic : Nat) (X : String) (names : List String) : List Cond := (Bundle.ownAtoms0 own ic X names).filter vx_no
def vx_atS (own : String) (ic : Nat) (X : String) (names : List String) : List Cond := (Bundle.ownAtoms own ic X names).filter vx_no
/-- a word that the tables alone decide, or a good one -/
def vx_ot (w : Cond) : Bool := w.onTables || goodWord w
theorem vx_ot_at {args a' : Array Value} {s U : State} {w : Cond} (hW : s.WarmedH U.vm) (hvm : s.vm = U.vm) (hg : vx_ot w = true) (h : w.before args s = true) : w.before a' U = true := by
  simp only [vx_ot, Bool.or_eq_true] at hg
  rcases hg with hg | hg
  · exact va_tabs hg hvm h
  · exact word_at hW (good_of_word hg) h
/-- a list's words: the good ones out of the method's own list, the others by premises of their own -/
theorem vx_hat {args : Array Value} {s : State} {L B : List Cond} (h1 : ∀ w ∈ L.filter goodWord, w.before args s = true) (h2 : ∀ w ∈ L.filter (fun w => !goodWord w), w ∈ B) (h3 : ∀ w ∈ B, w.before args s = true) : ∀ w ∈ L, w.before args s = true := by
  intro w hw
  by_cases g : goodWord w = true
  · exact h1 w (List.mem_filter.mpr ⟨hw, g⟩)
  · refine h3 w (h2 w (List.mem_filter.mpr ⟨hw, ?_⟩))
    show (!goodWord w) = true
    cases hgw : goodWord w
    · rfl
    · exact absurd hgw g
theorem vx_c {args : Array Value} {s : State} {w : Cond} {B : List Cond} (h : w.before args s = true) (t : ∀ w ∈ B, w.before args s = true) : ∀ w' ∈ w :: B, w'.before args s = true := fun w' h' => (List.mem_cons.mp h').elim (fun e => by rw [e]; exact h) (t w')
theorem vx_n {args : Array Value} {s : State} : ∀ w ∈ ([] : List Cond), w.before args s = true := fun _ h => nomatch h
theorem vx_own {args : Array Value} {s : State} {L : List Cond} (h1 : ∀ w ∈ L.filter vx_no, w.before args s = true)
    (hU : (Cond.isRef (.static Bundle.tN "UNASSIGNED_STACK" Bundle.steD)).before args s = true) (hN : (Cond.isRef (.static Bundle.tN "SUPPRESSED_SENTINEL" Bundle.listD)).before args s = true)
    (lU : (Cond.laysStatic Bundle.tN "UNASSIGNED_STACK" Bundle.steD).before args s = true) (lN : (Cond.laysStatic Bundle.tN "SUPPRESSED_SENTINEL" Bundle.listD).before args s = true) : ∀ w ∈ L, w.before args s = true := by
  intro w hw
  by_cases e1 : w = .isRef (.static Bundle.tN "UNASSIGNED_STACK" Bundle.steD)
  · rw [e1]; exact hU
  · by_cases e2 : w = .isRef (.static Bundle.tN "SUPPRESSED_SENTINEL" Bundle.listD)
    · rw [e2]; exact hN
    · by_cases e3 : w = .laysStatic Bundle.tN "UNASSIGNED_STACK" Bundle.steD
      · rw [e3]; exact lU
      · by_cases e4 : w = .laysStatic Bundle.tN "SUPPRESSED_SENTINEL" Bundle.listD
        · rw [e4]; exact lN
        · exact h1 w (List.mem_filter.mpr ⟨hw, by unfold vx_no; rw [decide_eq_true e1, decide_eq_true e2, decide_eq_true e3, decide_eq_true e4]; rfl⟩)
/-- where a static field lies, its class's statics cell in H -/
def vx_L (C n d : String) (A : Nat → Prop) (U : State) (H : Heap) : Prop := ∃ (c : ClassId) (k : Class) (i : Nat) (f : Field) (a : Nat) (cell : Cell), U.vm.findClass C = some c ∧ U.fieldFound? C n d = some (c, k, i, f) ∧ f.isStatic = true ∧ k.statics = some a ∧ H[a]? = some cell ∧ cell.vm.isStatics = true ∧ cell.cls = c ∧ f.slot < cell.slots.size ∧ k.staticTypes[f.slot]? = some f.type ∧ ¬ A a
theorem vx_L.moved {C n d : String} {A : Nat → Prop} {u U : State} {H : Heap} (hvm : u.vm.Alike U.vm) (h : vx_L C n d A u H) : vx_L C n d A U H := by
  obtain ⟨c, k, i, f, a, cell, h1, h2, h3, h4, h5, h6, h7, h8, h9, h10⟩ := h
  obtain ⟨k', hi', he⟩ := State.fieldFound?_setVm hvm h2
  exact ⟨c, k', i, f, a, cell, by rw [hvm.findClass]; exact h1, hi', h3, by rw [he]; exact h4, h5, h6, h7, h8, by rw [he]; exact h9, h10⟩
theorem vx_L.kept {C n d : String} {A : Nat → Prop} {U : State} {H H1 : Heap} (h : vx_L C n d A U H) (hq : ∀ a : Nat, a < H.size → ¬ A a → H1[a]? = H[a]?) : vx_L C n d A U H1 := by
  obtain ⟨c, k, i, f, a, cell, h1, h2, h3, h4, h5, h6, h7, h8, h9, h10⟩ := h
  exact ⟨c, k, i, f, a, cell, h1, h2, h3, h4, by rw [hq a (Array.getElem?_eq_some_iff.mp h5).1 h10]; exact h5, h6, h7, h8, h9, h10⟩
theorem vx_L.narrow {C n d : String} {A B : Nat → Prop} {U : State} {H : Heap} (h : vx_L C n d A U H) (hAB : ∀ q, B q → A q) : vx_L C n d B U H := by
  obtain ⟨c, k, i, f, a, cell, h1, h2, h3, h4, h5, h6, h7, h8, h9, h10⟩ := h
  exact ⟨c, k, i, f, a, cell, h1, h2, h3, h4, h5, h6, h7, h8, h9, fun z => h10 (hAB _ z)⟩
theorem vx_L.word {C n d : String} {A : Nat → Prop} {s : State} {args : Array Value} (h : vx_L C n d A s s.heap) : (Cond.laysStatic C n d).before args s = true := by
  obtain ⟨c, k, i, f, a, cell, h1, h2, h3, h4, h5, h6, h7, h8, h9, -⟩ := h
  show (Cond.laysStatic C n d).holds args s none s [] = true
  exact Cond.laysStatic_of h1 h2 h3 h4 h5 h6 h7 h8 h9
/-- .. and what it holds: null or some reference -/
def vx_Zq (C n d : String) (A : Nat → Prop) (U : State) (H : Heap) : Prop := va_Zq C n d A U H ∧ vx_L C n d A U H
theorem vx_Zq.moved {C n d : String} {A : Nat → Prop} {u U : State} {H : Heap} (hvm : u.vm.Alike U.vm) (h : vx_Zq C n d A u H) : vx_Zq C n d A U H := ⟨va_Zq.moved hvm h.1, vx_L.moved hvm h.2⟩
theorem vx_Zq.kept {C n d : String} {A : Nat → Prop} {U : State} {H H1 : Heap} (h : vx_Zq C n d A U H) (hq : ∀ a : Nat, a < H.size → ¬ A a → H1[a]? = H[a]?) : vx_Zq C n d A U H1 := ⟨va_Zq.kept h.1 hq, vx_L.kept h.2 hq⟩
theorem vx_Zq.narrow {C n d : String} {A B : Nat → Prop} {U : State} {H : Heap} (h : vx_Zq C n d A U H) (hAB : ∀ q, B q → A q) : vx_Zq C n d B U H := ⟨va_Zq.narrow h.1 hAB, vx_L.narrow h.2 hAB⟩
theorem vx_Zqof {args : Array Value} {s : State} {C n d : String} {A : Nat → Prop} (hl : (Cond.laysStatic C n d).before args s = true) (hini : (Cond.initialized C).before args s = true) (h : (Cond.isRef (.static C n d)).before args s = true) (hA : ∀ a : Nat, a < s.heap.size → ¬ A a) : vx_Zq C n d A s s.heap := by
  refine ⟨va_Zqof hl hini h hA, ?_⟩
  obtain ⟨c, k, i, f, a, cell, h1, h2, h3, h4, h5, h6, h7, h8, h9⟩ := Cond.laysStatic_spec hl
  exact ⟨c, k, i, f, a, cell, h1, h2, h3, h4, h5, h6, h7, h8, h9, hA a (Array.getElem?_eq_some_iff.mp h5).1⟩
theorem vx_isRef {C n d : String} {v : Value} {A : Nat → Prop} {s : State} {args : Array Value} (h : va_Z C n d v A s s.heap) (hv : v.isRef = true) : (Cond.isRef (.static C n d)).before args s = true := by
  obtain ⟨cf, kf, fi, f, a, cell, h1, h2, h3, h4, h5, h6, h7, -⟩ := h
  have he : (Term.static C n d).eval args s none [] s = some v := by
    simp [Term.eval, State.fieldNamed?, h1, h2, h4, h5, h6, h7]
  simp only [Cond.before, Cond.holds, Cond.value, he]
  cases v <;> simp_all [Value.isRef]
theorem vx_isRefq {C n d : String} {A : Nat → Prop} {s : State} {args : Array Value} (h : va_Zq C n d A s s.heap) : (Cond.isRef (.static C n d)).before args s = true := by
  rcases h with h | ⟨t, h⟩
  · exact vx_isRef h rfl
  · exact vx_isRef h rfl
/-- the same frame, seen from here: as if the method were called anew in this heap -/
theorem vx_rebase {T : State} (X : Stand p l e R s m args below meth c T locs cells slots) {R' : Room} (hf : R'.frames ≤ R.frames) (hl : R'.locals ≤ R.locals) (hc : cells + R'.cells ≤ R.cells) (hs : slots + R'.slots ≤ R.slots) :
    Stand p l e R' ((T.setVm s.vm).setFrames (.invoking m args :: below)) m args below meth c T [] 0 0 := by
  have htop : (T.setVm s.vm).topJava?.isSome := X.here.top
  have hF : ((T.setVm s.vm).setFrames (.invoking m args :: below)).frames = .invoking m args :: below := State.frames_setFrames _ (State.cur_lt_of_top htop)
  obtain ⟨g₀, hg0⟩ := Option.isSome_iff_exists.mp htop
  obtain ⟨r, hr⟩ := State.topJava?_eq_some.mp hg0
  have hl9 : e.platform.stackLimits (T.setVm s.vm).me = e.platform.stackLimits s.me := X.limits
  have hb9 : (T.setVm s.vm).me.stackBytes = s.me.stackBytes := X.bytes
  refine ⟨X.admits, X.cas, X.clock, hF, ?_, X.hears, X.method, X.code, X.here, X.tail, X.warmed, ?_, ?_, ?_⟩
  · have h := X.room
    have hU : ((T.setVm s.vm).setFrames (.invoking m args :: below)).localsInUse = s.localsInUse := by
      rw [State.localsInUse_invoking hF (meth := meth) (c := c) X.method X.code, State.localsInUse_invoking X.frames X.method X.code]
    simp only [State.hasRoom, Bool.and_eq_true, decide_eq_true_eq] at h ⊢
    obtain ⟨⟨⟨⟨h1, h2, h3, h4, h5, h6⟩, h7⟩, h8⟩, h9⟩ := h
    rw [X.frames, List.length_cons] at h2 h3
    have q1 := X.heapSize
    have q2 := X.used
    simp only [hF, hU, List.length_cons, State.stackLimits_setFrames, State.stackBytes_setFrames, hl9, hb9]
    refine ⟨⟨⟨⟨by omega, by omega, by omega, by omega, by omega, h6⟩, ?_⟩, ?_⟩, X.book⟩
    · show T.heap.size + R'.cells ≤ e.platform.maxCells
      omega
    · show T.slotsUsed + R'.slots ≤ e.platform.maxSlots
      omega
  · rw [State.stackLimits_setFrames]; rfl
  · rw [State.stackBytes_setFrames]; rfl
  · refine ⟨?_, Nat.le_refl _, Nat.le_refl _, ?_, ?_, fun a c9 h9 => ⟨c9, h9, rfl, rfl, fun _ _ => rfl⟩⟩
    · obtain ⟨t, ht, -⟩ := State.frames_cons hr
      show T.setVm s.vm = { ((T.setVm s.vm).setFrames (.invoking m args :: below)).setFrames (T.setVm s.vm).frames with heap := T.heap, slotsUsed := T.slotsUsed }
      rw [State.setFrames_setFrames, State.setFrames_self ht]
      rfl
    · show T.slotsUsed = T.slotsUsed + ((T.heap.toList.drop T.heap.size).map (·.slots.size)).sum
      rw [List.drop_eq_nil_of_le (Nat.le_of_eq Array.length_toList)]
      rfl
    · show ((T.heap.toList.drop T.heap.size).map (·.slots.size)).sum ≤ 0
      rw [List.drop_eq_nil_of_le (Nat.le_of_eq Array.length_toList)]
      exact Nat.le_refl _
/-- 'throw new E()': new; dup; invokespecial; athrow -/
theorem vx_throw0 {cc : ByteArray} {pc : Nat} (hexec : p.tables.exec = Jvm.exec) (hb : c.code = cc) (hl : l.stackTraces = false) {own cls : String} {names : List String} {ik ic mc ms : Nat} {A : Nat → Prop}
    (hown : s.vm.findClass own = some m.cls) (hcls : Bundle.fit cls = true) (hnames : ∀ n ∈ names, Bundle.fit n = true)
    (hk : (Cond.classLink own ik cls).before args s = true) (hini : (Cond.initialized cls).before args s = true) (hat : ∀ w ∈ vx_at0 own ic cls names, w.before args s = true)
    (hgood : ∀ w ∈ Cond.classLink own ik cls :: Cond.initialized cls :: vx_at0 own ic cls names, vx_ot w = true)
    (hU : vx_Zq Bundle.tN "UNASSIGNED_STACK" Bundle.steD A s s.heap) (hN : vx_Zq Bundle.tN "SUPPRESSED_SENTINEL" Bundle.listD A s s.heap) (hS : va_S A s.heap H locs) (hsize : ls.size = c.maxLocals)
    (d0 : decode cc pc = .ok (.new ik, 3)) (d3 : decode cc (pc + 3) = .ok (.dup, 1)) (d4 : decode cc (pc + 4) = .ok (.invokespecial ic, 3)) (d7 : decode cc (pc + 7) = .ok (.athrow, 1))
    (hout : ∀ x ∈ c.exceptionTable.toList, covers x (pc + 7) = false)
    (hRframes : names.length + 3 < R.frames) (hRlocals : (rest.map fun v => v.category).sum + (13 * (names.length + 1) + 42) ≤ R.locals) (hRcells : cells + 1 ≤ R.cells) (hRslots : slots + 6 ≤ R.slots) (hlocks : meth.locks = false)
    (hx : ∀ t : State, s.vm.Alike t.vm → H.size ≤ t.heap.size → (∀ q : Nat, q < H.size → t.heap[q]? = H[q]?) → XC cls s t)
    (hf : ∀ z ∈ locs, free z.base) (hc : cells + 1 ≤ mc) (hs : slots + 6 ≤ ms) :
    W p l e R s m args below meth c H locs cells slots (vx_MQ below Qc XC args s mc ms free) (F0 m pc ls rest) := by
  intro T hT X
  have htr : e.platform.stackTraces = false := (show e.platform.stackTraces = l.stackTraces by rw [X.admits.platform]).trans hl
  have Y := vx_rebase X (R' := { frames := R.frames, locals := R.locals, cells := 1, slots := 6 }) (Nat.le_refl _) (Nat.le_refl _) hRcells hRslots
  obtain ⟨s', hA⟩ : ∃ z, z = (T.setVm s.vm).setFrames (.invoking m args :: below) := ⟨_, rfl⟩
  rw [← hA] at Y
  have hvm : s'.vm = s.vm := by rw [hA]; rfl
  have hhp : s'.heap = H := by rw [hA]; exact hT
  have hW0 : s.WarmedH s'.vm := by rw [hvm]; exact State.WarmedH.refl s
  have hat' : ∀ w ∈ vx_at0 own ic cls names, w.before args s' = true := fun w hw => vx_ot_at hW0 hvm.symm (hgood w (List.mem_cons_of_mem _ (List.mem_cons_of_mem _ hw))) (hat w hw)
  have hk' : (Cond.classLink own ik cls).before args s' = true := vx_ot_at hW0 hvm.symm (hgood _ List.mem_cons_self) hk
  have hini' : (Cond.initialized cls).before args s' = true := vx_ot_at hW0 hvm.symm (hgood _ (List.mem_cons_of_mem _ List.mem_cons_self)) hini
  have hU' : vx_Zq Bundle.tN "UNASSIGNED_STACK" Bundle.steD A s' s'.heap := by rw [hhp]; exact vx_Zq.moved hW0.alike (hU.kept hS.2.1)
  have hN' : vx_Zq Bundle.tN "SUPPRESSED_SENTINEL" Bundle.listD A s' s'.heap := by rw [hhp]; exact vx_Zq.moved hW0.alike (hN.kept hS.2.1)
  have h : ∀ w ∈ Bundle.ownAtoms0 own ic cls names, w.before args s' = true := vx_own hat' (vx_isRefq hU'.1) (vx_isRefq hN'.1) hU'.2.word hN'.2.word
  have hown' : s'.vm.findClass own = some m.cls := by rw [hvm]; exact hown
  have hins : (Cond.instantiable cls 6).before args s' = true := h _ (by simp [Bundle.ownAtoms0])
  obtain ⟨vm₁, cX, kX, hfX, hkX, -, -, X₁, st1⟩ := Y.newCold hexec (own := own) (C := cls) (index := ik) (n := 6) hown' hk' hins hini'
    (g := F0 m pc ls rest) rfl (by rw [hb]; exact d0) (Nat.le_refl _) (Nat.le_refl _)
  generalize hT1 : (T.setVm vm₁).pushCell { cls := cX, slots := kX.instanceTypes.map defaultValue, vm := .none } = T1 at X₁ st1
  have hcat : (Value.ref T.heap.size).category = 1 := rfl
  have hcellA : T1.heap[T.heap.size]? = some (freshCell cX kX) := by rw [← hT1]; exact State.heap_pushCell_size _ _
  have d3' : decode c.code (pc + 3) = .ok (.dup, 1) := by rw [hb]; exact d3
  obtain ⟨U, hsteps, hrun, hend, hW, hsame, ce, hce, hO⟩ := X₁.ctorThrow0 hexec htr (own := own) (cls := cls) (names := names) (ic := ic) hown' hcls hnames h (fun x hx => nomatch hx) hfX hkX hcellA (by rw [hhp, hT]; exact Nat.le_refl _)
    (g := { method := m, pc := pc + 4, locals := ls, stack := .ref T.heap.size :: .ref T.heap.size :: rest, locked := none }) rfl hsize rfl rfl (rest := rest) rfl
    (by rw [hb]; exact d4) (by rw [hb]; exact d7) hout hRframes (by simp only [List.map_cons, List.sum_cons, hcat]; omega) hlocks
  obtain ⟨f1, f2⟩ := vx_frame hsame
  rw [hhp] at f1 f2
  have hWs : s.WarmedH U.vm := State.WarmedH.trans hW0 hW
  have hcl : s.vm.findClass cls = some ce.cls := by
    have h9 := hO.cls
    rw [hvm] at h9
    exact h9
  have hall : s.sameButNew ({ U with vm := s.vm } : State) locs mc ms := by
    subst hA
    obtain ⟨e1, e2⟩ := hsame
    rw [State.setFrames_setFrames] at e1
    have h2 : (T.setVm s.vm).sameButNew ({ U with vm := s.vm } : State) [] (0 + 1) (0 + 6) := ⟨e1, e2⟩
    have h3 := X.same.trans h2
    rw [List.append_nil] at h3
    exact h3.mono hc hs
  refine ⟨U, ?_, .threw T.heap.size, hrun, hend, Or.inr ⟨T.heap.size, rfl, cls, ce, locs, hx U hWs.alike f1 (fun q hq => f2 q hq (fun z hz => nomatch hz)), hce, hO.vm, hcl, hWs, hall, hf⟩⟩
  refine st1 _ ?_
  show Steps p.tables e below (T1.setTop { method := m, pc := pc + 3, locals := ls, stack := .ref T.heap.size :: rest, locked := none }) _
  jvm_step X₁.here [X₁.here.top, hexec, d3', Value.category]
  exact hsteps
/-- 'throw new E("text")': new; dup; ldc; invokespecial; athrow -/
theorem vx_throwS {cc : ByteArray} {pc : Nat} (hexec : p.tables.exec = Jvm.exec) (hb : c.code = cc) (hl : l.stackTraces = false) {own cls text : String} {names : List String} {ik is ic mc ms sa : Nat} {A : Nat → Prop}
    (hown : s.vm.findClass own = some m.cls) (hcls : Bundle.fit cls = true) (hnames : ∀ n ∈ names, Bundle.fit n = true)
    (hk : (Cond.classLink own ik cls).before args s = true) (hini : (Cond.initialized cls).before args s = true) (hstr : vk_R own is text sa s) (hat : ∀ w ∈ vx_atS own ic cls names, w.before args s = true)
    (hgood : ∀ w ∈ Cond.classLink own ik cls :: Cond.initialized cls :: vx_atS own ic cls names, vx_ot w = true)
    (hU : vx_Zq Bundle.tN "UNASSIGNED_STACK" Bundle.steD A s s.heap) (hN : vx_Zq Bundle.tN "SUPPRESSED_SENTINEL" Bundle.listD A s s.heap) (hS : va_S A s.heap H locs) (hsize : ls.size = c.maxLocals)
    (d0 : decode cc pc = .ok (.new ik, 3)) (d3 : decode cc (pc + 3) = .ok (.dup, 1)) (d4 : decode cc (pc + 4) = .ok (.ldc is, 2)) (d6 : decode cc (pc + 6) = .ok (.invokespecial ic, 3)) (d9 : decode cc (pc + 9) = .ok (.athrow, 1))
    (hout : ∀ x ∈ c.exceptionTable.toList, covers x (pc + 9) = false)
    (hRframes : names.length + 3 < R.frames) (hRlocals : (rest.map fun v => v.category).sum + (13 * (names.length + 1) + 43) ≤ R.locals) (hRcells : cells + 1 ≤ R.cells) (hRslots : slots + 6 ≤ R.slots) (hlocks : meth.locks = false)
    (hx : ∀ t : State, s.vm.Alike t.vm → H.size ≤ t.heap.size → (∀ q : Nat, q < H.size → t.heap[q]? = H[q]?) → XC cls s t)
    (hf : ∀ z ∈ locs, free z.base) (hc : cells + 1 ≤ mc) (hs : slots + 6 ≤ ms) :
    W p l e R s m args below meth c H locs cells slots (vx_MQ below Qc XC args s mc ms free) (F0 m pc ls rest) := by
  intro T hT X
  have htr : e.platform.stackTraces = false := (show e.platform.stackTraces = l.stackTraces by rw [X.admits.platform]).trans hl
  have Y := vx_rebase X (R' := { frames := R.frames, locals := R.locals, cells := 1, slots := 6 }) (Nat.le_refl _) (Nat.le_refl _) hRcells hRslots
  obtain ⟨s', hA⟩ : ∃ z, z = (T.setVm s.vm).setFrames (.invoking m args :: below) := ⟨_, rfl⟩
  rw [← hA] at Y
  have hvm : s'.vm = s.vm := by rw [hA]; rfl
  have hhp : s'.heap = H := by rw [hA]; exact hT
  have hW0 : s.WarmedH s'.vm := by rw [hvm]; exact State.WarmedH.refl s
  have hat' : ∀ w ∈ vx_atS own ic cls names, w.before args s' = true := fun w hw => vx_ot_at hW0 hvm.symm (hgood w (List.mem_cons_of_mem _ (List.mem_cons_of_mem _ hw))) (hat w hw)
  have hk' : (Cond.classLink own ik cls).before args s' = true := vx_ot_at hW0 hvm.symm (hgood _ List.mem_cons_self) hk
  have hini' : (Cond.initialized cls).before args s' = true := vx_ot_at hW0 hvm.symm (hgood _ (List.mem_cons_of_mem _ List.mem_cons_self)) hini
  have hU' : vx_Zq Bundle.tN "UNASSIGNED_STACK" Bundle.steD A s' s'.heap := by rw [hhp]; exact vx_Zq.moved hW0.alike (hU.kept hS.2.1)
  have hN' : vx_Zq Bundle.tN "SUPPRESSED_SENTINEL" Bundle.listD A s' s'.heap := by rw [hhp]; exact vx_Zq.moved hW0.alike (hN.kept hS.2.1)
  have h : ∀ w ∈ Bundle.ownAtoms own ic cls names, w.before args s' = true := vx_own hat' (vx_isRefq hU'.1) (vx_isRefq hN'.1) hU'.2.word hN'.2.word
  have hown' : s'.vm.findClass own = some m.cls := by rw [hvm]; exact hown
  have hins : (Cond.instantiable cls 6).before args s' = true := h _ (by simp [Bundle.ownAtoms])
  obtain ⟨vm₁, cX, kX, hfX, hkX, -, -, X₁, st1⟩ := Y.newCold hexec (own := own) (C := cls) (index := ik) (n := 6) hown' hk' hins hini'
    (g := F0 m pc ls rest) rfl (by rw [hb]; exact d0) (Nat.le_refl _) (Nat.le_refl _)
  generalize hT1 : (T.setVm vm₁).pushCell { cls := cX, slots := kX.instanceTypes.map defaultValue, vm := .none } = T1 at X₁ st1
  have hcat : (Value.ref T.heap.size).category = 1 := rfl
  have hcellA : T1.heap[T.heap.size]? = some (freshCell cX kX) := by rw [← hT1]; exact State.heap_pushCell_size _ _
  have d3' : decode c.code (pc + 3) = .ok (.dup, 1) := by rw [hb]; exact d3
  have d4' : decode c.code (pc + 4) = .ok (.ldc is, 2) := by rw [hb]; exact d4
  have hstr' : vk_R own is text sa s' := vk_R.warm hW0 hstr
  obtain ⟨U, hsteps, hrun, hend, hW, hsame, ce, hce, hO⟩ := X₁.ctorThrowS hexec htr (own := own) (cls := cls) (names := names) (ic := ic) hown' hcls hnames h (fun x hx => nomatch hx) hfX hkX hcellA (by rw [hhp, hT]; exact Nat.le_refl _) (msg := .ref sa) rfl
    (g := { method := m, pc := pc + 6, locals := ls, stack := .ref sa :: .ref T.heap.size :: .ref T.heap.size :: rest, locked := none }) rfl hsize rfl rfl (rest := rest) rfl
    (by rw [hb]; exact d6) (by rw [hb]; exact d9) hout hRframes (by simp only [List.map_cons, List.sum_cons, hcat]; omega) hlocks
  obtain ⟨f1, f2⟩ := vx_frame hsame
  rw [hhp] at f1 f2
  have hWs : s.WarmedH U.vm := State.WarmedH.trans hW0 hW
  have hcl : s.vm.findClass cls = some ce.cls := by
    have h9 := hO.cls
    rw [hvm] at h9
    exact h9
  have hall : s.sameButNew ({ U with vm := s.vm } : State) locs mc ms := by
    subst hA
    obtain ⟨e1, e2⟩ := hsame
    rw [State.setFrames_setFrames] at e1
    have h2 : (T.setVm s.vm).sameButNew ({ U with vm := s.vm } : State) [] (0 + 1) (0 + 6) := ⟨e1, e2⟩
    have h3 := X.same.trans h2
    rw [List.append_nil] at h3
    exact h3.mono hc hs
  refine ⟨U, ?_, .threw T.heap.size, hrun, hend, Or.inr ⟨T.heap.size, rfl, cls, ce, locs, hx U hWs.alike f1 (fun q hq => f2 q hq (fun z hz => nomatch hz)), hce, hO.vm, hcl, hWs, hall, hf⟩⟩
  refine st1 _ ?_
  show Steps p.tables e below (T1.setTop { method := m, pc := pc + 3, locals := ls, stack := .ref T.heap.size :: rest, locked := none }) _
  jvm_step X₁.here [X₁.here.top, hexec, d3', Value.category]
  exact X₁.ldcString hexec (own := own) (text := text) (index := is) (a := sa) hown' hstr'.1 hstr'.2
    (g := { method := m, pc := pc + 4, locals := ls, stack := .ref T.heap.size :: .ref T.heap.size :: rest, locked := none }) rfl d4' _ hsteps
/-- 'throw new E("text")', the text by a wide index -/
theorem vx_throwSW {cc : ByteArray} {pc : Nat} (hexec : p.tables.exec = Jvm.exec) (hb : c.code = cc) (hl : l.stackTraces = false) {own cls text : String} {names : List String} {ik is ic mc ms sa : Nat} {A : Nat → Prop}
    (hown : s.vm.findClass own = some m.cls) (hcls : Bundle.fit cls = true) (hnames : ∀ n ∈ names, Bundle.fit n = true)
    (hk : (Cond.classLink own ik cls).before args s = true) (hini : (Cond.initialized cls).before args s = true) (hstr : vk_R own is text sa s) (hat : ∀ w ∈ vx_atS own ic cls names, w.before args s = true)
    (hgood : ∀ w ∈ Cond.classLink own ik cls :: Cond.initialized cls :: vx_atS own ic cls names, vx_ot w = true)
    (hU : vx_Zq Bundle.tN "UNASSIGNED_STACK" Bundle.steD A s s.heap) (hN : vx_Zq Bundle.tN "SUPPRESSED_SENTINEL" Bundle.listD A s s.heap) (hS : va_S A s.heap H locs) (hsize : ls.size = c.maxLocals)
    (d0 : decode cc pc = .ok (.new ik, 3)) (d3 : decode cc (pc + 3) = .ok (.dup, 1)) (d4 : decode cc (pc + 4) = .ok (.ldc_w is, 3)) (d7 : decode cc (pc + 7) = .ok (.invokespecial ic, 3)) (d10 : decode cc (pc + 10) = .ok (.athrow, 1))
    (hout : ∀ x ∈ c.exceptionTable.toList, covers x (pc + 10) = false)
    (hRframes : names.length + 3 < R.frames) (hRlocals : (rest.map fun v => v.category).sum + (13 * (names.length + 1) + 43) ≤ R.locals) (hRcells : cells + 1 ≤ R.cells) (hRslots : slots + 6 ≤ R.slots) (hlocks : meth.locks = false)
    (hx : ∀ t : State, s.vm.Alike t.vm → H.size ≤ t.heap.size → (∀ q : Nat, q < H.size → t.heap[q]? = H[q]?) → XC cls s t)
    (hf : ∀ z ∈ locs, free z.base) (hc : cells + 1 ≤ mc) (hs : slots + 6 ≤ ms) :
    W p l e R s m args below meth c H locs cells slots (vx_MQ below Qc XC args s mc ms free) (F0 m pc ls rest) := by
  intro T hT X
  have htr : e.platform.stackTraces = false := (show e.platform.stackTraces = l.stackTraces by rw [X.admits.platform]).trans hl
  have Y := vx_rebase X (R' := { frames := R.frames, locals := R.locals, cells := 1, slots := 6 }) (Nat.le_refl _) (Nat.le_refl _) hRcells hRslots
  obtain ⟨s', hA⟩ : ∃ z, z = (T.setVm s.vm).setFrames (.invoking m args :: below) := ⟨_, rfl⟩
  rw [← hA] at Y
  have hvm : s'.vm = s.vm := by rw [hA]; rfl
  have hhp : s'.heap = H := by rw [hA]; exact hT
  have hW0 : s.WarmedH s'.vm := by rw [hvm]; exact State.WarmedH.refl s
  have hat' : ∀ w ∈ vx_atS own ic cls names, w.before args s' = true := fun w hw => vx_ot_at hW0 hvm.symm (hgood w (List.mem_cons_of_mem _ (List.mem_cons_of_mem _ hw))) (hat w hw)
  have hk' : (Cond.classLink own ik cls).before args s' = true := vx_ot_at hW0 hvm.symm (hgood _ List.mem_cons_self) hk
  have hini' : (Cond.initialized cls).before args s' = true := vx_ot_at hW0 hvm.symm (hgood _ (List.mem_cons_of_mem _ List.mem_cons_self)) hini
  have hU' : vx_Zq Bundle.tN "UNASSIGNED_STACK" Bundle.steD A s' s'.heap := by rw [hhp]; exact vx_Zq.moved hW0.alike (hU.kept hS.2.1)
  have hN' : vx_Zq Bundle.tN "SUPPRESSED_SENTINEL" Bundle.listD A s' s'.heap := by rw [hhp]; exact vx_Zq.moved hW0.alike (hN.kept hS.2.1)
  have h : ∀ w ∈ Bundle.ownAtoms own ic cls names, w.before args s' = true := vx_own hat' (vx_isRefq hU'.1) (vx_isRefq hN'.1) hU'.2.word hN'.2.word
  have hown' : s'.vm.findClass own = some m.cls := by rw [hvm]; exact hown
  have hins : (Cond.instantiable cls 6).before args s' = true := h _ (by simp [Bundle.ownAtoms])
  obtain ⟨vm₁, cX, kX, hfX, hkX, -, -, X₁, st1⟩ := Y.newCold hexec (own := own) (C := cls) (index := ik) (n := 6) hown' hk' hins hini'
    (g := F0 m pc ls rest) rfl (by rw [hb]; exact d0) (Nat.le_refl _) (Nat.le_refl _)
  generalize hT1 : (T.setVm vm₁).pushCell { cls := cX, slots := kX.instanceTypes.map defaultValue, vm := .none } = T1 at X₁ st1
  have hcat : (Value.ref T.heap.size).category = 1 := rfl
  have hcellA : T1.heap[T.heap.size]? = some (freshCell cX kX) := by rw [← hT1]; exact State.heap_pushCell_size _ _
  have d3' : decode c.code (pc + 3) = .ok (.dup, 1) := by rw [hb]; exact d3
  have d4' : decode c.code (pc + 4) = .ok (.ldc_w is, 3) := by rw [hb]; exact d4
  have hstr' : vk_R own is text sa s' := vk_R.warm hW0 hstr
  obtain ⟨U, hsteps, hrun, hend, hW, hsame, ce, hce, hO⟩ := X₁.ctorThrowS hexec htr (own := own) (cls := cls) (names := names) (ic := ic) hown' hcls hnames h (fun x hx => nomatch hx) hfX hkX hcellA (by rw [hhp, hT]; exact Nat.le_refl _) (msg := .ref sa) rfl
    (g := { method := m, pc := pc + 7, locals := ls, stack := .ref sa :: .ref T.heap.size :: .ref T.heap.size :: rest, locked := none }) rfl hsize rfl rfl (rest := rest) rfl
    (by rw [hb]; exact d7) (by rw [hb]; exact d10) hout hRframes (by simp only [List.map_cons, List.sum_cons, hcat]; omega) hlocks
  obtain ⟨f1, f2⟩ := vx_frame hsame
  rw [hhp] at f1 f2
  have hWs : s.WarmedH U.vm := State.WarmedH.trans hW0 hW
  have hcl : s.vm.findClass cls = some ce.cls := by
    have h9 := hO.cls
    rw [hvm] at h9
    exact h9
  have hall : s.sameButNew ({ U with vm := s.vm } : State) locs mc ms := by
    subst hA
    obtain ⟨e1, e2⟩ := hsame
    rw [State.setFrames_setFrames] at e1
    have h2 : (T.setVm s.vm).sameButNew ({ U with vm := s.vm } : State) [] (0 + 1) (0 + 6) := ⟨e1, e2⟩
    have h3 := X.same.trans h2
    rw [List.append_nil] at h3
    exact h3.mono hc hs
  refine ⟨U, ?_, .threw T.heap.size, hrun, hend, Or.inr ⟨T.heap.size, rfl, cls, ce, locs, hx U hWs.alike f1 (fun q hq => f2 q hq (fun z hz => nomatch hz)), hce, hO.vm, hcl, hWs, hall, hf⟩⟩
  refine st1 _ ?_
  show Steps p.tables e below (T1.setTop { method := m, pc := pc + 3, locals := ls, stack := .ref T.heap.size :: rest, locked := none }) _
  jvm_step X₁.here [X₁.here.top, hexec, d3', Value.category]
  exact X₁.ldcStringW hexec (own := own) (text := text) (index := is) (a := sa) hown' hstr'.1 hstr'.2
    (g := { method := m, pc := pc + 4, locals := ls, stack := .ref T.heap.size :: .ref T.heap.size :: rest, locked := none }) rfl d4' _ hsteps
end Ends
section Bodies
variable {l : Launch}
theorem vx_ofW {y : MethodName} {ws ws' : List Cond} {rm : Room} {Pc : Array Value → State → Prop} {Qc : Array Value → State → Outcome → State → Prop} {XC : String → State → State → Prop} {mc ms : Nat} {free : Addr → Prop} {cc : ByteArray} {maxL : Nat} {ret : Option FieldType}
    (hy : plainName y.cls = true) (hw : ws = Cond.code y cc maxL ret :: ws')
    (body : ∀ p e s m args below meth c s₁, BodyLoose p l y (headSpec ws rm) cc maxL ret e s m args below meth c s₁ → c.maxLocals = maxL → (∀ x ∈ c.exceptionTable.toList, False) → Pc args s →
      W p l e (headSpec ws rm).room s m args below meth c s.heap [] 0 0 (vx_MQ below Qc XC args s mc ms free) (entryFrame m args maxL)) : vx_Met l y ws rm Pc Qc XC mc ms free := by
  refine MetFree.of_bodyS (code := cc) (maxLocals := maxL) (ret := ret) hy ?_ ?_
  · intro args s m h hn
    obtain ⟨meth, c, h1, h2, h3, h4, h5, h6, -, -⟩ := Cond.code_spec hn (atoms_spec (ws := ws) h _ (by rw [hw]; exact List.mem_cons_self))
    exact ⟨meth, c, h1, h2, h3, h4, h5, h6⟩
  · intro p e s m args below meth c s₁ B hml hP _
    have hh0 : s₁.heap = s.heap := by rw [B.state]; rfl
    have ht : ∀ x ∈ c.exceptionTable.toList, False := by
      obtain ⟨meth9, c9, h1, h2, -, -, -, -, h7, -⟩ := Cond.code_spec B.named (atoms_spec (ws := ws) B.pre _ (by rw [hw]; exact List.mem_cons_self))
      cases Option.some.inj (h1.symm.trans B.method)
      cases Option.some.inj (h2.symm.trans (Stand.of_body B).code)
      intro x hx
      rw [Array.isEmpty_iff.mp h7] at hx
      cases hx
    obtain ⟨t, a1, o, b1, b2, b3⟩ := body p e s m args below meth c s₁ B hml ht hP s₁ hh0 (Stand.of_body B)
    exact ⟨t, o, a1, b1, b2, b3⟩
/-- the table of a body with handlers -/
theorem vx_table {p : Program} {x y : MethodName} {S : Spec} {cc bytes : ByteArray} {maxL maxL' : Nat} {ret ret' : Option FieldType} {e : Env} {s s₁ : State} {m : MethodId} {args : Array Value} {below : List Frame} {meth : Method} {c : Code} {hh : List (Nat × Nat × Nat × Nat)}
    (B : BodyLoose p l y S cc maxL ret e s m args below meth c s₁) (h : (Cond.codeWith y bytes maxL' ret' hh).before args s = true) : c.exceptionTable.toList = tableOf hh := by
  obtain ⟨m9, meth9, c9, hn9, h1, h2, -, -, h6, -⟩ := Cond.codeWith_spec h
  cases Option.some.inj (hn9.symm.trans B.named)
  cases Option.some.inj (h1.symm.trans B.method)
  cases Option.some.inj (h2.symm.trans (Stand.of_body B).code)
  rw [← h6, table_eq]
end Bodies
end VXA
/-! ===== END ===== -/
/-! ===== BEGIN a static call of a method with an exception table ===== -/
section VXS
variable {p : Program} {l : Launch} {e : Env} {R : Room} {s : State} {m : MethodId} {args : Array Value} {below : List Frame} {meth : Method} {c : Code} {T : State} {H : Heap} {locs : List Loc} {cells slots : Nat}
abbrev vx_CSW (R : Room) (s : State) (args : Array Value) (own : String) (index : Nat) (y : MethodName) (bytes : ByteArray) (maxL : Nat) (ret : Option FieldType) (hh : List (Nat × Nat × Nat × Nat)) (ws : List Cond) (rm : Room) (mc ms n : Nat) : Prop :=
  (rm.cells = mc ∧ rm.slots = ms ∧ rm.frames + 1 ≤ R.frames ∧ 8 + (maxL + 11) + rm.locals ≤ R.locals ∧ (∀ w ∈ ws, ∀ (a' : Array Value) (U : State), s.WarmedH U.vm → w.before a' U = true) ∧ Cond.codeWith y bytes maxL ret hh ∈ ws) ∧
  (Cond.codeWith y bytes maxL ret hh).before args s = true ∧ (Cond.initialized y.cls).before args s = true ∧ (y.cls ≠ "java/lang/invoke/MethodHandle" ∧ y.cls ≠ "java/lang/invoke/VarHandle") ∧
  (∀ sig, parseMethodDescriptor y.desc = some sig → n = sig.parameters.length) ∧ (Cond.methodLink own index y).before args s = true ∧ (Cond.static y).before args s = true
theorem vx_cwSW {own : String} {index maxL mc ms : Nat} {y : MethodName} {bytes : ByteArray} {ret : Option FieldType} {hh : List (Nat × Nat × Nat × Nat)} {Ts ws ws' : List Cond} {rm : Room} (n : Nat) (ht : ∀ w ∈ Ts, w.before args s = true) (hT : GoodIn Ts (va_wsS own index y ws)) (hw : ws = Cond.codeWith y bytes maxL ret hh :: ws') (hrc : rm.cells = mc) (hrs : rm.slots = ms)
    (hd : y.cls ≠ "java/lang/invoke/MethodHandle" ∧ y.cls ≠ "java/lang/invoke/VarHandle" ∧ (parseMethodDescriptor y.desc).map (fun d => d.parameters.length) = some n) (hR : rm.frames + 1 ≤ R.frames ∧ 8 + (maxL + 11) + rm.locals ≤ R.locals) :
    vx_CSW R s args own index y bytes maxL ret hh ws rm mc ms n := by
  have ok : ∀ w ∈ va_wsS own index y ws, w.before args s = true := fun w h => ht w (hT w h).1
  have hG : GoodIn Ts ws := fun w h => hT w (by unfold va_wsS; exact List.mem_append_right _ h)
  have hc : Cond.codeWith y bytes maxL ret hh ∈ ws := by rw [hw]; exact List.mem_cons_self
  refine ⟨⟨hrc, hrs, hR.1, hR.2, pay_in ht hG, hc⟩, ht _ (hG _ hc).1, ok _ (by simp [va_wsS]), ⟨hd.1, hd.2.1⟩, fun sig h => ?_, ok _ (by simp [va_wsS]), ok _ (by simp [va_wsS])⟩
  have h2 := hd.2.2
  rw [h] at h2
  exact (Option.some.inj h2).symm
theorem vx_callSW (X : Stand p l e R s m args below meth c T locs cells slots) (hexec : p.tables.exec = Jvm.exec) {own : String} {index : Nat} {y : MethodName} {bytes : ByteArray} {maxL : Nat} {ret : Option FieldType} {hh : List (Nat × Nat × Nat × Nat)}
    (hown : s.vm.findClass own = some m.cls) (hlink : (Cond.methodLink own index y).before args s = true) (hstat : (Cond.static y).before args s = true) (hinit : (Cond.initialized y.cls).before args s = true)
    (hcode : (Cond.codeWith y bytes maxL ret hh).before args s = true) (hy : y.cls ≠ "java/lang/invoke/MethodHandle" ∧ y.cls ≠ "java/lang/invoke/VarHandle")
    {W9 : Nat} {Pre : Pt → Array Value → Prop} {Post : Pt → Array Value → Option Value → Pt → Prop} (hK : Back l R p e below s args y 3 W9 Pre Post)
    {g : JFrame} (hg : g.method = m) (hsize : g.locals.size = c.maxLocals) {argsL rest : List Value} (hlen : ∀ sig, parseMethodDescriptor y.desc = some sig → argsL.length = sig.parameters.length)
    (hstack : g.stack = argsL.reverse ++ rest) (hW : 2 * g.monitorRoom + (rest.map fun v => v.category).sum ≤ W9) (hdg : decode c.code g.pc = .ok (.invokestatic index, 3))
    (hpre : ∀ vm₁, s.WarmedH vm₁ → Pre ⟨T.setVm vm₁, locs, cells, slots⟩ argsL.toArray) :
    ∃ (v : Option Value) (vm₁ : Vm) (B : Pt), s.WarmedH vm₁ ∧ Stand p l e R s m args below meth c B.U B.locs B.cells B.slots ∧ Post ⟨T.setVm vm₁, locs, cells, slots⟩ argsL.toArray v B ∧
      ∀ target, Steps p.tables e below (B.U.setTop { g with pc := g.pc + 3, stack := v.toList ++ rest }) target → Steps p.tables e below (T.setTop g) target := by
  obtain ⟨mk, methM, cM, hnamed, hmethM, -, -, -, -, -, -, hsigM⟩ := Cond.codeWith_spec hcode
  have hstatic : methM.isStatic = true := Cond.static_spec hnamed hmethM hstat
  obtain ⟨kP, hkP, -⟩ := className_of_methodNamed hnamed
  have hinitP : kP.init = .initialized := Cond.initialized_spec (findClass_of_methodNamed hnamed) hkP hinit
  obtain ⟨vm₁, X₁, hstep₁⟩ := X.invokestatic hexec hown hlink hnamed hmethM hstatic hkP hinitP hy (g := g) hg (argsL := argsL) (rest := rest) (hlen _ hsigM) hstack hdg
  obtain ⟨v, B, X', hpost, hsteps⟩ := hK m meth c ⟨T.setVm vm₁, locs, cells, slots⟩ { g with stack := rest } (.invokestatic index) mk argsL.toArray X₁ hg hsize hdg hW (X₁.named hnamed) (hpre vm₁ X₁.warmed)
  exact ⟨v, vm₁, B, X₁.warmed, X', hpost, fun target h => hstep₁ _ fun acts => by rw [doInvoke_state]; exact hsteps.trans h⟩
theorem vx_runSW {y : MethodName} {bytes cc : ByteArray} {maxL nL mc ms n index : Nat} {ret : Option FieldType} {hh : List (Nat × Nat × Nat × Nat)} {ws : List Cond} {rm : Room} {Pc : Array Value → State → Prop} {Qc : Array Value → State → Outcome → State → Prop} {free : Addr → Prop} {Ts : List Cond} {own : String} {As rest : List Value} {g : JFrame}
    (S : CallFix p m c cc nL s args Ts own) (hM : Met l y ws rm Pc Qc mc ms free) (cw : vx_CSW R s args own index y bytes maxL ret hh ws rm mc ms n) (hp : PreS s H Pc As)
    (hg : g.method = m) (hn : As.length = n) (hsize : g.locals.size = nL) (hstack : g.stack = As.reverse ++ rest) (hW : 2 * g.monitorRoom + (rest.map fun v => v.category).sum ≤ 8) (hdg : decode cc g.pc = .ok (.invokestatic index, 3)) (hf : cells + mc ≤ R.cells ∧ slots + ms ≤ R.slots) :
    va_Run p l e R s m args below meth c H locs cells slots mc ms g rest (Qc As.toArray) (free) := by
  obtain ⟨⟨hrc, hrs, hfr, hlo, hws, hcw⟩, hcode, hini, hy, hlen, hl, hstt⟩ := cw
  have hK : Back l R p e below s args y 3 8 (PreOf R mc ms Pc) (PostOf Qc mc ms free) := va_backW (hh := hh) (bytes := bytes) (maxL := maxL) (ret := ret) hM hp.1 hrc hrs hfr hlo hws hcw (fun a' U hW => word_at hW (Or.inl (by first | rfl | simp [Cond.onTables, Cond.keeps, Cond.steady])) hini)
  obtain ⟨hx, hb, hml, ho, -⟩ := S
  intro T hT X
  obtain ⟨v, vm₁, ⟨U', l2, c2, s2⟩, hW₁, X', ⟨g', mk, t, L, e1, e2, hq, h1, hL, h2, h3⟩, st⟩ := vx_callSW X hx (hh := hh) (bytes := bytes) (maxL := maxL) (ret := ret) ho hl hstt hini hcode hy hK hg (hsize.trans hml.symm) (argsL := As) (rest := rest) (fun sig h => hn.trans (hlen sig h)) hstack hW (by rw [hb]; exact hdg)
    (fun vm₁ hW₁ => ⟨hf.1, hf.2, hp.2 (T.setVm vm₁) hT hW₁⟩)
  dsimp only [Pt.U, Pt.locs, Pt.cells, Pt.slots] at X' e1 e2 h1 h2 h3 st
  subst h1; subst h2; subst h3
  exact ⟨v, (T.setVm vm₁).calling g' mk As.toArray, t, U', L, hT, X', hL, e1, e2, hq, st⟩
/-- not caught here, past rows that name other classes: it goes on to the caller -/
theorem vx_outP {p : Program} {l : Launch} {e : Env} {R : Room} {s : State} {m : MethodId} {args : Array Value} {below : List Frame} {meth : Method} {c : Code} {H : Heap} {locs : List Loc} {cells slots : Nat} {free : Addr → Prop} {ls : Array Slot} {rest : List Value} {Qc : Array Value → State → Outcome → State → Prop} {XC : String → State → State → Prop}
    {pc : Nat} {own E : String} {ce : Cell} {q : Addr} {mc ms : Nat} (hown : s.vm.findClass own = some m.cls) (hlocks : meth.locks = false)
    (hpass : ∀ z ∈ c.exceptionTable.toList, covers z pc = false ∨ (z.catchType ≠ 0 ∧ ∃ nm : String, (Cond.classLink own z.catchType nm).before args s = true ∧ va_Nc E nm s)) (hcell : H[q]? = some ce) (hv : ce.vm = .none) (hcl : s.vm.findClass E = some ce.cls)
    (hx : ∀ t : State, t.heap = H → s.vm.Alike t.vm → XC E s t) (hf : ∀ z ∈ locs, free z.base) (hc : cells ≤ mc) (hs : slots ≤ ms) :
    vx_W p l e R s m args below meth c H locs cells slots (vx_MQ below Qc XC args s mc ms free) (F0 m pc ls rest) q := by
  intro T hT X
  have hpl : e.platform.magicAccessors = ({} : Platform).magicAccessors := by rw [X.admits.platform]
  obtain ⟨vm', hW', X', st⟩ := X.outThrough hlocks q (g := F0 m pc ls rest) rfl rfl rfl (cell := ce) (by rw [hT]; exact hcell) (by rw [hv]; rfl)
    (by obtain ⟨k9, h9, -⟩ := Vm.findClass_spec hcl; exact ⟨k9, h9⟩) (fun z hz => by
      rcases hpass z hz with h | ⟨hz0, nm, hl1, hn1⟩
      · exact Or.inl h
      · obtain ⟨c6, hc6, hcl6⟩ := Cond.classLink_spec hown hl1 e.platform hpl
        obtain ⟨a8, b8, h1, h2, h3⟩ := hn1
        cases Option.some.inj (h1.symm.trans hcl)
        cases Option.some.inj (h2.symm.trans hc6)
        exact Or.inr ⟨hz0, _, hcl6, h3⟩)
  obtain ⟨g₀, hfr⟩ := X'.frames_eq
  have hcell9 : ((T.setVm vm').setFrames (.throwing q :: below)).heap[q]? = some ce := by
    show T.heap[q]? = some ce
    rw [hT]; exact hcell
  have hend : Ended ((T.setVm vm').setFrames (.throwing q :: below)) below (.threw q) := State.frames_setFrames _ (State.cur_lt_of_frames hfr)
  refine ⟨(T.setVm vm').setFrames (.throwing q :: below), ?_, .threw q, X'.here.running, hend, Or.inr ⟨q, rfl, E, ce, locs, hx _ hT (X'.ends _).1.alike, hcell9, hv, hcl, (X'.ends _).1, (X'.ends _).2.mono hc hs, hf⟩⟩
  rw [X.pushThrowing_eq]
  exact st
/-- a thing of a world lies in the heap -/
theorem vx_lt {D : va_G} {cl : List vw_C} {ws : va_W} {H1 : Heap} (h : va_P D cl ws H1) {k : Nat} {q : Nat × va_E} (hk : ws[k]? = some q) : q.1 < H1.size := (h k q hk).lt
end VXS
/-! ===== END ===== -/
/-! ===== BEGIN methods with a table of their own: called by a name, returning or throwing ===== -/
section VXH
/-! vx_backW, vx_callVX, vx_callSX, vx_callVW, vx_runVW, vx_runVX, vx_runSX, vx_ofWH follow the same proofs as their sisters above (Free/Laws.lean, Shelf42/LK1.lean); vx_outP calls Shelf42/NT130.lean (outThrough). -/
section
variable {l : Launch} {R : Room} {p : Program} {e : Env} {below : List Frame} {s : State} {sargs : Array Value} {y : MethodName} {len W9 : Nat}
theorem vx_backW {ws : List Cond} {rm : Room} {Pc : Array Value → State → Prop} {Qc : Array Value → State → Outcome → State → Prop} {XC : String → State → State → Prop} {mc ms : Nat} {free : Addr → Prop} {bytes : ByteArray} {maxL : Nat} {ret : Option FieldType} {hh : List (Nat × Nat × Nat × Nat)}
    (hM : vx_Met l y ws rm Pc Qc XC mc ms free) (hblind : FrameBlind Pc) (hrc : rm.cells = mc) (hrs : rm.slots = ms)
    (hframes : rm.frames + 1 ≤ R.frames) (hlocals : W9 + (maxL + 11) + rm.locals ≤ R.locals)
    (hws : ∀ w ∈ ws, ∀ a' U, s.WarmedH U.vm → w.before a' U = true) (hcode : Cond.codeWith y bytes maxL ret hh ∈ ws) (hinit : ∀ a' U, s.WarmedH U.vm → (Cond.initialized y.cls).before a' U = true) :
    vx_Back l R p e below s sargs y len W9 (PreOf R mc ms Pc) (PostOf Qc mc ms free) (vx_Post XC mc ms free) := by
  intro m meth c A g ig mk a X hg hsize hdg hW hn hp
  have h1 : (headSpec ws rm).pre.before a A.U = true := atoms_intro fun w hw => hws w hw _ _ X.warmed
  have h2 : (Cond.codeWith y bytes maxL ret hh).before a A.U = true := hws _ hcode _ _ X.warmed
  have h3 : (Cond.initialized y.cls).before a A.U = true := hinit _ _ X.warmed
  have h4 : A.cells + (headSpec ws rm).room.cells ≤ R.cells := by rw [show (headSpec ws rm).room.cells = mc from hrc]; exact hp.1
  have h5 : A.slots + (headSpec ws rm).room.slots ≤ R.slots := by rw [show (headSpec ws rm).room.slots = ms from hrs]; exact hp.2.1
  have hPc : Pc a (A.U.calling g mk a) := hblind _ _ _ _ hp.2.2
  obtain ⟨U, Ls, c0, s0⟩ := A
  dsimp only [Pt.U, Pt.locs, Pt.cells, Pt.slots] at h1 h2 h3 h4 h5 X hn hPc ⊢
  obtain ⟨m9, methY, cY, hn9, hmY, hcY, -, hlY, -⟩ := Cond.codeWith_spec h2
  cases Option.some.inj (hn9.symm.trans hn)
  obtain ⟨kY, hkY, -⟩ := className_of_methodNamed hn
  have hinitY : kY.init = .initialized := Cond.initialized_spec (findClass_of_methodNamed hn) hkY h3
  have h : At U g.method c below := by rw [hg]; exact X.here
  have hlocals9 : W9 + (maxL + 11) + (headSpec ws rm).room.locals ≤ R.locals := hlocals
  have happ : (headSpec ws rm).appliesLoose y e.platform (U.calling g mk a) = true :=
    Spec.appliesLoose_calling (g := g) h hdg hn hkY hinitY
      (X.room_calling (g := g) (R' := (headSpec ws rm).room) hsize hmY hcY hframes (by rw [hlY]; omega) h4 h5) h1
  obtain ⟨mid, hmid⟩ := h.above
  have hfr : (U.setTop g).frames = (.java g :: mid) ++ below := by rw [State.frames_setTop' g h.top, hmid]; rfl
  obtain ⟨o, s₂, hsteps, -, hend, hq⟩ := Steps.callFree hM p X.admits X.cas X.clock (acts := []) hfr happ hPc trivial
  have hq' : vx_Q Qc XC mc ms free a (U.calling g mk a) o s₂ := hq
  rw [State.frames_setTop' g h.top] at hend
  obtain ⟨g₀, hg0⟩ := Option.isSome_iff_exists.mp h.top
  obtain ⟨r, hr⟩ := State.topJava?_eq_some.mp hg0
  have hr' : (({ U with heap := s₂.heap, slotsUsed := s₂.slotsUsed } : State).setVm s₂.vm).frames = .java g₀ :: r := hr
  rcases hq' with ⟨hqc, L, hfe, hL⟩ | ⟨q, rfl, E, ce, L, hx, hce, hcv, hcl, hW₂, hsm, hL⟩
  · obtain ⟨⟨v, rfl⟩, hW₂, e2, q2, q3, q4, q5, q6⟩ := id hfe
    have e3 : s₂ = ({ (U.calling g mk a).setFrames s₂.frames with heap := s₂.heap, slotsUsed := s₂.slotsUsed } : State).setVm s₂.vm := by
      have : s₂ = ({ s₂ with vm := (U.calling g mk a).vm } : State).setVm s₂.vm := rfl
      rw [e2] at this
      exact this
    obtain ⟨c₂, i₂, len₂, hc₂, hd₂, hf₂⟩ := hend
    have hW' : U.WarmedH s₂.vm := hW₂
    have hcc : c₂ = c := by
      have h1 : s₂.code? g.method = U.code? g.method := by
        rw [State.code?_eq, State.code?_eq, hW'.alike.method?]
      exact Option.some.inj (hc₂.symm.trans (h1.trans h.code))
    subst hcc
    have hlen : len₂ = len := by rw [hdg] at hd₂; cases hd₂; rfl
    subst hlen
    have hs₂ : s₂ = (({ U with heap := s₂.heap, slotsUsed := s₂.slotsUsed } : State).setVm s₂.vm).setTop { g with pc := g.pc + len₂, stack := v.toList ++ g.stack } := by
      refine e3.trans ?_
      rw [hf₂, State.calling_eq h.top, State.setFrames_setFrames, State.setTop_of_frames _ hr', hr]
      rfl
    have hsame : U.sameButNew ({ U with heap := s₂.heap, slotsUsed := s₂.slotsUsed } : State) L mc ms := by
      refine ⟨?_, q2, q3, q4, q5, q6⟩
      obtain ⟨t, ht, -⟩ := State.frames_cons hr
      show ({ U with heap := s₂.heap, slotsUsed := s₂.slotsUsed } : State) = { U.setFrames U.frames with heap := s₂.heap, slotsUsed := s₂.slotsUsed }
      rw [State.setFrames_self ht]
    subst hg
    refine Or.inl ⟨v, ⟨(({ U with heap := s₂.heap, slotsUsed := s₂.slotsUsed } : State).setVm s₂.vm), Ls ++ L, c0 + mc, s0 + ms⟩,
      ⟨X.admits, X.cas, X.clock, X.frames, X.room, X.hears, X.method, X.code, (X.here.setHeapUsed s₂.heap s₂.slotsUsed).setVm hW'.alike, X.tail, State.WarmedH.trans X.warmed hW', X.limits, X.bytes, X.same.trans (hsame.setVm s.vm)⟩,
      ⟨g, mk, s₂, L, rfl, rfl, hqc, rfl, hL, rfl, rfl⟩, ?_⟩
    show Steps p.tables e below _ ((({ U with heap := s₂.heap, slotsUsed := s₂.slotsUsed } : State).setVm s₂.vm).setTop { g with pc := g.pc + len₂, stack := v.toList ++ g.stack })
    rw [← hs₂]
    exact hsteps
  · obtain ⟨e2, q2, q3, q4, q5, q6⟩ := id hsm
    have e3 : s₂ = ({ (U.calling g mk a).setFrames s₂.frames with heap := s₂.heap, slotsUsed := s₂.slotsUsed } : State).setVm s₂.vm := by
      have : s₂ = ({ s₂ with vm := (U.calling g mk a).vm } : State).setVm s₂.vm := rfl
      rw [e2] at this
      exact this
    have hf₂ : s₂.frames = .throwing q :: .java g :: U.frames.tail := hend
    have hW' : U.WarmedH s₂.vm := hW₂
    have hs₂ : s₂ = ((({ U with heap := s₂.heap, slotsUsed := s₂.slotsUsed } : State).setVm s₂.vm).setTop g).pushFrame (.throwing q) := by
      refine e3.trans ?_
      rw [hf₂, State.calling_eq h.top, State.setFrames_setFrames, State.pushFrame, State.frames_setTop _ hr', State.setTop_of_frames _ hr', State.setFrames_setFrames, hr]
      rfl
    have hsame : U.sameButNew ({ U with heap := s₂.heap, slotsUsed := s₂.slotsUsed } : State) L mc ms := by
      refine ⟨?_, q2, q3, q4, q5, q6⟩
      obtain ⟨t, ht, -⟩ := State.frames_cons hr
      show ({ U with heap := s₂.heap, slotsUsed := s₂.slotsUsed } : State) = { U.setFrames U.frames with heap := s₂.heap, slotsUsed := s₂.slotsUsed }
      rw [State.setFrames_self ht]
    subst hg
    refine Or.inr ⟨q, ⟨(({ U with heap := s₂.heap, slotsUsed := s₂.slotsUsed } : State).setVm s₂.vm), Ls ++ L, c0 + mc, s0 + ms⟩,
      ⟨X.admits, X.cas, X.clock, X.frames, X.room, X.hears, X.method, X.code, (X.here.setHeapUsed s₂.heap s₂.slotsUsed).setVm hW'.alike, X.tail, State.WarmedH.trans X.warmed hW', X.limits, X.bytes, X.same.trans (hsame.setVm s.vm)⟩,
      ⟨g, mk, s₂, L, E, ce, rfl, rfl, hx, hce, hcv, hcl, rfl, hL, rfl, rfl⟩, ?_⟩
    show Steps p.tables e below _ (((({ U with heap := s₂.heap, slotsUsed := s₂.slotsUsed } : State).setVm s₂.vm).setTop g).pushFrame (.throwing q))
    rw [← hs₂]
    exact hsteps
end
variable {p : Program} {l : Launch} {e : Env} {R : Room} {s : State} {m : MethodId} {args : Array Value} {below : List Frame} {meth : Method} {c : Code} {T : State} {H : Heap} {locs : List Loc} {cells slots : Nat}
theorem vx_callVX (X : Stand p l e R s m args below meth c T locs cells slots) (hexec : p.tables.exec = Jvm.exec) {own C : String} {index : Nat} {y : MethodName} {bytes : ByteArray} {maxL : Nat} {ret : Option FieldType} {hh : List (Nat × Nat × Nat × Nat)}
    (hown : s.vm.findClass own = some m.cls) (hlink : (Cond.methodLink own index y).before args s = true) (hinst : (Cond.instanceMethod y).before args s = true) (hsel : (Cond.selects C y y).before args s = true)
    (hcode : (Cond.codeWith y bytes maxL ret hh).before args s = true) (hy : y.cls ≠ "java/lang/invoke/MethodHandle" ∧ y.cls ≠ "java/lang/invoke/VarHandle")
    {W9 : Nat} {Pre : Pt → Array Value → Prop} {Post : Pt → Array Value → Option Value → Pt → Prop} {PostX : Pt → Array Value → Addr → Pt → Prop} (hK : vx_Back l R p e below s args y 3 W9 Pre Post PostX)
    {b : Addr} {cellB : Cell} (hcell : T.heap[b]? = some cellB) (hobj : cellB.vm.isStatics = false) (hcls : s.vm.findClass C = some cellB.cls)
    {g : JFrame} (hg : g.method = m) (hsize : g.locals.size = c.maxLocals) {argsL rest : List Value} (hlen : ∀ sig, parseMethodDescriptor y.desc = some sig → argsL.length = sig.parameters.length)
    (hstack : g.stack = argsL.reverse ++ .ref b :: rest) (hW : 2 * g.monitorRoom + (rest.map fun v => v.category).sum ≤ W9) (hdg : decode c.code g.pc = .ok (.invokevirtual index, 3))
    (hpre : ∀ vm₁, s.WarmedH vm₁ → Pre ⟨T.setVm vm₁, locs, cells, slots⟩ (Value.ref b :: argsL).toArray) :
    (∃ (v : Option Value) (vm₁ : Vm) (B : Pt), s.WarmedH vm₁ ∧ Stand p l e R s m args below meth c B.U B.locs B.cells B.slots ∧ Post ⟨T.setVm vm₁, locs, cells, slots⟩ (Value.ref b :: argsL).toArray v B ∧
      ∀ target, Steps p.tables e below (B.U.setTop { g with pc := g.pc + 3, stack := v.toList ++ rest }) target → Steps p.tables e below (T.setTop g) target) ∨
    (∃ (q : Addr) (vm₁ : Vm) (B : Pt), s.WarmedH vm₁ ∧ Stand p l e R s m args below meth c B.U B.locs B.cells B.slots ∧ PostX ⟨T.setVm vm₁, locs, cells, slots⟩ (Value.ref b :: argsL).toArray q B ∧
      Steps p.tables e below (T.setTop g) ((B.U.setTop { g with stack := rest }).pushFrame (.throwing q))) := by
  obtain ⟨mk, methM, hnamed, hmethM, hstM, habM⟩ := Cond.instanceMethod_spec hinst
  obtain ⟨m8, methM', cM, hn8, hmethM', -, -, -, -, -, -, hsigM⟩ := Cond.codeWith_spec hcode
  cases Option.some.inj (hn8.symm.trans hnamed)
  cases hmethM.symm.trans hmethM'
  obtain ⟨c2, r2, m2, q1, q2, q3, q4, kP, hkP, hkPi⟩ := Cond.selects_spec hsel
  cases hcls.symm.trans q1
  cases (State.methodFound?_of_named hnamed hy).symm.trans q2
  cases hnamed.symm.trans q3
  have hselP : selectMethod e.platform s.vm cellB.cls mk = .method mk := by rw [Launch.admits_selectMethod X.admits]; exact q4
  obtain ⟨vm₁, X₁, hstep₁⟩ := X.invokevirtual hexec hown hlink hnamed hmethM hstM hkP hkPi hy (a := b) (cell := cellB) hcell
    (fun z h => by rw [h] at hobj; cases hobj) hselP hmethM habM hkP hkPi (g := g) hg (argsL := argsL) (rest := rest) (hlen _ hsigM) hstack hdg
  rcases hK m meth c ⟨T.setVm vm₁, locs, cells, slots⟩ { g with stack := rest } (.invokevirtual index) mk (Value.ref b :: argsL).toArray X₁ hg hsize hdg hW (X₁.named hnamed) (hpre vm₁ X₁.warmed) with ⟨v, B, X', hpost, hsteps⟩ | ⟨q, B, X', hpost, hsteps⟩
  · exact Or.inl ⟨v, vm₁, B, X₁.warmed, X', hpost, fun target h => hstep₁ _ fun acts => by rw [doInvoke_state]; exact hsteps.trans h⟩
  · exact Or.inr ⟨q, vm₁, B, X₁.warmed, X', hpost, hstep₁ _ fun acts => by rw [doInvoke_state]; exact hsteps⟩
theorem vx_callSX (X : Stand p l e R s m args below meth c T locs cells slots) (hexec : p.tables.exec = Jvm.exec) {own : String} {index : Nat} {y : MethodName} {bytes : ByteArray} {maxL : Nat} {ret : Option FieldType} {hh : List (Nat × Nat × Nat × Nat)}
    (hown : s.vm.findClass own = some m.cls) (hlink : (Cond.methodLink own index y).before args s = true) (hstat : (Cond.static y).before args s = true) (hinit : (Cond.initialized y.cls).before args s = true)
    (hcode : (Cond.codeWith y bytes maxL ret hh).before args s = true) (hy : y.cls ≠ "java/lang/invoke/MethodHandle" ∧ y.cls ≠ "java/lang/invoke/VarHandle")
    {W9 : Nat} {Pre : Pt → Array Value → Prop} {Post : Pt → Array Value → Option Value → Pt → Prop} {PostX : Pt → Array Value → Addr → Pt → Prop} (hK : vx_Back l R p e below s args y 3 W9 Pre Post PostX)
    {g : JFrame} (hg : g.method = m) (hsize : g.locals.size = c.maxLocals) {argsL rest : List Value} (hlen : ∀ sig, parseMethodDescriptor y.desc = some sig → argsL.length = sig.parameters.length)
    (hstack : g.stack = argsL.reverse ++ rest) (hW : 2 * g.monitorRoom + (rest.map fun v => v.category).sum ≤ W9) (hdg : decode c.code g.pc = .ok (.invokestatic index, 3))
    (hpre : ∀ vm₁, s.WarmedH vm₁ → Pre ⟨T.setVm vm₁, locs, cells, slots⟩ argsL.toArray) :
    (∃ (v : Option Value) (vm₁ : Vm) (B : Pt), s.WarmedH vm₁ ∧ Stand p l e R s m args below meth c B.U B.locs B.cells B.slots ∧ Post ⟨T.setVm vm₁, locs, cells, slots⟩ argsL.toArray v B ∧
      ∀ target, Steps p.tables e below (B.U.setTop { g with pc := g.pc + 3, stack := v.toList ++ rest }) target → Steps p.tables e below (T.setTop g) target) ∨
    (∃ (q : Addr) (vm₁ : Vm) (B : Pt), s.WarmedH vm₁ ∧ Stand p l e R s m args below meth c B.U B.locs B.cells B.slots ∧ PostX ⟨T.setVm vm₁, locs, cells, slots⟩ argsL.toArray q B ∧
      Steps p.tables e below (T.setTop g) ((B.U.setTop { g with stack := rest }).pushFrame (.throwing q))) := by
  obtain ⟨mk, methM, cM, hnamed, hmethM, -, -, -, -, -, -, hsigM⟩ := Cond.codeWith_spec hcode
  have hstatic : methM.isStatic = true := Cond.static_spec hnamed hmethM hstat
  obtain ⟨kP, hkP, -⟩ := className_of_methodNamed hnamed
  have hinitP : kP.init = .initialized := Cond.initialized_spec (findClass_of_methodNamed hnamed) hkP hinit
  obtain ⟨vm₁, X₁, hstep₁⟩ := X.invokestatic hexec hown hlink hnamed hmethM hstatic hkP hinitP hy (g := g) hg (argsL := argsL) (rest := rest) (hlen _ hsigM) hstack hdg
  rcases hK m meth c ⟨T.setVm vm₁, locs, cells, slots⟩ { g with stack := rest } (.invokestatic index) mk argsL.toArray X₁ hg hsize hdg hW (X₁.named hnamed) (hpre vm₁ X₁.warmed) with ⟨v, B, X', hpost, hsteps⟩ | ⟨q, B, X', hpost, hsteps⟩
  · exact Or.inl ⟨v, vm₁, B, X₁.warmed, X', hpost, fun target h => hstep₁ _ fun acts => by rw [doInvoke_state]; exact hsteps.trans h⟩
  · exact Or.inr ⟨q, vm₁, B, X₁.warmed, X', hpost, hstep₁ _ fun acts => by rw [doInvoke_state]; exact hsteps⟩
theorem vx_callVW (X : Stand p l e R s m args below meth c T locs cells slots) (hexec : p.tables.exec = Jvm.exec) {own C : String} {index : Nat} {y : MethodName} {bytes : ByteArray} {maxL : Nat} {ret : Option FieldType} {hh : List (Nat × Nat × Nat × Nat)}
    (hown : s.vm.findClass own = some m.cls) (hlink : (Cond.methodLink own index y).before args s = true) (hinst : (Cond.instanceMethod y).before args s = true) (hsel : (Cond.selects C y y).before args s = true)
    (hcode : (Cond.codeWith y bytes maxL ret hh).before args s = true) (hy : y.cls ≠ "java/lang/invoke/MethodHandle" ∧ y.cls ≠ "java/lang/invoke/VarHandle")
    {W9 : Nat} {Pre : Pt → Array Value → Prop} {Post : Pt → Array Value → Option Value → Pt → Prop} (hK : Back l R p e below s args y 3 W9 Pre Post)
    {b : Addr} {cellB : Cell} (hcell : T.heap[b]? = some cellB) (hobj : cellB.vm.isStatics = false) (hcls : s.vm.findClass C = some cellB.cls)
    {g : JFrame} (hg : g.method = m) (hsize : g.locals.size = c.maxLocals) {argsL rest : List Value} (hlen : ∀ sig, parseMethodDescriptor y.desc = some sig → argsL.length = sig.parameters.length)
    (hstack : g.stack = argsL.reverse ++ .ref b :: rest) (hW : 2 * g.monitorRoom + (rest.map fun v => v.category).sum ≤ W9) (hdg : decode c.code g.pc = .ok (.invokevirtual index, 3))
    (hpre : ∀ vm₁, s.WarmedH vm₁ → Pre ⟨T.setVm vm₁, locs, cells, slots⟩ (Value.ref b :: argsL).toArray) :
    ∃ (v : Option Value) (vm₁ : Vm) (B : Pt), s.WarmedH vm₁ ∧ Stand p l e R s m args below meth c B.U B.locs B.cells B.slots ∧ Post ⟨T.setVm vm₁, locs, cells, slots⟩ (Value.ref b :: argsL).toArray v B ∧
      ∀ target, Steps p.tables e below (B.U.setTop { g with pc := g.pc + 3, stack := v.toList ++ rest }) target → Steps p.tables e below (T.setTop g) target := by
  obtain ⟨mk, methM, hnamed, hmethM, hstM, habM⟩ := Cond.instanceMethod_spec hinst
  obtain ⟨m8, methM', cM, hn8, hmethM', -, -, -, -, -, -, hsigM⟩ := Cond.codeWith_spec hcode
  cases Option.some.inj (hn8.symm.trans hnamed)
  cases hmethM.symm.trans hmethM'
  obtain ⟨c2, r2, m2, q1, q2, q3, q4, kP, hkP, hkPi⟩ := Cond.selects_spec hsel
  cases hcls.symm.trans q1
  cases (State.methodFound?_of_named hnamed hy).symm.trans q2
  cases hnamed.symm.trans q3
  have hselP : selectMethod e.platform s.vm cellB.cls mk = .method mk := by rw [Launch.admits_selectMethod X.admits]; exact q4
  obtain ⟨vm₁, X₁, hstep₁⟩ := X.invokevirtual hexec hown hlink hnamed hmethM hstM hkP hkPi hy (a := b) (cell := cellB) hcell
    (fun z h => by rw [h] at hobj; cases hobj) hselP hmethM habM hkP hkPi (g := g) hg (argsL := argsL) (rest := rest) (hlen _ hsigM) hstack hdg
  obtain ⟨v, B, X', hpost, hsteps⟩ := hK m meth c ⟨T.setVm vm₁, locs, cells, slots⟩ { g with stack := rest } (.invokevirtual index) mk (Value.ref b :: argsL).toArray X₁ hg hsize hdg hW (X₁.named hnamed) (hpre vm₁ X₁.warmed)
  exact ⟨v, vm₁, B, X₁.warmed, X', hpost, fun target h => hstep₁ _ fun acts => by rw [doInvoke_state]; exact hsteps.trans h⟩
abbrev vx_CVW (R : Room) (s : State) (args : Array Value) (own C : String) (index : Nat) (y : MethodName) (bytes : ByteArray) (maxL : Nat) (ret : Option FieldType) (hh : List (Nat × Nat × Nat × Nat)) (ws : List Cond) (rm : Room) (mc ms n : Nat) : Prop :=
  (rm.cells = mc ∧ rm.slots = ms ∧ rm.frames + 1 ≤ R.frames ∧ 8 + (maxL + 11) + rm.locals ≤ R.locals ∧ (∀ w ∈ ws, ∀ (a' : Array Value) (U : State), s.WarmedH U.vm → w.before a' U = true) ∧ Cond.codeWith y bytes maxL ret hh ∈ ws) ∧
  (Cond.codeWith y bytes maxL ret hh).before args s = true ∧ (Cond.initialized y.cls).before args s = true ∧ (y.cls ≠ "java/lang/invoke/MethodHandle" ∧ y.cls ≠ "java/lang/invoke/VarHandle") ∧
  (∀ sig, parseMethodDescriptor y.desc = some sig → n = sig.parameters.length) ∧ (Cond.methodLink own index y).before args s = true ∧ (Cond.instanceMethod y).before args s = true ∧ (Cond.selects C y y).before args s = true
theorem vx_cwVW {own C : String} {index maxL mc ms : Nat} {y : MethodName} {bytes : ByteArray} {ret : Option FieldType} {hh : List (Nat × Nat × Nat × Nat)} {Ts ws ws' : List Cond} {rm : Room} (n : Nat) (ht : ∀ w ∈ Ts, w.before args s = true) (hT : GoodIn Ts (wsV own index C y ws)) (hw : ws = Cond.codeWith y bytes maxL ret hh :: ws') (hrc : rm.cells = mc) (hrs : rm.slots = ms)
    (hd : y.cls = C ∧ y.cls ≠ "java/lang/invoke/MethodHandle" ∧ y.cls ≠ "java/lang/invoke/VarHandle" ∧ (parseMethodDescriptor y.desc).map (fun d => d.parameters.length) = some n) (hR : rm.frames + 1 ≤ R.frames ∧ 8 + (maxL + 11) + rm.locals ≤ R.locals) :
    vx_CVW R s args own C index y bytes maxL ret hh ws rm mc ms n := by
  obtain ⟨hC, hd⟩ := hd
  subst hC
  have ok : ∀ w ∈ wsV own index y.cls y ws, w.before args s = true := fun w h => ht w (hT w h).1
  have hG : GoodIn Ts ws := fun w h => hT w (by unfold wsV; exact List.mem_append_right _ h)
  have hc : Cond.codeWith y bytes maxL ret hh ∈ ws := by rw [hw]; exact List.mem_cons_self
  refine ⟨⟨hrc, hrs, hR.1, hR.2, pay_in ht hG, hc⟩, ht _ (hG _ hc).1, ok _ (by simp [wsV]), ⟨hd.1, hd.2.1⟩, fun sig h => ?_, ok _ (by simp [wsV]), ok _ (by simp [wsV]), ok _ (by simp [wsV])⟩
  have h2 := hd.2.2
  rw [h] at h2
  exact (Option.some.inj h2).symm
theorem vx_runVW {y : MethodName} {bytes cc : ByteArray} {maxL nL mc ms n index : Nat} {ret : Option FieldType} {hh : List (Nat × Nat × Nat × Nat)} {ws : List Cond} {rm : Room} {Pc : Array Value → State → Prop} {Qc : Array Value → State → Outcome → State → Prop} {free : Addr → Prop} {Ts : List Cond} {own C : String} {b : Addr} {As rest : List Value} {g : JFrame}
    (S : CallFix p m c cc nL s args Ts own) (hM : Met l y ws rm Pc Qc mc ms free) (cw : vx_CVW R s args own C index y bytes maxL ret hh ws rm mc ms n) (hp : PreV s H C b Pc As)
    (hg : g.method = m) (hn : As.length = n) (hsize : g.locals.size = nL) (hstack : g.stack = As.reverse ++ .ref b :: rest) (hW : 2 * g.monitorRoom + (rest.map fun v => v.category).sum ≤ 8) (hdg : decode cc g.pc = .ok (.invokevirtual index, 3)) (hf : cells + mc ≤ R.cells ∧ slots + ms ≤ R.slots) :
    va_Run p l e R s m args below meth c H locs cells slots mc ms g rest (Qc (Value.ref b :: As).toArray) free := by
  obtain ⟨⟨hrc, hrs, hfr, hlo, hws, hcw⟩, hcode, hini, hy, hlen, hl, hin, hse⟩ := cw
  have hK : Back l R p e below s args y 3 8 (PreOf R mc ms Pc) (PostOf Qc mc ms free) := va_backW (hh := hh) (bytes := bytes) (maxL := maxL) (ret := ret) hM hp.1 hrc hrs hfr hlo hws hcw (fun a' U hW => word_at hW (Or.inl (by first | rfl | simp [Cond.onTables, Cond.keeps, Cond.steady])) hini)
  obtain ⟨hx, hb, hml, ho, -⟩ := S
  obtain ⟨-, ⟨cellB, hcB, hoB, hclB⟩, hPc⟩ := hp
  intro T hT X
  obtain ⟨v, vm₁, ⟨U', l2, c2, s2⟩, hW₁, X', ⟨g', mk, t, L, e1, e2, hq, h1, hL, h2, h3⟩, st⟩ := vx_callVW X hx (C := C) (hh := hh) (bytes := bytes) (maxL := maxL) (ret := ret) ho hl hin hse hcode hy hK (by rw [hT]; exact hcB) hoB hclB hg (hsize.trans hml.symm) (argsL := As) (rest := rest) (fun sig h => hn.trans (hlen sig h)) hstack hW (by rw [hb]; exact hdg)
    (fun vm₁ hW₁ => ⟨hf.1, hf.2, hPc (T.setVm vm₁) hT hW₁⟩)
  dsimp only [Pt.U, Pt.locs, Pt.cells, Pt.slots] at X' e1 e2 h1 h2 h3 st
  subst h1; subst h2; subst h3
  exact ⟨v, (T.setVm vm₁).calling g' mk (Value.ref b :: As).toArray, t, U', L, hT, X', hL, e1, e2, hq, st⟩
section
variable {y : MethodName} {bytes cc : ByteArray} {maxL nL mc ms n index : Nat} {ret : Option FieldType} {ws : List Cond} {rm : Room} {Pc : Array Value → State → Prop} {Qc : Array Value → State → Outcome → State → Prop} {XC : String → State → State → Prop} {free : Addr → Prop} {Ts : List Cond} {own C : String} {b : Addr} {As rest : List Value} {g : JFrame}
theorem vx_runVX {hh : List (Nat × Nat × Nat × Nat)} (S : CallFix p m c cc nL s args Ts own) (hM : vx_Met l y ws rm Pc Qc XC mc ms free) (cw : vx_CVW R s args own C index y bytes maxL ret hh ws rm mc ms n) (hp : PreV s H C b Pc As)
    (hg : g.method = m) (hn : As.length = n) (hsize : g.locals.size = nL) (hstack : g.stack = As.reverse ++ .ref b :: rest) (hW : 2 * g.monitorRoom + (rest.map fun v => v.category).sum ≤ 8) (hdg : decode cc g.pc = .ok (.invokevirtual index, 3)) (hf : cells + mc ≤ R.cells ∧ slots + ms ≤ R.slots) :
    vx_Run p l e R s m args below meth c H locs cells slots mc ms g rest (Qc (Value.ref b :: As).toArray) XC free := by
  obtain ⟨⟨hrc, hrs, hfr, hlo, hws, hcw⟩, hcode, hini, hy, hlen, hl, hin, hse⟩ := cw
  have hK : vx_Back l R p e below s args y 3 8 (PreOf R mc ms Pc) (PostOf Qc mc ms free) (vx_Post XC mc ms free) := vx_backW (hh := hh) (bytes := bytes) (maxL := maxL) (ret := ret) hM hp.1 hrc hrs hfr hlo hws hcw (fun a' U hW => word_at hW (Or.inl (by first | rfl | simp [Cond.onTables, Cond.keeps, Cond.steady])) hini)
  obtain ⟨hx, hb, hml, ho, -⟩ := S
  obtain ⟨-, ⟨cellB, hcB, hoB, hclB⟩, hPc⟩ := hp
  intro T hT X
  rcases vx_callVX X hx (C := C) (hh := hh) (bytes := bytes) (maxL := maxL) (ret := ret) ho hl hin hse hcode hy hK (by rw [hT]; exact hcB) hoB hclB hg (hsize.trans hml.symm) (argsL := As) (rest := rest) (fun sig h => hn.trans (hlen sig h)) hstack hW (by rw [hb]; exact hdg)
    (fun vm₁ hW₁ => ⟨hf.1, hf.2, hPc (T.setVm vm₁) hT hW₁⟩) with ⟨v, vm₁, ⟨U', l2, c2, s2⟩, hW₁, X', ⟨g', mk, t, L, e1, e2, hq, h1, hL, h2, h3⟩, st⟩ | ⟨q, vm₁, ⟨U', l2, c2, s2⟩, hW₁, X', ⟨g', mk, t, L, E, ce, e1, e2, hq, hce, hcv, hcl, h1, hL, h2, h3⟩, st⟩
  · dsimp only [Pt.U, Pt.locs, Pt.cells, Pt.slots] at X' e1 e2 h1 h2 h3 st
    subst h1; subst h2; subst h3
    exact Or.inl ⟨v, (T.setVm vm₁).calling g' mk (Value.ref b :: As).toArray, t, U', L, hT, X', hL, e1, e2, hq, st⟩
  · dsimp only [Pt.U, Pt.locs, Pt.cells, Pt.slots] at X' e1 e2 h1 h2 h3 st hcl
    subst h1; subst h2; subst h3
    exact Or.inr ⟨q, (T.setVm vm₁).calling g' mk (Value.ref b :: As).toArray, t, U', L, E, ce, hT, X', hL, e1, e2, hq, hce, hcv, vx_cls hW₁ hcl, st⟩
theorem vx_runSX {hh : List (Nat × Nat × Nat × Nat)} (S : CallFix p m c cc nL s args Ts own) (hM : vx_Met l y ws rm Pc Qc XC mc ms free) (cw : vx_CSW R s args own index y bytes maxL ret hh ws rm mc ms n) (hp : PreS s H Pc As)
    (hg : g.method = m) (hn : As.length = n) (hsize : g.locals.size = nL) (hstack : g.stack = As.reverse ++ rest) (hW : 2 * g.monitorRoom + (rest.map fun v => v.category).sum ≤ 8) (hdg : decode cc g.pc = .ok (.invokestatic index, 3)) (hf : cells + mc ≤ R.cells ∧ slots + ms ≤ R.slots) :
    vx_Run p l e R s m args below meth c H locs cells slots mc ms g rest (Qc As.toArray) XC free := by
  obtain ⟨⟨hrc, hrs, hfr, hlo, hws, hcw⟩, hcode, hini, hy, hlen, hl, hstt⟩ := cw
  have hK : vx_Back l R p e below s args y 3 8 (PreOf R mc ms Pc) (PostOf Qc mc ms free) (vx_Post XC mc ms free) := vx_backW (hh := hh) (bytes := bytes) (maxL := maxL) (ret := ret) hM hp.1 hrc hrs hfr hlo hws hcw (fun a' U hW => word_at hW (Or.inl (by first | rfl | simp [Cond.onTables, Cond.keeps, Cond.steady])) hini)
  obtain ⟨hx, hb, hml, ho, -⟩ := S
  intro T hT X
  rcases vx_callSX X hx (hh := hh) (bytes := bytes) (maxL := maxL) (ret := ret) ho hl hstt hini hcode hy hK hg (hsize.trans hml.symm) (argsL := As) (rest := rest) (fun sig h => hn.trans (hlen sig h)) hstack hW (by rw [hb]; exact hdg)
    (fun vm₁ hW₁ => ⟨hf.1, hf.2, hp.2 (T.setVm vm₁) hT hW₁⟩) with ⟨v, vm₁, ⟨U', l2, c2, s2⟩, hW₁, X', ⟨g', mk, t, L, e1, e2, hq, h1, hL, h2, h3⟩, st⟩ | ⟨q, vm₁, ⟨U', l2, c2, s2⟩, hW₁, X', ⟨g', mk, t, L, E, ce, e1, e2, hq, hce, hcv, hcl, h1, hL, h2, h3⟩, st⟩
  · dsimp only [Pt.U, Pt.locs, Pt.cells, Pt.slots] at X' e1 e2 h1 h2 h3 st
    subst h1; subst h2; subst h3
    exact Or.inl ⟨v, (T.setVm vm₁).calling g' mk As.toArray, t, U', L, hT, X', hL, e1, e2, hq, st⟩
  · dsimp only [Pt.U, Pt.locs, Pt.cells, Pt.slots] at X' e1 e2 h1 h2 h3 st hcl
    subst h1; subst h2; subst h3
    exact Or.inr ⟨q, (T.setVm vm₁).calling g' mk As.toArray, t, U', L, E, ce, hT, X', hL, e1, e2, hq, hce, hcv, vx_cls hW₁ hcl, st⟩
end
end VXH
theorem vx_ofWH {l : Launch} {y : MethodName} {ws ws' : List Cond} {rm : Room} {Pc : Array Value → State → Prop} {Qc : Array Value → State → Outcome → State → Prop} {XC : String → State → State → Prop} {mc ms : Nat} {free : Addr → Prop} {cc : ByteArray} {maxL : Nat} {ret : Option FieldType} {hh : List (Nat × Nat × Nat × Nat)}
    (hy : plainName y.cls = true) (hw : ws = Cond.codeWith y cc maxL ret hh :: ws')
    (body : ∀ p e s m args below meth c s₁, BodyLoose p l y (headSpec ws rm) cc maxL ret e s m args below meth c s₁ → c.maxLocals = maxL → Pc args s →
      W p l e (headSpec ws rm).room s m args below meth c s.heap [] 0 0 (vx_MQ below Qc XC args s mc ms free) (entryFrame m args maxL)) : vx_Met l y ws rm Pc Qc XC mc ms free := by
  refine MetFree.of_bodyS (code := cc) (maxLocals := maxL) (ret := ret) hy ?_ ?_
  · intro args s m h hn
    obtain ⟨m9, meth, c, hn9, h1, h2, h3, h4, -, h5, h6, -⟩ := Cond.codeWith_spec (atoms_spec (ws := ws) h _ (by rw [hw]; exact List.mem_cons_self))
    cases hn.symm.trans hn9
    exact ⟨meth, c, h1, h2, h3, h4, h5, h6⟩
  · intro p e s m args below meth c s₁ B hml hP _
    have hh0 : s₁.heap = s.heap := by rw [B.state]; rfl
    obtain ⟨t, a1, o, b1, b2, b3⟩ := body p e s m args below meth c s₁ B hml hP s₁ hh0 (Stand.of_body B)
    exact ⟨t, o, a1, b1, b2, b3⟩
/-! ===== END ===== -/
end
section
def RX0 : String := "Aislewright$Batch"
def TX0 : u_T := fun k => match k with
  | 0 => ("Aislewright$Batch", "row", "I", true)
  | 1 => ("Aislewright$Batch", "orderBits", "J", false)
  | 2 => ("Aislewright$Batch", "products", "I", false)
  | 3 => ("Aislewright$Batch", "lines", "I", false)
  | 4 => ("Aislewright$Batch", "length", "I", false)
  | _ => ("Aislewright$Batch", "route", "[I", false)
def tyX0 : Nat → FieldType := fun k => match k with
  | 0 => .int
  | 1 => .long
  | 2 => .int
  | 3 => .int
  | 4 => .int
  | _ => .array .int
abbrev wsX00 : List Cond := u_ws RX0 TX0 6
theorem nmX0 : ∀ a, a < 6 → ∀ b, b < 6 → a ≠ b → (TX0 a).2.1 ≠ (TX0 b).2.1 := by decide +kernel
theorem tyX0_ok : ∀ k, k < 6 → parseFieldDescriptor (TX0 k).2.2.1 = some (tyX0 k) := by decide +kernel
abbrev cX0_init : ByteArray := prog_2_method_1_code
def yX0_init : MethodName := ⟨RX0, "<init>", "(IILAislewright$Order;I)V"⟩
abbrev cX0_holds : ByteArray := prog_2_method_2_code
def yX0_holds : MethodName := ⟨RX0, "holds", "(I)Z"⟩
abbrev cX0_comesInto : ByteArray := prog_2_method_3_code
def yX0_comesInto : MethodName := ⟨RX0, "comesInto", "(I)Z"⟩
abbrev cX0_absorb : ByteArray := prog_2_method_4_code
def yX0_absorb : MethodName := ⟨RX0, "absorb", "(LAislewright$Batch;I)V"⟩
def RX1 : String := "Aislewright$Order"
def TX1 : u_T := fun k => match k with
  | 0 => ("Aislewright$Order", "due", "I", true)
  | 1 => ("Aislewright$Order", "quantities", "[I", true)
  | 2 => ("Aislewright$Order", "products", "I", false)
  | _ => ("Aislewright$Order", "state", "I", false)
def tyX1 : Nat → FieldType := fun k => match k with
  | 0 => .int
  | 1 => .array .int
  | 2 => .int
  | _ => .int
abbrev wsX10 : List Cond := u_ws RX1 TX1 4
theorem nmX1 : ∀ a, a < 4 → ∀ b, b < 4 → a ≠ b → (TX1 a).2.1 ≠ (TX1 b).2.1 := by decide +kernel
theorem tyX1_ok : ∀ k, k < 4 → parseFieldDescriptor (TX1 k).2.2.1 = some (tyX1 k) := by decide +kernel
abbrev cX1_init : ByteArray := prog_3_method_1_code
def yX1_init : MethodName := ⟨RX1, "<init>", "(I)V"⟩
abbrev cX1_asksFor : ByteArray := prog_3_method_2_code
def yX1_asksFor : MethodName := ⟨RX1, "asksFor", "(I)Z"⟩
abbrev cX1_countLines : ByteArray := prog_3_method_3_code
def yX1_countLines : MethodName := ⟨RX1, "countLines", "()I"⟩
abbrev cX1_addLine : ByteArray := prog_3_method_4_code
def yX1_addLine : MethodName := ⟨RX1, "addLine", "(II)V"⟩
abbrev cX1_isTakenAt : ByteArray := prog_3_method_5_code
def yX1_isTakenAt : MethodName := ⟨RX1, "isTakenAt", "(I)Z"⟩
def RX2 : String := "Aislewright$Router"
def TX2 : u_T := fun k => match k with
  | 0 => ("Aislewright$Router", "warehouse", "LAislewright$Warehouse;", true)
  | 1 => ("Aislewright$Router", "places", "[I", true)
  | 2 => ("Aislewright$Router", "count", "I", false)
  | 3 => ("Aislewright$Router", "ways", "[[I", true)
  | _ => ("Aislewright$Router", "onward", "[I", true)
def tyX2 : Nat → FieldType := fun k => match k with
  | 0 => .object "Aislewright$Warehouse"
  | 1 => .array .int
  | 2 => .int
  | 3 => .array (.array .int)
  | _ => .array .int
abbrev wsX20 : List Cond := u_ws RX2 TX2 5
theorem nmX2 : ∀ a, a < 5 → ∀ b, b < 5 → a ≠ b → (TX2 a).2.1 ≠ (TX2 b).2.1 := by decide +kernel
theorem tyX2_ok : ∀ k, k < 5 → parseFieldDescriptor (TX2 k).2.2.1 = some (tyX2 k) := by decide +kernel
abbrev cX2_init : ByteArray := prog_4_method_1_code
def yX2_init : MethodName := ⟨RX2, "<init>", "(LAislewright$Warehouse;)V"⟩
abbrev cX2_leastLength : ByteArray := prog_4_method_2_code
def yX2_leastLength : MethodName := ⟨RX2, "leastLength", "(I)I"⟩
abbrev cX2_bestRoute : ByteArray := prog_4_method_3_code
def yX2_bestRoute : MethodName := ⟨RX2, "bestRoute", "(I)[I"⟩
abbrev cX2_leastByTrying : ByteArray := prog_4_method_4_code
def yX2_leastByTrying : MethodName := ⟨RX2, "leastByTrying", "(I)I"⟩
abbrev cX2_throughAisles : ByteArray := prog_4_method_5_code
def yX2_throughAisles : MethodName := ⟨RX2, "throughAisles", "(I)I"⟩
abbrev cX2_everyPlace : ByteArray := prog_4_method_6_code
def yX2_everyPlace : MethodName := ⟨RX2, "everyPlace", "()I"⟩
abbrev cX2_countAisles : ByteArray := prog_4_method_7_code
def yX2_countAisles : MethodName := ⟨RX2, "countAisles", "()I"⟩
abbrev cX2_gather : ByteArray := prog_4_method_8_code
def yX2_gather : MethodName := ⟨RX2, "gather", "(I)V"⟩
abbrev cX2_insertPlace : ByteArray := prog_4_method_9_code
def yX2_insertPlace : MethodName := ⟨RX2, "insertPlace", "(I)V"⟩
abbrev cX2_fillOnward : ByteArray := prog_4_method_10_code
def yX2_fillOnward : MethodName := ⟨RX2, "fillOnward", "()V"⟩
abbrev cX2_leastOnward : ByteArray := prog_4_method_11_code
def yX2_leastOnward : MethodName := ⟨RX2, "leastOnward", "(II)I"⟩
abbrev cX2_lengthBy : ByteArray := prog_4_method_12_code
def yX2_lengthBy : MethodName := ⟨RX2, "lengthBy", "(III)I"⟩
abbrev cX2_bestNext : ByteArray := prog_4_method_13_code
def yX2_bestNext : MethodName := ⟨RX2, "bestNext", "(II)I"⟩
abbrev cX2_tryFrom : ByteArray := prog_4_method_14_code
def yX2_tryFrom : MethodName := ⟨RX2, "tryFrom", "(IIIII)I"⟩
def RX3 : String := "Aislewright$Warehouse"
def TX3 : u_T := fun k => match k with
  | 0 => ("Aislewright$Warehouse", "aisles", "I", true)
  | 1 => ("Aislewright$Warehouse", "positions", "I", true)
  | 2 => ("Aislewright$Warehouse", "gap", "I", true)
  | 3 => ("Aislewright$Warehouse", "places", "[I", true)
  | 4 => ("Aislewright$Warehouse", "turnovers", "[I", true)
  | 5 => ("Aislewright$Warehouse", "nearestPlaces", "[I", true)
  | _ => ("Aislewright$Warehouse", "busiestProducts", "[I", true)
def tyX3 : Nat → FieldType := fun k => match k with
  | 0 => .int
  | 1 => .int
  | 2 => .int
  | 3 => .array .int
  | 4 => .array .int
  | 5 => .array .int
  | _ => .array .int
abbrev wsX30 : List Cond := u_ws RX3 TX3 7
theorem nmX3 : ∀ a, a < 7 → ∀ b, b < 7 → a ≠ b → (TX3 a).2.1 ≠ (TX3 b).2.1 := by decide +kernel
theorem tyX3_ok : ∀ k, k < 7 → parseFieldDescriptor (TX3 k).2.2.1 = some (tyX3 k) := by decide +kernel
abbrev cX3_init : ByteArray := prog_5_method_1_code
def yX3_init : MethodName := ⟨RX3, "<init>", "(III)V"⟩
abbrev cX3_hasAisle : ByteArray := prog_5_method_2_code
def yX3_hasAisle : MethodName := ⟨RX3, "hasAisle", "(I)Z"⟩
abbrev cX3_hasPosition : ByteArray := prog_5_method_3_code
def yX3_hasPosition : MethodName := ⟨RX3, "hasPosition", "(I)Z"⟩
abbrev cX3_depth : ByteArray := prog_5_method_4_code
def yX3_depth : MethodName := ⟨RX3, "depth", "()I"⟩
abbrev cX3_productAt : ByteArray := prog_5_method_5_code
def yX3_productAt : MethodName := ⟨RX3, "productAt", "(I)I"⟩
abbrev cX3_move : ByteArray := prog_5_method_6_code
def yX3_move : MethodName := ⟨RX3, "move", "(II)I"⟩
abbrev cX3_between : ByteArray := prog_5_method_7_code
def yX3_between : MethodName := ⟨RX3, "between", "(II)I"⟩
abbrev cX3_addTurnover : ByteArray := prog_5_method_8_code
def yX3_addTurnover : MethodName := ⟨RX3, "addTurnover", "(LAislewright$Order;)V"⟩
abbrev cX3_rearrange : ByteArray := prog_5_method_9_code
def yX3_rearrange : MethodName := ⟨RX3, "rearrange", "()I"⟩
abbrev cX3_insertPlace : ByteArray := prog_5_method_10_code
def yX3_insertPlace : MethodName := ⟨RX3, "insertPlace", "(II)V"⟩
abbrev cX3_isNearer : ByteArray := prog_5_method_11_code
def yX3_isNearer : MethodName := ⟨RX3, "isNearer", "(II)Z"⟩
abbrev cX3_insertProduct : ByteArray := prog_5_method_12_code
def yX3_insertProduct : MethodName := ⟨RX3, "insertProduct", "(II)V"⟩
def RX4 : String := "Aislewright$Wave"
def TX4 : u_T := fun k => match k with
  | 0 => ("Aislewright$Wave", "router", "LAislewright$Router;", true)
  | 1 => ("Aislewright$Wave", "batches", "Ljava/util/ArrayList;", true)
  | _ => ("Aislewright$Wave", "savings", "[[I", true)
def tyX4 : Nat → FieldType := fun k => match k with
  | 0 => .object "Aislewright$Router"
  | 1 => .object "java/util/ArrayList"
  | _ => .array (.array .int)
abbrev wsX40 : List Cond := u_ws RX4 TX4 3
theorem nmX4 : ∀ a, a < 3 → ∀ b, b < 3 → a ≠ b → (TX4 a).2.1 ≠ (TX4 b).2.1 := by decide +kernel
theorem tyX4_ok : ∀ k, k < 3 → parseFieldDescriptor (TX4 k).2.2.1 = some (tyX4 k) := by decide +kernel
abbrev cX4_init : ByteArray := prog_6_method_1_code
def yX4_init : MethodName := ⟨RX4, "<init>", "(LAislewright$Router;)V"⟩
abbrev cX4_isOn : ByteArray := prog_6_method_2_code
def yX4_isOn : MethodName := ⟨RX4, "isOn", "()Z"⟩
abbrev cX4_size : ByteArray := prog_6_method_3_code
def yX4_size : MethodName := ⟨RX4, "size", "()I"⟩
abbrev cX4_take : ByteArray := prog_6_method_4_code
def yX4_take : MethodName := ⟨RX4, "take", "(ILAislewright$Order;)V"⟩
abbrev cX4_join : ByteArray := prog_6_method_5_code
def yX4_join : MethodName := ⟨RX4, "join", "(I)V"⟩
abbrev cX4_noteSaving : ByteArray := prog_6_method_6_code
def yX4_noteSaving : MethodName := ⟨RX4, "noteSaving", "(III)V"⟩
abbrev cX4_savingOf : ByteArray := prog_6_method_7_code
def yX4_savingOf : MethodName := ⟨RX4, "savingOf", "(II)I"⟩
abbrev cX4_joinBestPair : ByteArray := prog_6_method_8_code
def yX4_joinBestPair : MethodName := ⟨RX4, "joinBestPair", "()I"⟩
abbrev cX4_drop : ByteArray := prog_6_method_9_code
def yX4_drop : MethodName := ⟨RX4, "drop", "(I)V"⟩
abbrev cX4_batchWith : ByteArray := prog_6_method_10_code
def yX4_batchWith : MethodName := ⟨RX4, "batchWith", "(I)I"⟩
abbrev cX4_countIn : ByteArray := prog_6_method_11_code
def yX4_countIn : MethodName := ⟨RX4, "countIn", "(I)I"⟩
def RX5 : String := "Aislewright"
def TX5 : u_T := fun k => match k with
  | 0 => ("Aislewright", "warehouse", "LAislewright$Warehouse;", true)
  | 1 => ("Aislewright", "router", "LAislewright$Router;", true)
  | 2 => ("Aislewright", "wave", "LAislewright$Wave;", true)
  | 3 => ("Aislewright", "book", "Ljava/util/ArrayList;", true)
  | 4 => ("Aislewright", "capacity", "I", false)
  | 5 => ("Aislewright", "walked", "I", false)
  | _ => ("Aislewright", "walkedAlone", "I", false)
def tyX5 : Nat → FieldType := fun k => match k with
  | 0 => .object "Aislewright$Warehouse"
  | 1 => .object "Aislewright$Router"
  | 2 => .object "Aislewright$Wave"
  | 3 => .object "java/util/ArrayList"
  | 4 => .int
  | 5 => .int
  | _ => .int
abbrev wsX50 : List Cond := u_ws RX5 TX5 7
theorem nmX5 : ∀ a, a < 7 → ∀ b, b < 7 → a ≠ b → (TX5 a).2.1 ≠ (TX5 b).2.1 := by decide +kernel
theorem tyX5_ok : ∀ k, k < 7 → parseFieldDescriptor (TX5 k).2.2.1 = some (tyX5 k) := by decide +kernel
abbrev cX5_init : ByteArray := prog_1_method_1_code
def yX5_init : MethodName := ⟨RX5, "<init>", "(III)V"⟩
abbrev cX5_put : ByteArray := prog_1_method_2_code
def yX5_put : MethodName := ⟨RX5, "put", "(III)I"⟩
abbrev cX5_layOut : ByteArray := prog_1_method_3_code
def yX5_layOut : MethodName := ⟨RX5, "layOut", "()I"⟩
abbrev cX5_placeOf : ByteArray := prog_1_method_4_code
def yX5_placeOf : MethodName := ⟨RX5, "placeOf", "(I)I"⟩
abbrev cX5_turnover : ByteArray := prog_1_method_5_code
def yX5_turnover : MethodName := ⟨RX5, "turnover", "(I)I"⟩
abbrev cX5_distance : ByteArray := prog_1_method_6_code
def yX5_distance : MethodName := ⟨RX5, "distance", "(II)I"⟩
abbrev cX5_order : ByteArray := prog_1_method_7_code
def yX5_order : MethodName := ⟨RX5, "order", "(I)I"⟩
abbrev cX5_line : ByteArray := prog_1_method_8_code
def yX5_line : MethodName := ⟨RX5, "line", "(III)I"⟩
abbrev cX5_orders : ByteArray := prog_1_method_9_code
def yX5_orders : MethodName := ⟨RX5, "orders", "()I"⟩
abbrev cX5_stateOf : ByteArray := prog_1_method_10_code
def yX5_stateOf : MethodName := ⟨RX5, "stateOf", "(I)I"⟩
abbrev cX5_lengthAlone : ByteArray := prog_1_method_11_code
def yX5_lengthAlone : MethodName := ⟨RX5, "lengthAlone", "(I)I"⟩
abbrev cX5_setCapacity : ByteArray := prog_1_method_12_code
def yX5_setCapacity : MethodName := ⟨RX5, "setCapacity", "(I)I"⟩
abbrev cX5_planWave : ByteArray := prog_1_method_13_code
def yX5_planWave : MethodName := ⟨RX5, "planWave", "(I)I"⟩
abbrev cX5_pick : ByteArray := prog_1_method_14_code
def yX5_pick : MethodName := ⟨RX5, "pick", "(I)I"⟩
abbrev cX5_batches : ByteArray := prog_1_method_15_code
def yX5_batches : MethodName := ⟨RX5, "batches", "()I"⟩
abbrev cX5_batchOf : ByteArray := prog_1_method_16_code
def yX5_batchOf : MethodName := ⟨RX5, "batchOf", "(I)I"⟩
abbrev cX5_linesOf : ByteArray := prog_1_method_17_code
def yX5_linesOf : MethodName := ⟨RX5, "linesOf", "(I)I"⟩
abbrev cX5_lengthOf : ByteArray := prog_1_method_18_code
def yX5_lengthOf : MethodName := ⟨RX5, "lengthOf", "(I)I"⟩
abbrev cX5_lengthByTrying : ByteArray := prog_1_method_19_code
def yX5_lengthByTrying : MethodName := ⟨RX5, "lengthByTrying", "(I)I"⟩
abbrev cX5_lengthThrough : ByteArray := prog_1_method_20_code
def yX5_lengthThrough : MethodName := ⟨RX5, "lengthThrough", "(I)I"⟩
abbrev cX5_stops : ByteArray := prog_1_method_21_code
def yX5_stops : MethodName := ⟨RX5, "stops", "(I)I"⟩
abbrev cX5_stopAt : ByteArray := prog_1_method_22_code
def yX5_stopAt : MethodName := ⟨RX5, "stopAt", "(II)I"⟩
abbrev cX5_inAisle : ByteArray := prog_1_method_23_code
def yX5_inAisle : MethodName := ⟨RX5, "inAisle", "(I)I"⟩
abbrev cX5_walked : ByteArray := prog_1_method_24_code
def yX5_walked : MethodName := ⟨RX5, "walked", "()I"⟩
abbrev cX5_share : ByteArray := prog_1_method_25_code
def yX5_share : MethodName := ⟨RX5, "share", "()D"⟩
abbrev cX5_within : ByteArray := prog_1_method_26_code
def yX5_within : MethodName := ⟨RX5, "within", "(II)I"⟩
abbrev cX5_isIn : ByteArray := prog_1_method_27_code
def yX5_isIn : MethodName := ⟨RX5, "isIn", "(II)Z"⟩
abbrev cX5_checkProduct : ByteArray := prog_1_method_28_code
def yX5_checkProduct : MethodName := ⟨RX5, "checkProduct", "(I)V"⟩
abbrev cX5_checkTime : ByteArray := prog_1_method_29_code
def yX5_checkTime : MethodName := ⟨RX5, "checkTime", "(I)V"⟩
abbrev cX5_orderNumbered : ByteArray := prog_1_method_30_code
def yX5_orderNumbered : MethodName := ⟨RX5, "orderNumbered", "(I)LAislewright$Order;"⟩
abbrev cX5_batchNumbered : ByteArray := prog_1_method_31_code
def yX5_batchNumbered : MethodName := ⟨RX5, "batchNumbered", "(I)LAislewright$Batch;"⟩
abbrev cX5_takesLine : ByteArray := prog_1_method_32_code
def yX5_takesLine : MethodName := ⟨RX5, "takesLine", "(LAislewright$Order;)Z"⟩
abbrev cX5_mostLinesToDo : ByteArray := prog_1_method_33_code
def yX5_mostLinesToDo : MethodName := ⟨RX5, "mostLinesToDo", "()I"⟩
abbrev cX5_takesAnyOrder : ByteArray := prog_1_method_34_code
def yX5_takesAnyOrder : MethodName := ⟨RX5, "takesAnyOrder", "(I)Z"⟩
abbrev cX5_finish : ByteArray := prog_1_method_35_code
def yX5_finish : MethodName := ⟨RX5, "finish", "(LAislewright$Order;)V"⟩
def RX6 : String := "AislewrightModel"
def TX6 : u_T := fun k => match k with
  | 0 => ("AislewrightModel", "thrown", "I", false)
  | 1 => ("AislewrightModel", "aisles", "I", true)
  | 2 => ("AislewrightModel", "positions", "I", true)
  | 3 => ("AislewrightModel", "gap", "I", true)
  | 4 => ("AislewrightModel", "capacity", "I", false)
  | 5 => ("AislewrightModel", "place", "[I", true)
  | 6 => ("AislewrightModel", "orders", "I", false)
  | 7 => ("AislewrightModel", "due", "[I", true)
  | 8 => ("AislewrightModel", "state", "[I", true)
  | 9 => ("AislewrightModel", "batch", "[I", true)
  | 10 => ("AislewrightModel", "many", "[I", true)
  | 11 => ("AislewrightModel", "product", "[I", true)
  | 12 => ("AislewrightModel", "quantity", "[I", true)
  | 13 => ("AislewrightModel", "batches", "I", false)
  | 14 => ("AislewrightModel", "walked", "I", false)
  | 15 => ("AislewrightModel", "alone", "J", false)
  | 16 => ("AislewrightModel", "stops", "I", false)
  | 17 => ("AislewrightModel", "stop", "[I", true)
  | 18 => ("AislewrightModel", "on", "[I", true)
  | 19 => ("AislewrightModel", "path", "[I", true)
  | 20 => ("AislewrightModel", "ranked", "[I", true)
  | _ => ("AislewrightModel", "spots", "[I", true)
def tyX6 : Nat → FieldType := fun k => match k with
  | 0 => .int
  | 1 => .int
  | 2 => .int
  | 3 => .int
  | 4 => .int
  | 5 => .array .int
  | 6 => .int
  | 7 => .array .int
  | 8 => .array .int
  | 9 => .array .int
  | 10 => .array .int
  | 11 => .array .int
  | 12 => .array .int
  | 13 => .int
  | 14 => .int
  | 15 => .long
  | 16 => .int
  | 17 => .array .int
  | 18 => .array .int
  | 19 => .array .int
  | 20 => .array .int
  | _ => .array .int
abbrev wsX60 : List Cond := u_ws RX6 TX6 22
theorem nmX6 : ∀ a, a < 22 → ∀ b, b < 22 → a ≠ b → (TX6 a).2.1 ≠ (TX6 b).2.1 := by decide +kernel
theorem tyX6_ok : ∀ k, k < 22 → parseFieldDescriptor (TX6 k).2.2.1 = some (tyX6 k) := by decide +kernel
abbrev cX6_init : ByteArray := prog_8_method_1_code
def yX6_init : MethodName := ⟨RX6, "<init>", "(III)V"⟩
abbrev cX6_thrown : ByteArray := prog_8_method_2_code
def yX6_thrown : MethodName := ⟨RX6, "thrown", "()I"⟩
abbrev cX6_fails : ByteArray := prog_8_method_3_code
def yX6_fails : MethodName := ⟨RX6, "fails", "(I)I"⟩
abbrev cX6_in : ByteArray := prog_8_method_4_code
def yX6_in : MethodName := ⟨RX6, "in", "(III)Z"⟩
abbrev cX6_isProduct : ByteArray := prog_8_method_5_code
def yX6_isProduct : MethodName := ⟨RX6, "isProduct", "(I)Z"⟩
abbrev cX6_isOrder : ByteArray := prog_8_method_6_code
def yX6_isOrder : MethodName := ⟨RX6, "isOrder", "(I)Z"⟩
abbrev cX6_isBatch : ByteArray := prog_8_method_7_code
def yX6_isBatch : MethodName := ⟨RX6, "isBatch", "(I)Z"⟩
abbrev cX6_way : ByteArray := prog_8_method_8_code
def yX6_way : MethodName := ⟨RX6, "way", "(II)I"⟩
abbrev cX6_step : ByteArray := prog_8_method_9_code
def yX6_step : MethodName := ⟨RX6, "step", "(II)I"⟩
abbrev cX6_layRoute : ByteArray := prog_8_method_10_code
def yX6_layRoute : MethodName := ⟨RX6, "layRoute", "(I)V"⟩
abbrev cX6_wayOn : ByteArray := prog_8_method_11_code
def yX6_wayOn : MethodName := ⟨RX6, "wayOn", "(II)I"⟩
abbrev cX6_length : ByteArray := prog_8_method_12_code
def yX6_length : MethodName := ⟨RX6, "length", "(I)I"⟩
abbrev cX6_layPath : ByteArray := prog_8_method_13_code
def yX6_layPath : MethodName := ⟨RX6, "layPath", "(I)V"⟩
abbrev cX6_put : ByteArray := prog_8_method_14_code
def yX6_put : MethodName := ⟨RX6, "put", "(III)I"⟩
abbrev cX6_turnoverOf : ByteArray := prog_8_method_15_code
def yX6_turnoverOf : MethodName := ⟨RX6, "turnoverOf", "(I)I"⟩
abbrev cX6_ranks : ByteArray := prog_8_method_16_code
def yX6_ranks : MethodName := ⟨RX6, "ranks", "(II)V"⟩
abbrev cX6_spreads : ByteArray := prog_8_method_17_code
def yX6_spreads : MethodName := ⟨RX6, "spreads", "(II)V"⟩
abbrev cX6_layOut : ByteArray := prog_8_method_18_code
def yX6_layOut : MethodName := ⟨RX6, "layOut", "()I"⟩
abbrev cX6_placeOf : ByteArray := prog_8_method_19_code
def yX6_placeOf : MethodName := ⟨RX6, "placeOf", "(I)I"⟩
abbrev cX6_turnover : ByteArray := prog_8_method_20_code
def yX6_turnover : MethodName := ⟨RX6, "turnover", "(I)I"⟩
abbrev cX6_distance : ByteArray := prog_8_method_21_code
def yX6_distance : MethodName := ⟨RX6, "distance", "(II)I"⟩
abbrev cX6_order : ByteArray := prog_8_method_22_code
def yX6_order : MethodName := ⟨RX6, "order", "(I)I"⟩
abbrev cX6_wanted : ByteArray := prog_8_method_23_code
def yX6_wanted : MethodName := ⟨RX6, "wanted", "(I)I"⟩
abbrev cX6_line : ByteArray := prog_8_method_24_code
def yX6_line : MethodName := ⟨RX6, "line", "(III)I"⟩
abbrev cX6_orders : ByteArray := prog_8_method_25_code
def yX6_orders : MethodName := ⟨RX6, "orders", "()I"⟩
abbrev cX6_stateOf : ByteArray := prog_8_method_26_code
def yX6_stateOf : MethodName := ⟨RX6, "stateOf", "(I)I"⟩
abbrev cX6_lengthAlone : ByteArray := prog_8_method_27_code
def yX6_lengthAlone : MethodName := ⟨RX6, "lengthAlone", "(I)I"⟩
abbrev cX6_setCapacity : ByteArray := prog_8_method_28_code
def yX6_setCapacity : MethodName := ⟨RX6, "setCapacity", "(I)I"⟩
abbrev cX6_productsOf : ByteArray := prog_8_method_29_code
def yX6_productsOf : MethodName := ⟨RX6, "productsOf", "(I)I"⟩
abbrev cX6_countLines : ByteArray := prog_8_method_30_code
def yX6_countLines : MethodName := ⟨RX6, "countLines", "(I)I"⟩
abbrev cX6_closeUp : ByteArray := prog_8_method_31_code
def yX6_closeUp : MethodName := ⟨RX6, "closeUp", "(I)V"⟩
abbrev cX6_joins : ByteArray := prog_8_method_32_code
def yX6_joins : MethodName := ⟨RX6, "joins", "()Z"⟩
abbrev cX6_planWave : ByteArray := prog_8_method_33_code
def yX6_planWave : MethodName := ⟨RX6, "planWave", "(I)I"⟩
abbrev cX6_pick : ByteArray := prog_8_method_34_code
def yX6_pick : MethodName := ⟨RX6, "pick", "(I)I"⟩
abbrev cX6_batches : ByteArray := prog_8_method_35_code
def yX6_batches : MethodName := ⟨RX6, "batches", "()I"⟩
abbrev cX6_batchOf : ByteArray := prog_8_method_36_code
def yX6_batchOf : MethodName := ⟨RX6, "batchOf", "(I)I"⟩
abbrev cX6_linesOf : ByteArray := prog_8_method_37_code
def yX6_linesOf : MethodName := ⟨RX6, "linesOf", "(I)I"⟩
abbrev cX6_lengthOf : ByteArray := prog_8_method_38_code
def yX6_lengthOf : MethodName := ⟨RX6, "lengthOf", "(I)I"⟩
abbrev cX6_lengthByTrying : ByteArray := prog_8_method_39_code
def yX6_lengthByTrying : MethodName := ⟨RX6, "lengthByTrying", "(I)I"⟩
abbrev cX6_farthest : ByteArray := prog_8_method_40_code
def yX6_farthest : MethodName := ⟨RX6, "farthest", "(II)I"⟩
abbrev cX6_lengthThrough : ByteArray := prog_8_method_41_code
def yX6_lengthThrough : MethodName := ⟨RX6, "lengthThrough", "(I)I"⟩
abbrev cX6_stops : ByteArray := prog_8_method_42_code
def yX6_stops : MethodName := ⟨RX6, "stops", "(I)I"⟩
abbrev cX6_stopAt : ByteArray := prog_8_method_43_code
def yX6_stopAt : MethodName := ⟨RX6, "stopAt", "(II)I"⟩
abbrev cX6_inAisle : ByteArray := prog_8_method_44_code
def yX6_inAisle : MethodName := ⟨RX6, "inAisle", "(I)I"⟩
abbrev cX6_walked : ByteArray := prog_8_method_45_code
def yX6_walked : MethodName := ⟨RX6, "walked", "()I"⟩
abbrev cX6_share : ByteArray := prog_8_method_46_code
def yX6_share : MethodName := ⟨RX6, "share", "()D"⟩
def RJx145de : String := "java/io/Serializable"
def TJx145de : u_T := fun k => match k with
  | _ => ("", "", "", false)
def tyJx145de : Nat → FieldType := fun k => match k with
  | _ => .int
abbrev wsJx145de0 : List Cond := u_ws RJx145de TJx145de 0
theorem nmJx145de : ∀ a, a < 0 → ∀ b, b < 0 → a ≠ b → (TJx145de a).2.1 ≠ (TJx145de b).2.1 := by decide +kernel
theorem tyJx145de_ok : ∀ k, k < 0 → parseFieldDescriptor (TJx145de k).2.2.1 = some (tyJx145de k) := by decide +kernel
def RJx8e188 : String := "java/lang/Cloneable"
def TJx8e188 : u_T := fun k => match k with
  | _ => ("", "", "", false)
def tyJx8e188 : Nat → FieldType := fun k => match k with
  | _ => .int
abbrev wsJx8e1880 : List Cond := u_ws RJx8e188 TJx8e188 0
theorem nmJx8e188 : ∀ a, a < 0 → ∀ b, b < 0 → a ≠ b → (TJx8e188 a).2.1 ≠ (TJx8e188 b).2.1 := by decide +kernel
theorem tyJx8e188_ok : ∀ k, k < 0 → parseFieldDescriptor (TJx8e188 k).2.2.1 = some (tyJx8e188 k) := by decide +kernel
def RJ6 : String := "java/lang/Integer"
def TJ6 : u_T := fun k => match k with
  | _ => ("", "", "", false)
def tyJ6 : Nat → FieldType := fun k => match k with
  | _ => .int
abbrev wsJ60 : List Cond := u_ws RJ6 TJ6 0
theorem nmJ6 : ∀ a, a < 0 → ∀ b, b < 0 → a ≠ b → (TJ6 a).2.1 ≠ (TJ6 b).2.1 := by decide +kernel
theorem tyJ6_ok : ∀ k, k < 0 → parseFieldDescriptor (TJ6 k).2.2.1 = some (tyJ6 k) := by decide +kernel
abbrev cJ6_bitCount_0f7a4 : ByteArray := prog_15_method_49_code
def yJ6_bitCount_0f7a4 : MethodName := ⟨RJ6, "bitCount", "(I)I"⟩
def RJxab1ab : String := "java/lang/Iterable"
def TJxab1ab : u_T := fun k => match k with
  | _ => ("", "", "", false)
def tyJxab1ab : Nat → FieldType := fun k => match k with
  | _ => .int
abbrev wsJxab1ab0 : List Cond := u_ws RJxab1ab TJxab1ab 0
theorem nmJxab1ab : ∀ a, a < 0 → ∀ b, b < 0 → a ≠ b → (TJxab1ab a).2.1 ≠ (TJxab1ab b).2.1 := by decide +kernel
theorem tyJxab1ab_ok : ∀ k, k < 0 → parseFieldDescriptor (TJxab1ab k).2.2.1 = some (tyJxab1ab k) := by decide +kernel
def RJ9 : String := "java/lang/Math"
def TJ9 : u_T := fun k => match k with
  | _ => ("", "", "", false)
def tyJ9 : Nat → FieldType := fun k => match k with
  | _ => .int
abbrev wsJ90 : List Cond := u_ws RJ9 TJ9 0
theorem nmJ9 : ∀ a, a < 0 → ∀ b, b < 0 → a ≠ b → (TJ9 a).2.1 ≠ (TJ9 b).2.1 := by decide +kernel
theorem tyJ9_ok : ∀ k, k < 0 → parseFieldDescriptor (TJ9 k).2.2.1 = some (tyJ9 k) := by decide +kernel
abbrev cJ9_abs_0f7a4 : ByteArray := prog_17_method_59_code
def yJ9_abs_0f7a4 : MethodName := ⟨RJ9, "abs", "(I)I"⟩
abbrev cJ9_max_7cf53 : ByteArray := prog_17_method_65_code
def yJ9_max_7cf53 : MethodName := ⟨RJ9, "max", "(II)I"⟩
abbrev cJ9_min_7cf53 : ByteArray := prog_17_method_69_code
def yJ9_min_7cf53 : MethodName := ⟨RJ9, "min", "(II)I"⟩
def RJ0 : String := "java/lang/String"
def TJ0 : u_T := fun k => match k with
  | _ => ("", "", "", false)
def tyJ0 : Nat → FieldType := fun k => match k with
  | _ => .int
abbrev wsJ00 : List Cond := u_ws RJ0 TJ0 0
theorem nmJ0 : ∀ a, a < 0 → ∀ b, b < 0 → a ≠ b → (TJ0 a).2.1 ≠ (TJ0 b).2.1 := by decide +kernel
theorem tyJ0_ok : ∀ k, k < 0 → parseFieldDescriptor (TJ0 k).2.2.1 = some (tyJ0 k) := by decide +kernel
def RJ10 : String := "java/lang/System"
def TJ10 : u_T := fun k => match k with
  | _ => ("", "", "", false)
def tyJ10 : Nat → FieldType := fun k => match k with
  | _ => .int
abbrev wsJ100 : List Cond := u_ws RJ10 TJ10 0
theorem nmJ10 : ∀ a, a < 0 → ∀ b, b < 0 → a ≠ b → (TJ10 a).2.1 ≠ (TJ10 b).2.1 := by decide +kernel
theorem tyJ10_ok : ∀ k, k < 0 → parseFieldDescriptor (TJ10 k).2.2.1 = some (tyJ10 k) := by decide +kernel
def RJxa1e45 : String := "java/util/AbstractCollection"
def TJxa1e45 : u_T := fun k => match k with
  | _ => ("", "", "", false)
def tyJxa1e45 : Nat → FieldType := fun k => match k with
  | _ => .int
abbrev wsJxa1e450 : List Cond := u_ws RJxa1e45 TJxa1e45 0
theorem nmJxa1e45 : ∀ a, a < 0 → ∀ b, b < 0 → a ≠ b → (TJxa1e45 a).2.1 ≠ (TJxa1e45 b).2.1 := by decide +kernel
theorem tyJxa1e45_ok : ∀ k, k < 0 → parseFieldDescriptor (TJxa1e45 k).2.2.1 = some (tyJxa1e45 k) := by decide +kernel
abbrev cJxa1e45_init_da8c8 : ByteArray := prog_22_method_1_code
def yJxa1e45_init_da8c8 : MethodName := ⟨RJxa1e45, "<init>", "()V"⟩
def RJxc12de : String := "java/util/AbstractList"
def TJxc12de : u_T := fun k => match k with
  | _ => ("", "", "", false)
def tyJxc12de : Nat → FieldType := fun k => match k with
  | _ => .int
abbrev wsJxc12de0 : List Cond := u_ws RJxc12de TJxc12de 0
theorem nmJxc12de : ∀ a, a < 0 → ∀ b, b < 0 → a ≠ b → (TJxc12de a).2.1 ≠ (TJxc12de b).2.1 := by decide +kernel
theorem tyJxc12de_ok : ∀ k, k < 0 → parseFieldDescriptor (TJxc12de k).2.2.1 = some (tyJxc12de k) := by decide +kernel
abbrev cJxc12de_init_da8c8 : ByteArray := prog_23_method_1_code
def yJxc12de_init_da8c8 : MethodName := ⟨RJxc12de, "<init>", "()V"⟩
def RJx4a65c : String := "java/util/ArrayList"
def TJx4a65c : u_T := fun k => match k with
  | 0 => ("java/util/AbstractList", "modCount", "I", false)
  | 1 => ("java/util/ArrayList", "elementData", "[Ljava/lang/Object;", false)
  | _ => ("java/util/ArrayList", "size", "I", false)
def tyJx4a65c : Nat → FieldType := fun k => match k with
  | 0 => .int
  | 1 => .array (.object "java/lang/Object")
  | _ => .int
abbrev wsJx4a65c0 : List Cond := u_ws RJx4a65c TJx4a65c 3
theorem nmJx4a65c : ∀ a, a < 3 → ∀ b, b < 3 → a ≠ b → (TJx4a65c a).2.1 ≠ (TJx4a65c b).2.1 := by decide +kernel
theorem tyJx4a65c_ok : ∀ k, k < 3 → parseFieldDescriptor (TJx4a65c k).2.2.1 = some (tyJx4a65c k) := by decide +kernel
abbrev cJx4a65c_init_da8c8 : ByteArray := prog_24_method_2_code
def yJx4a65c_init_da8c8 : MethodName := ⟨RJx4a65c, "<init>", "()V"⟩
abbrev cJx4a65c_grow_92f84 : ByteArray := prog_24_method_6_code
def yJx4a65c_grow_92f84 : MethodName := ⟨RJx4a65c, "grow", "(I)[Ljava/lang/Object;"⟩
abbrev cJx4a65c_grow_d5877 : ByteArray := prog_24_method_7_code
def yJx4a65c_grow_d5877 : MethodName := ⟨RJx4a65c, "grow", "()[Ljava/lang/Object;"⟩
abbrev cJx4a65c_size_8abf5 : ByteArray := prog_24_method_8_code
def yJx4a65c_size_8abf5 : MethodName := ⟨RJx4a65c, "size", "()I"⟩
abbrev cJx4a65c_isEmpty_aae02 : ByteArray := prog_24_method_9_code
def yJx4a65c_isEmpty_aae02 : MethodName := ⟨RJx4a65c, "isEmpty", "()Z"⟩
abbrev cJx4a65c_elementData_915e3 : ByteArray := prog_24_method_18_code
def yJx4a65c_elementData_915e3 : MethodName := ⟨RJx4a65c, "elementData", "(I)Ljava/lang/Object;"⟩
abbrev cJx4a65c_get_915e3 : ByteArray := prog_24_method_20_code
def yJx4a65c_get_915e3 : MethodName := ⟨RJx4a65c, "get", "(I)Ljava/lang/Object;"⟩
abbrev cJx4a65c_add_72be8 : ByteArray := prog_24_method_24_code
def yJx4a65c_add_72be8 : MethodName := ⟨RJx4a65c, "add", "(Ljava/lang/Object;[Ljava/lang/Object;I)V"⟩
abbrev cJx4a65c_add_9ea2d : ByteArray := prog_24_method_25_code
def yJx4a65c_add_9ea2d : MethodName := ⟨RJx4a65c, "add", "(Ljava/lang/Object;)Z"⟩
abbrev cJx4a65c_remove_915e3 : ByteArray := prog_24_method_29_code
def yJx4a65c_remove_915e3 : MethodName := ⟨RJx4a65c, "remove", "(I)Ljava/lang/Object;"⟩
abbrev cJx4a65c_fastRemove_b59b0 : ByteArray := prog_24_method_39_code
def yJx4a65c_fastRemove_b59b0 : MethodName := ⟨RJx4a65c, "fastRemove", "([Ljava/lang/Object;I)V"⟩
def RJ7 : String := "java/util/Arrays"
def TJ7 : u_T := fun k => match k with
  | _ => ("", "", "", false)
def tyJ7 : Nat → FieldType := fun k => match k with
  | _ => .int
abbrev wsJ70 : List Cond := u_ws RJ7 TJ7 0
theorem nmJ7 : ∀ a, a < 0 → ∀ b, b < 0 → a ≠ b → (TJ7 a).2.1 ≠ (TJ7 b).2.1 := by decide +kernel
theorem tyJ7_ok : ∀ k, k < 0 → parseFieldDescriptor (TJ7 k).2.2.1 = some (tyJ7 k) := by decide +kernel
abbrev cJ7_copyOf_1904c : ByteArray := prog_25_method_119_code
def yJ7_copyOf_1904c : MethodName := ⟨RJ7, "copyOf", "([Ljava/lang/Object;I)[Ljava/lang/Object;"⟩
abbrev cJ7_copyOf_6403c : ByteArray := prog_25_method_120_code
def yJ7_copyOf_6403c : MethodName := ⟨RJ7, "copyOf", "([Ljava/lang/Object;ILjava/lang/Class;)[Ljava/lang/Object;"⟩
def RJx5ef63 : String := "java/util/Collection"
def TJx5ef63 : u_T := fun k => match k with
  | _ => ("", "", "", false)
def tyJx5ef63 : Nat → FieldType := fun k => match k with
  | _ => .int
abbrev wsJx5ef630 : List Cond := u_ws RJx5ef63 TJx5ef63 0
theorem nmJx5ef63 : ∀ a, a < 0 → ∀ b, b < 0 → a ≠ b → (TJx5ef63 a).2.1 ≠ (TJx5ef63 b).2.1 := by decide +kernel
theorem tyJx5ef63_ok : ∀ k, k < 0 → parseFieldDescriptor (TJx5ef63 k).2.2.1 = some (tyJx5ef63 k) := by decide +kernel
def RJxbd725 : String := "java/util/List"
def TJxbd725 : u_T := fun k => match k with
  | _ => ("", "", "", false)
def tyJxbd725 : Nat → FieldType := fun k => match k with
  | _ => .int
abbrev wsJxbd7250 : List Cond := u_ws RJxbd725 TJxbd725 0
theorem nmJxbd725 : ∀ a, a < 0 → ∀ b, b < 0 → a ≠ b → (TJxbd725 a).2.1 ≠ (TJxbd725 b).2.1 := by decide +kernel
theorem tyJxbd725_ok : ∀ k, k < 0 → parseFieldDescriptor (TJxbd725 k).2.2.1 = some (tyJxbd725 k) := by decide +kernel
def RJ15 : String := "java/util/Objects"
def TJ15 : u_T := fun k => match k with
  | _ => ("", "", "", false)
def tyJ15 : Nat → FieldType := fun k => match k with
  | _ => .int
abbrev wsJ150 : List Cond := u_ws RJ15 TJ15 0
theorem nmJ15 : ∀ a, a < 0 → ∀ b, b < 0 → a ≠ b → (TJ15 a).2.1 ≠ (TJ15 b).2.1 := by decide +kernel
theorem tyJ15_ok : ∀ k, k < 0 → parseFieldDescriptor (TJ15 k).2.2.1 = some (tyJ15 k) := by decide +kernel
abbrev cJ15_checkIndex_7cf53 : ByteArray := prog_28_method_17_code
def yJ15_checkIndex_7cf53 : MethodName := ⟨RJ15, "checkIndex", "(II)I"⟩
def RJxf0a74 : String := "java/util/RandomAccess"
def TJxf0a74 : u_T := fun k => match k with
  | _ => ("", "", "", false)
def tyJxf0a74 : Nat → FieldType := fun k => match k with
  | _ => .int
abbrev wsJxf0a740 : List Cond := u_ws RJxf0a74 TJxf0a74 0
theorem nmJxf0a74 : ∀ a, a < 0 → ∀ b, b < 0 → a ≠ b → (TJxf0a74 a).2.1 ≠ (TJxf0a74 b).2.1 := by decide +kernel
theorem tyJxf0a74_ok : ∀ k, k < 0 → parseFieldDescriptor (TJxf0a74 k).2.2.1 = some (tyJxf0a74 k) := by decide +kernel
def RJxa66e6 : String := "java/util/SequencedCollection"
def TJxa66e6 : u_T := fun k => match k with
  | _ => ("", "", "", false)
def tyJxa66e6 : Nat → FieldType := fun k => match k with
  | _ => .int
abbrev wsJxa66e60 : List Cond := u_ws RJxa66e6 TJxa66e6 0
theorem nmJxa66e6 : ∀ a, a < 0 → ∀ b, b < 0 → a ≠ b → (TJxa66e6 a).2.1 ≠ (TJxa66e6 b).2.1 := by decide +kernel
theorem tyJxa66e6_ok : ∀ k, k < 0 → parseFieldDescriptor (TJxa66e6 k).2.2.1 = some (tyJxa66e6 k) := by decide +kernel
def RJ8 : String := "jdk/internal/util/ArraysSupport"
def TJ8 : u_T := fun k => match k with
  | _ => ("", "", "", false)
def tyJ8 : Nat → FieldType := fun k => match k with
  | _ => .int
abbrev wsJ80 : List Cond := u_ws RJ8 TJ8 0
theorem nmJ8 : ∀ a, a < 0 → ∀ b, b < 0 → a ≠ b → (TJ8 a).2.1 ≠ (TJ8 b).2.1 := by decide +kernel
theorem tyJ8_ok : ∀ k, k < 0 → parseFieldDescriptor (TJ8 k).2.2.1 = some (tyJ8 k) := by decide +kernel
abbrev cJ8_newLength_cabcc : ByteArray := prog_31_method_27_code
def yJ8_newLength_cabcc : MethodName := ⟨RJ8, "newLength", "(III)I"⟩
abbrev cJ8_hugeLength_7cf53 : ByteArray := prog_31_method_28_code
def yJ8_hugeLength_7cf53 : MethodName := ⟨RJ8, "hugeLength", "(II)I"⟩
def RJ3 : String := "jdk/internal/util/Preconditions"
def TJ3 : u_T := fun k => match k with
  | _ => ("", "", "", false)
def tyJ3 : Nat → FieldType := fun k => match k with
  | _ => .int
abbrev wsJ30 : List Cond := u_ws RJ3 TJ3 0
theorem nmJ3 : ∀ a, a < 0 → ∀ b, b < 0 → a ≠ b → (TJ3 a).2.1 ≠ (TJ3 b).2.1 := by decide +kernel
theorem tyJ3_ok : ∀ k, k < 0 → parseFieldDescriptor (TJ3 k).2.2.1 = some (tyJ3 k) := by decide +kernel
abbrev cJ3_checkIndex_8e157 : ByteArray := prog_32_method_11_code
def yJ3_checkIndex_8e157 : MethodName := ⟨RJ3, "checkIndex", "(IILjava/util/function/BiFunction;)I"⟩
def RL : String := "AislewrightLaw"
abbrev cL_cell : ByteArray := method_2_code
def yL_cell : MethodName := ⟨RL, "cell", "([II)I"⟩
abbrev cL_put : ByteArray := method_3_code
def yL_put : MethodName := ⟨RL, "put", "(LAislewright;III[J)I"⟩
abbrev cL_layOut : ByteArray := method_4_code
def yL_layOut : MethodName := ⟨RL, "layOut", "(LAislewright;[J)I"⟩
abbrev cL_placeOf : ByteArray := method_5_code
def yL_placeOf : MethodName := ⟨RL, "placeOf", "(LAislewright;I[J)I"⟩
abbrev cL_turnover : ByteArray := method_6_code
def yL_turnover : MethodName := ⟨RL, "turnover", "(LAislewright;I[J)I"⟩
abbrev cL_distance : ByteArray := method_7_code
def yL_distance : MethodName := ⟨RL, "distance", "(LAislewright;II[J)I"⟩
abbrev cL_order : ByteArray := method_8_code
def yL_order : MethodName := ⟨RL, "order", "(LAislewright;I[J)I"⟩
abbrev cL_line : ByteArray := method_9_code
def yL_line : MethodName := ⟨RL, "line", "(LAislewright;III[J)I"⟩
abbrev cL_stateOf : ByteArray := method_10_code
def yL_stateOf : MethodName := ⟨RL, "stateOf", "(LAislewright;I[J)I"⟩
abbrev cL_lengthAlone : ByteArray := method_11_code
def yL_lengthAlone : MethodName := ⟨RL, "lengthAlone", "(LAislewright;I[J)I"⟩
abbrev cL_setCapacity : ByteArray := method_12_code
def yL_setCapacity : MethodName := ⟨RL, "setCapacity", "(LAislewright;I[J)I"⟩
abbrev cL_planWave : ByteArray := method_13_code
def yL_planWave : MethodName := ⟨RL, "planWave", "(LAislewright;I[J)I"⟩
abbrev cL_pick : ByteArray := method_14_code
def yL_pick : MethodName := ⟨RL, "pick", "(LAislewright;I[J)I"⟩
abbrev cL_batchOf : ByteArray := method_15_code
def yL_batchOf : MethodName := ⟨RL, "batchOf", "(LAislewright;I[J)I"⟩
abbrev cL_linesOf : ByteArray := method_16_code
def yL_linesOf : MethodName := ⟨RL, "linesOf", "(LAislewright;I[J)I"⟩
abbrev cL_lengthOf : ByteArray := method_17_code
def yL_lengthOf : MethodName := ⟨RL, "lengthOf", "(LAislewright;I[J)I"⟩
abbrev cL_lengthByTrying : ByteArray := method_18_code
def yL_lengthByTrying : MethodName := ⟨RL, "lengthByTrying", "(LAislewright;I[J)I"⟩
abbrev cL_lengthThrough : ByteArray := method_19_code
def yL_lengthThrough : MethodName := ⟨RL, "lengthThrough", "(LAislewright;I[J)I"⟩
abbrev cL_stops : ByteArray := method_20_code
def yL_stops : MethodName := ⟨RL, "stops", "(LAislewright;I[J)I"⟩
abbrev cL_stopAt : ByteArray := method_21_code
def yL_stopAt : MethodName := ⟨RL, "stopAt", "(LAislewright;II[J)I"⟩
abbrev cL_inAisle : ByteArray := method_22_code
def yL_inAisle : MethodName := ⟨RL, "inAisle", "(LAislewright;I[J)I"⟩
abbrev cL_law : ByteArray := code
def yL_law : MethodName := ⟨RL, "law", "([I)Z"⟩
abbrev vwCl : List vw_C := [(RJx4a65c, TJx4a65c, 3), (RX0, TX0, 6), (RX1, TX1, 4), (RX2, TX2, 5), (RX3, TX3, 7), (RX4, TX4, 3), (RX5, TX5, 7), (RX6, TX6, 22)]
end
section
/-- words of nest mates and casts -/
def isNest : Cond → Bool
  | .fieldLinkNest .. => true
  | .methodLinkNest .. => true
  | .castable .. => true
  | .declares .. => true
  | _ => false
def UN : List Cond := lw_tbl.filter isNest
theorem un {w : Cond} (i : Nat) (h : lw_tbl[i]? = some w) (hg : isNest w = true) : w ∈ UN := List.mem_filter.mpr ⟨List.mem_of_getElem? h, hg⟩
/-- all words that stay good -/
def UW : List Cond := lw_tbl.filter goodWord
theorem uw {w : Cond} (i : Nat) (h : lw_tbl[i]? = some w) (hg : goodWord w = true) : w ∈ UW := List.mem_filter.mpr ⟨List.mem_of_getElem? h, hg⟩
theorem u_se_yX3_insertPlace : (.selects RX3 yX3_insertPlace yX3_insertPlace : Cond) ∈ UW := uw 1 (by decide +kernel) (by decide +kernel)
theorem u_se_yX3_isNearer : (.selects RX3 yX3_isNearer yX3_isNearer : Cond) ∈ UW := uw 2 (by decide +kernel) (by decide +kernel)
theorem u_se_yX3_insertProduct : (.selects RX3 yX3_insertProduct yX3_insertProduct : Cond) ∈ UW := uw 3 (by decide +kernel) (by decide +kernel)
theorem u_se_yJx4a65c_add_72be8 : (.selects RJx4a65c yJx4a65c_add_72be8 yJx4a65c_add_72be8 : Cond) ∈ UW := uw 4 (by decide +kernel) (by decide +kernel)
theorem u_se_yJx4a65c_grow_d5877 : (.selects RJx4a65c yJx4a65c_grow_d5877 yJx4a65c_grow_d5877 : Cond) ∈ UW := uw 5 (by decide +kernel) (by decide +kernel)
theorem u_se_yJx4a65c_grow_92f84 : (.selects RJx4a65c yJx4a65c_grow_92f84 yJx4a65c_grow_92f84 : Cond) ∈ UW := uw 6 (by decide +kernel) (by decide +kernel)
theorem u_se_yX5_orderNumbered : (.selects RX5 yX5_orderNumbered yX5_orderNumbered : Cond) ∈ UW := uw 7 (by decide +kernel) (by decide +kernel)
theorem u_se_yX5_takesLine : (.selects RX5 yX5_takesLine yX5_takesLine : Cond) ∈ UW := uw 8 (by decide +kernel) (by decide +kernel)
theorem u_se_yX2_gather : (.selects RX2 yX2_gather yX2_gather : Cond) ∈ UW := uw 9 (by decide +kernel) (by decide +kernel)
theorem u_se_yX2_insertPlace : (.selects RX2 yX2_insertPlace yX2_insertPlace : Cond) ∈ UW := uw 10 (by decide +kernel) (by decide +kernel)
theorem u_se_yX2_fillOnward : (.selects RX2 yX2_fillOnward yX2_fillOnward : Cond) ∈ UW := uw 11 (by decide +kernel) (by decide +kernel)
theorem u_se_yX2_leastOnward : (.selects RX2 yX2_leastOnward yX2_leastOnward : Cond) ∈ UW := uw 12 (by decide +kernel) (by decide +kernel)
theorem u_se_yX2_lengthBy : (.selects RX2 yX2_lengthBy yX2_lengthBy : Cond) ∈ UW := uw 13 (by decide +kernel) (by decide +kernel)
theorem u_se_yX2_everyPlace : (.selects RX2 yX2_everyPlace yX2_everyPlace : Cond) ∈ UW := uw 14 (by decide +kernel) (by decide +kernel)
theorem u_se_yX5_mostLinesToDo : (.selects RX5 yX5_mostLinesToDo yX5_mostLinesToDo : Cond) ∈ UW := uw 15 (by decide +kernel) (by decide +kernel)
theorem u_se_yX5_takesAnyOrder : (.selects RX5 yX5_takesAnyOrder yX5_takesAnyOrder : Cond) ∈ UW := uw 16 (by decide +kernel) (by decide +kernel)
theorem u_se_yX4_noteSaving : (.selects RX4 yX4_noteSaving yX4_noteSaving : Cond) ∈ UW := uw 17 (by decide +kernel) (by decide +kernel)
theorem u_se_yX4_joinBestPair : (.selects RX4 yX4_joinBestPair yX4_joinBestPair : Cond) ∈ UW := uw 18 (by decide +kernel) (by decide +kernel)
theorem u_se_yX4_savingOf : (.selects RX4 yX4_savingOf yX4_savingOf : Cond) ∈ UW := uw 19 (by decide +kernel) (by decide +kernel)
theorem u_se_yJx4a65c_fastRemove_b59b0 : (.selects RJx4a65c yJx4a65c_fastRemove_b59b0 yJx4a65c_fastRemove_b59b0 : Cond) ∈ UW := uw 20 (by decide +kernel) (by decide +kernel)
theorem u_se_yX2_bestNext : (.selects RX2 yX2_bestNext yX2_bestNext : Cond) ∈ UW := uw 21 (by decide +kernel) (by decide +kernel)
theorem u_se_yX5_batchNumbered : (.selects RX5 yX5_batchNumbered yX5_batchNumbered : Cond) ∈ UW := uw 22 (by decide +kernel) (by decide +kernel)
theorem u_se_yX5_finish : (.selects RX5 yX5_finish yX5_finish : Cond) ∈ UW := uw 23 (by decide +kernel) (by decide +kernel)
theorem u_se_yX2_tryFrom : (.selects RX2 yX2_tryFrom yX2_tryFrom : Cond) ∈ UW := uw 24 (by decide +kernel) (by decide +kernel)
theorem u_se_yX2_countAisles : (.selects RX2 yX2_countAisles yX2_countAisles : Cond) ∈ UW := uw 25 (by decide +kernel) (by decide +kernel)
theorem u_se_yX6_fails : (.selects RX6 yX6_fails yX6_fails : Cond) ∈ UW := uw 26 (by decide +kernel) (by decide +kernel)
theorem u_se_yX6_ranks : (.selects RX6 yX6_ranks yX6_ranks : Cond) ∈ UW := uw 27 (by decide +kernel) (by decide +kernel)
theorem u_se_yX6_turnoverOf : (.selects RX6 yX6_turnoverOf yX6_turnoverOf : Cond) ∈ UW := uw 28 (by decide +kernel) (by decide +kernel)
theorem u_se_yX6_spreads : (.selects RX6 yX6_spreads yX6_spreads : Cond) ∈ UW := uw 29 (by decide +kernel) (by decide +kernel)
theorem u_se_yX6_way : (.selects RX6 yX6_way yX6_way : Cond) ∈ UW := uw 30 (by decide +kernel) (by decide +kernel)
theorem u_se_yX6_isOrder : (.selects RX6 yX6_isOrder yX6_isOrder : Cond) ∈ UW := uw 31 (by decide +kernel) (by decide +kernel)
theorem u_se_yX6_wanted : (.selects RX6 yX6_wanted yX6_wanted : Cond) ∈ UW := uw 32 (by decide +kernel) (by decide +kernel)
theorem u_se_yX6_length : (.selects RX6 yX6_length yX6_length : Cond) ∈ UW := uw 33 (by decide +kernel) (by decide +kernel)
theorem u_se_yX6_layRoute : (.selects RX6 yX6_layRoute yX6_layRoute : Cond) ∈ UW := uw 34 (by decide +kernel) (by decide +kernel)
theorem u_se_yX6_wayOn : (.selects RX6 yX6_wayOn yX6_wayOn : Cond) ∈ UW := uw 35 (by decide +kernel) (by decide +kernel)
theorem u_se_yX6_step : (.selects RX6 yX6_step yX6_step : Cond) ∈ UW := uw 36 (by decide +kernel) (by decide +kernel)
theorem u_se_yX6_joins : (.selects RX6 yX6_joins yX6_joins : Cond) ∈ UW := uw 37 (by decide +kernel) (by decide +kernel)
theorem u_se_yX6_countLines : (.selects RX6 yX6_countLines yX6_countLines : Cond) ∈ UW := uw 38 (by decide +kernel) (by decide +kernel)
theorem u_se_yX6_productsOf : (.selects RX6 yX6_productsOf yX6_productsOf : Cond) ∈ UW := uw 39 (by decide +kernel) (by decide +kernel)
theorem u_se_yX6_closeUp : (.selects RX6 yX6_closeUp yX6_closeUp : Cond) ∈ UW := uw 40 (by decide +kernel) (by decide +kernel)
theorem u_se_yX6_isBatch : (.selects RX6 yX6_isBatch yX6_isBatch : Cond) ∈ UW := uw 41 (by decide +kernel) (by decide +kernel)
theorem u_se_yX6_farthest : (.selects RX6 yX6_farthest yX6_farthest : Cond) ∈ UW := uw 42 (by decide +kernel) (by decide +kernel)
theorem u_se_yX6_layPath : (.selects RX6 yX6_layPath yX6_layPath : Cond) ∈ UW := uw 43 (by decide +kernel) (by decide +kernel)
theorem u_in_RL : (.initialized RL : Cond) ∈ UW := uw 44 (by decide +kernel) (by decide +kernel)
theorem u_in_RX5 : (.initialized RX5 : Cond) ∈ UW := uw 45 (by decide +kernel) (by decide +kernel)
theorem u_in_RX3 : (.initialized RX3 : Cond) ∈ UW := uw 46 (by decide +kernel) (by decide +kernel)
theorem u_in_RJ9 : (.initialized RJ9 : Cond) ∈ UW := uw 47 (by decide +kernel) (by decide +kernel)
theorem u_in_RX2 : (.initialized RX2 : Cond) ∈ UW := uw 48 (by decide +kernel) (by decide +kernel)
theorem u_in_RX4 : (.initialized RX4 : Cond) ∈ UW := uw 49 (by decide +kernel) (by decide +kernel)
theorem u_in_RJxa1e45 : (.initialized RJxa1e45 : Cond) ∈ UW := uw 50 (by decide +kernel) (by decide +kernel)
theorem u_in_RJxc12de : (.initialized RJxc12de : Cond) ∈ UW := uw 51 (by decide +kernel) (by decide +kernel)
theorem u_in_RJx4a65c : (.initialized RJx4a65c : Cond) ∈ UW := uw 52 (by decide +kernel) (by decide +kernel)
theorem u_in_RX6 : (.initialized RX6 : Cond) ∈ UW := uw 53 (by decide +kernel) (by decide +kernel)
theorem u_in_java_lang_Throwable : (.initialized "java/lang/Throwable" : Cond) ∈ UW := uw 54 (by decide +kernel) (by decide +kernel)
theorem u_in_java_lang_Exception : (.initialized "java/lang/Exception" : Cond) ∈ UW := uw 55 (by decide +kernel) (by decide +kernel)
theorem u_in_java_lang_RuntimeException : (.initialized "java/lang/RuntimeException" : Cond) ∈ UW := uw 56 (by decide +kernel) (by decide +kernel)
theorem u_in_java_lang_IndexOutOfBoundsException : (.initialized "java/lang/IndexOutOfBoundsException" : Cond) ∈ UW := uw 57 (by decide +kernel) (by decide +kernel)
theorem u_in_java_lang_IllegalStateException : (.initialized "java/lang/IllegalStateException" : Cond) ∈ UW := uw 58 (by decide +kernel) (by decide +kernel)
theorem u_in_java_lang_IllegalArgumentException : (.initialized "java/lang/IllegalArgumentException" : Cond) ∈ UW := uw 59 (by decide +kernel) (by decide +kernel)
theorem u_in_RX1 : (.initialized RX1 : Cond) ∈ UW := uw 60 (by decide +kernel) (by decide +kernel)
theorem u_in_RJ8 : (.initialized RJ8 : Cond) ∈ UW := uw 61 (by decide +kernel) (by decide +kernel)
theorem u_in_RJ7 : (.initialized RJ7 : Cond) ∈ UW := uw 62 (by decide +kernel) (by decide +kernel)
theorem u_in_RJ10 : (.initialized RJ10 : Cond) ∈ UW := uw 63 (by decide +kernel) (by decide +kernel)
theorem u_in_RJ15 : (.initialized RJ15 : Cond) ∈ UW := uw 64 (by decide +kernel) (by decide +kernel)
theorem u_in_RJ3 : (.initialized RJ3 : Cond) ∈ UW := uw 65 (by decide +kernel) (by decide +kernel)
theorem u_in_RJ6 : (.initialized RJ6 : Cond) ∈ UW := uw 66 (by decide +kernel) (by decide +kernel)
theorem u_in_RX0 : (.initialized RX0 : Cond) ∈ UW := uw 67 (by decide +kernel) (by decide +kernel)
theorem u_cl_RL_8 : (.classLink RL 8 RX5 : Cond) ∈ UW := uw 68 (by decide +kernel) (by decide +kernel)
theorem u_is_RX5 : (.instantiable RX5 7 : Cond) ∈ UW := uw 69 (by decide +kernel) (by decide +kernel)
theorem u_ml_RL_85 : (.methodLink RL 85 yX5_init : Cond) ∈ UW := uw 70 (by decide +kernel) (by decide +kernel)
theorem u_im_yX5_init : (.instanceMethod yX5_init : Cond) ∈ UW := uw 71 (by decide +kernel) (by decide +kernel)
theorem u_co_yX5_init : (.code yX5_init cX5_init 4 (none) : Cond) ∈ UW := uw 72 (by decide +kernel) (by decide +kernel)
theorem u_ml_RX5_1 : (.methodLink RX5 1 objectInit : Cond) ∈ UW := uw 73 (by decide +kernel) (by decide +kernel)
theorem u_im_objectInit : (.instanceMethod objectInit : Cond) ∈ UW := uw 74 (by decide +kernel) (by decide +kernel)
theorem u_co_objectInit : (.code objectInit ⟨#[0xb1]⟩ 1 (none) : Cond) ∈ UW := uw 75 (by decide +kernel) (by decide +kernel)
theorem u_cl_RX5_7 : (.classLink RX5 7 RX3 : Cond) ∈ UW := uw 76 (by decide +kernel) (by decide +kernel)
theorem u_is_RX3 : (.instantiable RX3 7 : Cond) ∈ UW := uw 77 (by decide +kernel) (by decide +kernel)
theorem u_ml_RX5_11 : (.methodLink RX5 11 yX5_within : Cond) ∈ UW := uw 78 (by decide +kernel) (by decide +kernel)
theorem u_st_yX5_within : (.static yX5_within : Cond) ∈ UW := uw 79 (by decide +kernel) (by decide +kernel)
theorem u_co_yX5_within : (.code yX5_within cX5_within 2 (some FieldType.int) : Cond) ∈ UW := uw 80 (by decide +kernel) (by decide +kernel)
theorem u_ml_RX5_230 : (.methodLink RX5 230 yJ9_min_7cf53 : Cond) ∈ UW := uw 81 (by decide +kernel) (by decide +kernel)
theorem u_st_yJ9_min_7cf53 : (.static yJ9_min_7cf53 : Cond) ∈ UW := uw 82 (by decide +kernel) (by decide +kernel)
theorem u_co_yJ9_min_7cf53 : (.code yJ9_min_7cf53 cJ9_min_7cf53 2 (some FieldType.int) : Cond) ∈ UW := uw 83 (by decide +kernel) (by decide +kernel)
theorem u_ml_RX5_235 : (.methodLink RX5 235 yJ9_max_7cf53 : Cond) ∈ UW := uw 84 (by decide +kernel) (by decide +kernel)
theorem u_st_yJ9_max_7cf53 : (.static yJ9_max_7cf53 : Cond) ∈ UW := uw 85 (by decide +kernel) (by decide +kernel)
theorem u_co_yJ9_max_7cf53 : (.code yJ9_max_7cf53 cJ9_max_7cf53 2 (some FieldType.int) : Cond) ∈ UW := uw 86 (by decide +kernel) (by decide +kernel)
theorem u_ml_RX5_15 : (.methodLink RX5 15 yX3_init : Cond) ∈ UW := uw 87 (by decide +kernel) (by decide +kernel)
theorem u_im_yX3_init : (.instanceMethod yX3_init : Cond) ∈ UW := uw 88 (by decide +kernel) (by decide +kernel)
theorem u_co_yX3_init : (.code yX3_init cX3_init 5 (none) : Cond) ∈ UW := uw 89 (by decide +kernel) (by decide +kernel)
theorem u_ml_RX3_3 : (.methodLink RX3 3 objectInit : Cond) ∈ UW := uw 90 (by decide +kernel) (by decide +kernel)
theorem u_fl_RX3_24 : (.fieldLink RX3 24 "Aislewright$Warehouse" "aisles" "I" : Cond) ∈ UW := uw 91 (by decide +kernel) (by decide +kernel)
theorem u_fl_RX3_28 : (.fieldLink RX3 28 "Aislewright$Warehouse" "positions" "I" : Cond) ∈ UW := uw 92 (by decide +kernel) (by decide +kernel)
theorem u_fl_RX3_31 : (.fieldLink RX3 31 "Aislewright$Warehouse" "gap" "I" : Cond) ∈ UW := uw 93 (by decide +kernel) (by decide +kernel)
theorem n_fn_RX2_62 : (.fieldLinkNest RX2 62 "Aislewright$Warehouse" "gap" "I" RX5 : Cond) ∈ UN := un 94 (by decide +kernel) (by decide +kernel)
theorem u_fl_RX3_9 : (.fieldLink RX3 9 "Aislewright$Warehouse" "places" "[I" : Cond) ∈ UW := uw 95 (by decide +kernel) (by decide +kernel)
theorem n_fn_RX5_91 : (.fieldLinkNest RX5 91 "Aislewright$Warehouse" "places" "[I" RX5 : Cond) ∈ UN := un 96 (by decide +kernel) (by decide +kernel)
theorem n_fn_RX2_69 : (.fieldLinkNest RX2 69 "Aislewright$Warehouse" "places" "[I" RX5 : Cond) ∈ UN := un 97 (by decide +kernel) (by decide +kernel)
theorem u_fl_RX3_15 : (.fieldLink RX3 15 "Aislewright$Warehouse" "turnovers" "[I" : Cond) ∈ UW := uw 98 (by decide +kernel) (by decide +kernel)
theorem n_fn_RX5_95 : (.fieldLinkNest RX5 95 "Aislewright$Warehouse" "turnovers" "[I" RX5 : Cond) ∈ UN := un 99 (by decide +kernel) (by decide +kernel)
theorem u_fl_RX3_18 : (.fieldLink RX3 18 "Aislewright$Warehouse" "nearestPlaces" "[I" : Cond) ∈ UW := uw 100 (by decide +kernel) (by decide +kernel)
theorem u_fl_RX3_21 : (.fieldLink RX3 21 "Aislewright$Warehouse" "busiestProducts" "[I" : Cond) ∈ UW := uw 101 (by decide +kernel) (by decide +kernel)
theorem u_ac_117 : (.arrayClass (FieldType.int) : Cond) ∈ UW := uw 117 (by decide +kernel) (by decide +kernel)
theorem u_cl_RX5_22 : (.classLink RX5 22 RX2 : Cond) ∈ UW := uw 118 (by decide +kernel) (by decide +kernel)
theorem u_is_RX2 : (.instantiable RX2 5 : Cond) ∈ UW := uw 119 (by decide +kernel) (by decide +kernel)
theorem u_ml_RX5_24 : (.methodLink RX5 24 yX2_init : Cond) ∈ UW := uw 120 (by decide +kernel) (by decide +kernel)
theorem u_im_yX2_init : (.instanceMethod yX2_init : Cond) ∈ UW := uw 121 (by decide +kernel) (by decide +kernel)
theorem u_co_yX2_init : (.code yX2_init cX2_init 2 (none) : Cond) ∈ UW := uw 122 (by decide +kernel) (by decide +kernel)
theorem u_ml_RX2_3 : (.methodLink RX2 3 objectInit : Cond) ∈ UW := uw 123 (by decide +kernel) (by decide +kernel)
theorem u_cl_RX2_15 : (.classLink RX2 15 "[[I" : Cond) ∈ UW := uw 124 (by decide +kernel) (by decide +kernel)
theorem u_fl_RX2_23 : (.fieldLink RX2 23 "Aislewright$Router" "warehouse" "LAislewright$Warehouse;" : Cond) ∈ UW := uw 126 (by decide +kernel) (by decide +kernel)
theorem u_fl_RX2_9 : (.fieldLink RX2 9 "Aislewright$Router" "places" "[I" : Cond) ∈ UW := uw 127 (by decide +kernel) (by decide +kernel)
theorem u_fl_RX2_42 : (.fieldLink RX2 42 "Aislewright$Router" "count" "I" : Cond) ∈ UW := uw 128 (by decide +kernel) (by decide +kernel)
theorem u_fl_RX2_17 : (.fieldLink RX2 17 "Aislewright$Router" "ways" "[[I" : Cond) ∈ UW := uw 129 (by decide +kernel) (by decide +kernel)
theorem u_fl_RX2_20 : (.fieldLink RX2 20 "Aislewright$Router" "onward" "[I" : Cond) ∈ UW := uw 130 (by decide +kernel) (by decide +kernel)
theorem u_cl_RX5_31 : (.classLink RX5 31 RX4 : Cond) ∈ UW := uw 142 (by decide +kernel) (by decide +kernel)
theorem u_is_RX4 : (.instantiable RX4 3 : Cond) ∈ UW := uw 143 (by decide +kernel) (by decide +kernel)
theorem u_ml_RX5_33 : (.methodLink RX5 33 yX4_init : Cond) ∈ UW := uw 144 (by decide +kernel) (by decide +kernel)
theorem u_im_yX4_init : (.instanceMethod yX4_init : Cond) ∈ UW := uw 145 (by decide +kernel) (by decide +kernel)
theorem u_co_yX4_init : (.code yX4_init cX4_init 2 (none) : Cond) ∈ UW := uw 146 (by decide +kernel) (by decide +kernel)
theorem u_ml_RX4_3 : (.methodLink RX4 3 objectInit : Cond) ∈ UW := uw 147 (by decide +kernel) (by decide +kernel)
theorem u_cl_RX4_9 : (.classLink RX4 9 RJx4a65c : Cond) ∈ UW := uw 148 (by decide +kernel) (by decide +kernel)
theorem u_is_RJx4a65c : (.instantiable RJx4a65c 3 : Cond) ∈ UW := uw 149 (by decide +kernel) (by decide +kernel)
theorem u_ml_RX4_11 : (.methodLink RX4 11 yJx4a65c_init_da8c8 : Cond) ∈ UW := uw 150 (by decide +kernel) (by decide +kernel)
theorem u_im_yJx4a65c_init_da8c8 : (.instanceMethod yJx4a65c_init_da8c8 : Cond) ∈ UW := uw 151 (by decide +kernel) (by decide +kernel)
theorem u_co_yJx4a65c_init_da8c8 : (.code yJx4a65c_init_da8c8 cJx4a65c_init_da8c8 1 (none) : Cond) ∈ UW := uw 152 (by decide +kernel) (by decide +kernel)
theorem u_ml_RJx4a65c_1 : (.methodLink RJx4a65c 1 yJxc12de_init_da8c8 : Cond) ∈ UW := uw 153 (by decide +kernel) (by decide +kernel)
theorem u_im_yJxc12de_init_da8c8 : (.instanceMethod yJxc12de_init_da8c8 : Cond) ∈ UW := uw 154 (by decide +kernel) (by decide +kernel)
theorem u_co_yJxc12de_init_da8c8 : (.code yJxc12de_init_da8c8 cJxc12de_init_da8c8 1 (none) : Cond) ∈ UW := uw 155 (by decide +kernel) (by decide +kernel)
theorem u_ml_RJxc12de_1 : (.methodLink RJxc12de 1 yJxa1e45_init_da8c8 : Cond) ∈ UW := uw 156 (by decide +kernel) (by decide +kernel)
theorem u_im_yJxa1e45_init_da8c8 : (.instanceMethod yJxa1e45_init_da8c8 : Cond) ∈ UW := uw 157 (by decide +kernel) (by decide +kernel)
theorem u_co_yJxa1e45_init_da8c8 : (.code yJxa1e45_init_da8c8 cJxa1e45_init_da8c8 1 (none) : Cond) ∈ UW := uw 158 (by decide +kernel) (by decide +kernel)
theorem u_ml_RJxa1e45_1 : (.methodLink RJxa1e45 1 objectInit : Cond) ∈ UW := uw 159 (by decide +kernel) (by decide +kernel)
theorem u_fl_RJx4a65c_39 : (.fieldLink RJx4a65c 39 "java/util/ArrayList" "DEFAULTCAPACITY_EMPTY_ELEMENTDATA" "[Ljava/lang/Object;" : Cond) ∈ UW := uw 160 (by decide +kernel) (by decide +kernel)
theorem u_fl_RJx4a65c_9 : (.fieldLink RJx4a65c 9 "java/util/ArrayList" "elementData" "[Ljava/lang/Object;" : Cond) ∈ UW := uw 162 (by decide +kernel) (by decide +kernel)
theorem u_fl_RJx4a65c_48 : (.fieldLink RJx4a65c 48 "java/util/ArrayList" "size" "I" : Cond) ∈ UW := uw 163 (by decide +kernel) (by decide +kernel)
theorem u_fl_RJxc12de_7 : (.fieldLink RJxc12de 7 "java/util/AbstractList" "modCount" "I" : Cond) ∈ UW := uw 164 (by decide +kernel) (by decide +kernel)
theorem u_fl_RJx4a65c_63 : (.fieldLink RJx4a65c 63 "java/util/ArrayList" "modCount" "I" : Cond) ∈ UW := uw 165 (by decide +kernel) (by decide +kernel)
theorem u_sf_166 : (.sameField "java/util/ArrayList" "java/util/AbstractList" "modCount" "I" : Cond) ∈ UW := uw 166 (by decide +kernel) (by decide +kernel)
theorem u_cl_RX4_18 : (.classLink RX4 18 "[[I" : Cond) ∈ UW := uw 174 (by decide +kernel) (by decide +kernel)
theorem u_fl_RX4_23 : (.fieldLink RX4 23 "Aislewright$Wave" "router" "LAislewright$Router;" : Cond) ∈ UW := uw 175 (by decide +kernel) (by decide +kernel)
theorem u_fl_RX4_12 : (.fieldLink RX4 12 "Aislewright$Wave" "batches" "Ljava/util/ArrayList;" : Cond) ∈ UW := uw 176 (by decide +kernel) (by decide +kernel)
theorem n_fn_RX5_246 : (.fieldLinkNest RX5 246 "Aislewright$Wave" "batches" "Ljava/util/ArrayList;" RX5 : Cond) ∈ UN := un 177 (by decide +kernel) (by decide +kernel)
theorem u_fl_RX4_20 : (.fieldLink RX4 20 "Aislewright$Wave" "savings" "[[I" : Cond) ∈ UW := uw 178 (by decide +kernel) (by decide +kernel)
theorem u_cl_RX5_40 : (.classLink RX5 40 RJx4a65c : Cond) ∈ UW := uw 186 (by decide +kernel) (by decide +kernel)
theorem u_ml_RX5_42 : (.methodLink RX5 42 yJx4a65c_init_da8c8 : Cond) ∈ UW := uw 187 (by decide +kernel) (by decide +kernel)
theorem u_fl_RX5_18 : (.fieldLink RX5 18 "Aislewright" "warehouse" "LAislewright$Warehouse;" : Cond) ∈ UW := uw 188 (by decide +kernel) (by decide +kernel)
theorem u_fl_RX5_27 : (.fieldLink RX5 27 "Aislewright" "router" "LAislewright$Router;" : Cond) ∈ UW := uw 189 (by decide +kernel) (by decide +kernel)
theorem u_fl_RX5_36 : (.fieldLink RX5 36 "Aislewright" "wave" "LAislewright$Wave;" : Cond) ∈ UW := uw 190 (by decide +kernel) (by decide +kernel)
theorem u_fl_RX5_43 : (.fieldLink RX5 43 "Aislewright" "book" "Ljava/util/ArrayList;" : Cond) ∈ UW := uw 191 (by decide +kernel) (by decide +kernel)
theorem u_fl_RX5_47 : (.fieldLink RX5 47 "Aislewright" "capacity" "I" : Cond) ∈ UW := uw 192 (by decide +kernel) (by decide +kernel)
theorem u_fl_RX5_193 : (.fieldLink RX5 193 "Aislewright" "walked" "I" : Cond) ∈ UW := uw 193 (by decide +kernel) (by decide +kernel)
theorem u_fl_RX5_227 : (.fieldLink RX5 227 "Aislewright" "walkedAlone" "I" : Cond) ∈ UW := uw 194 (by decide +kernel) (by decide +kernel)
theorem u_ml_RL_119 : (.methodLink RL 119 yX5_orders : Cond) ∈ UW := uw 210 (by decide +kernel) (by decide +kernel)
theorem u_im_yX5_orders : (.instanceMethod yX5_orders : Cond) ∈ UW := uw 211 (by decide +kernel) (by decide +kernel)
theorem u_se_yX5_orders : (.selects RX5 yX5_orders yX5_orders : Cond) ∈ UW := uw 212 (by decide +kernel) (by decide +kernel)
theorem u_co_yX5_orders : (.code yX5_orders cX5_orders 1 (some FieldType.int) : Cond) ∈ UW := uw 213 (by decide +kernel) (by decide +kernel)
theorem u_ml_RX5_106 : (.methodLink RX5 106 yJx4a65c_size_8abf5 : Cond) ∈ UW := uw 214 (by decide +kernel) (by decide +kernel)
theorem u_im_yJx4a65c_size_8abf5 : (.instanceMethod yJx4a65c_size_8abf5 : Cond) ∈ UW := uw 215 (by decide +kernel) (by decide +kernel)
theorem u_se_yJx4a65c_size_8abf5 : (.selects RJx4a65c yJx4a65c_size_8abf5 yJx4a65c_size_8abf5 : Cond) ∈ UW := uw 216 (by decide +kernel) (by decide +kernel)
theorem u_co_yJx4a65c_size_8abf5 : (.code yJx4a65c_size_8abf5 cJx4a65c_size_8abf5 1 (some FieldType.int) : Cond) ∈ UW := uw 217 (by decide +kernel) (by decide +kernel)
theorem u_ml_RL_138 : (.methodLink RL 138 yX5_batches : Cond) ∈ UW := uw 218 (by decide +kernel) (by decide +kernel)
theorem u_im_yX5_batches : (.instanceMethod yX5_batches : Cond) ∈ UW := uw 219 (by decide +kernel) (by decide +kernel)
theorem u_se_yX5_batches : (.selects RX5 yX5_batches yX5_batches : Cond) ∈ UW := uw 220 (by decide +kernel) (by decide +kernel)
theorem u_co_yX5_batches : (.code yX5_batches cX5_batches 1 (some FieldType.int) : Cond) ∈ UW := uw 221 (by decide +kernel) (by decide +kernel)
theorem u_ml_RX5_179 : (.methodLink RX5 179 yX4_size : Cond) ∈ UW := uw 222 (by decide +kernel) (by decide +kernel)
theorem u_im_yX4_size : (.instanceMethod yX4_size : Cond) ∈ UW := uw 223 (by decide +kernel) (by decide +kernel)
theorem u_se_yX4_size : (.selects RX4 yX4_size yX4_size : Cond) ∈ UW := uw 224 (by decide +kernel) (by decide +kernel)
theorem u_co_yX4_size : (.code yX4_size cX4_size 1 (some FieldType.int) : Cond) ∈ UW := uw 225 (by decide +kernel) (by decide +kernel)
theorem u_ml_RX4_31 : (.methodLink RX4 31 yJx4a65c_size_8abf5 : Cond) ∈ UW := uw 226 (by decide +kernel) (by decide +kernel)
theorem u_ml_RL_166 : (.methodLink RL 166 yX5_walked : Cond) ∈ UW := uw 227 (by decide +kernel) (by decide +kernel)
theorem u_im_yX5_walked : (.instanceMethod yX5_walked : Cond) ∈ UW := uw 228 (by decide +kernel) (by decide +kernel)
theorem u_se_yX5_walked : (.selects RX5 yX5_walked yX5_walked : Cond) ∈ UW := uw 229 (by decide +kernel) (by decide +kernel)
theorem u_co_yX5_walked : (.code yX5_walked cX5_walked 1 (some FieldType.int) : Cond) ∈ UW := uw 230 (by decide +kernel) (by decide +kernel)
theorem u_ml_RL_170 : (.methodLink RL 170 yX5_share : Cond) ∈ UW := uw 231 (by decide +kernel) (by decide +kernel)
theorem u_im_yX5_share : (.instanceMethod yX5_share : Cond) ∈ UW := uw 232 (by decide +kernel) (by decide +kernel)
theorem u_se_yX5_share : (.selects RX5 yX5_share yX5_share : Cond) ∈ UW := uw 233 (by decide +kernel) (by decide +kernel)
theorem u_co_yX5_share : (.code yX5_share cX5_share 1 (some FieldType.double) : Cond) ∈ UW := uw 234 (by decide +kernel) (by decide +kernel)
theorem u_ml_RL_79 : (.methodLink RL 79 yL_cell : Cond) ∈ UW := uw 235 (by decide +kernel) (by decide +kernel)
theorem u_st_yL_cell : (.static yL_cell : Cond) ∈ UW := uw 236 (by decide +kernel) (by decide +kernel)
theorem u_co_yL_cell : (.code yL_cell cL_cell 2 (some FieldType.int) : Cond) ∈ UW := uw 237 (by decide +kernel) (by decide +kernel)
theorem u_ml_RL_91 : (.methodLink RL 91 yL_put : Cond) ∈ UW := uw 238 (by decide +kernel) (by decide +kernel)
theorem u_st_yL_put : (.static yL_put : Cond) ∈ UW := uw 239 (by decide +kernel) (by decide +kernel)
theorem u_cl_RL_13 : (.classLink RL 13 "java/lang/IndexOutOfBoundsException" : Cond) ∈ UW := uw 241 (by decide +kernel) (by decide +kernel)
theorem u_cl_RL_15 : (.classLink RL 15 "java/lang/IllegalStateException" : Cond) ∈ UW := uw 242 (by decide +kernel) (by decide +kernel)
theorem u_ml_RL_7 : (.methodLink RL 7 yX5_put : Cond) ∈ UW := uw 243 (by decide +kernel) (by decide +kernel)
theorem u_im_yX5_put : (.instanceMethod yX5_put : Cond) ∈ UW := uw 244 (by decide +kernel) (by decide +kernel)
theorem u_se_yX5_put : (.selects RX5 yX5_put yX5_put : Cond) ∈ UW := uw 245 (by decide +kernel) (by decide +kernel)
theorem u_co_yX5_put : (.code yX5_put cX5_put 6 (some FieldType.int) : Cond) ∈ UW := uw 246 (by decide +kernel) (by decide +kernel)
theorem u_ml_RX5_51 : (.methodLink RX5 51 yX5_checkProduct : Cond) ∈ UW := uw 247 (by decide +kernel) (by decide +kernel)
theorem u_st_yX5_checkProduct : (.static yX5_checkProduct : Cond) ∈ UW := uw 248 (by decide +kernel) (by decide +kernel)
theorem u_co_yX5_checkProduct : (.code yX5_checkProduct cX5_checkProduct 1 (none) : Cond) ∈ UW := uw 249 (by decide +kernel) (by decide +kernel)
theorem u_cl_RX5_62 : (.classLink RX5 62 "java/lang/IndexOutOfBoundsException" : Cond) ∈ UW := uw 250 (by decide +kernel) (by decide +kernel)
theorem u_is_java_lang_IndexOutOfBoundsException : (.instantiable "java/lang/IndexOutOfBoundsException" 6 : Cond) ∈ UW := uw 251 (by decide +kernel) (by decide +kernel)
theorem n_ca_java_lang_IndexOutOfBoundsException_java_lang_IndexOutOfBoundsException : (.castable "java/lang/IndexOutOfBoundsException" "java/lang/IndexOutOfBoundsException" : Cond) ∈ UN := un 252 (by decide +kernel) (by decide +kernel)
theorem u_fl_java_lang_Throwable_198 : (.fieldLink "java/lang/Throwable" 198 "java/lang/Throwable" "backtrace" "Ljava/lang/Object;" : Cond) ∈ UW := uw 271 (by decide +kernel) (by decide +kernel)
theorem u_ml_java_lang_Throwable_1 : (.methodLink "java/lang/Throwable" 1 objectInit : Cond) ∈ UW := uw 275 (by decide +kernel) (by decide +kernel)
theorem u_fl_java_lang_Throwable_13 : (.fieldLink "java/lang/Throwable" 13 "java/lang/Throwable" "UNASSIGNED_STACK" "[Ljava/lang/StackTraceElement;" : Cond) ∈ UW := uw 276 (by decide +kernel) (by decide +kernel)
theorem u_fl_java_lang_Throwable_20 : (.fieldLink "java/lang/Throwable" 20 "java/lang/Throwable" "SUPPRESSED_SENTINEL" "Ljava/util/List;" : Cond) ∈ UW := uw 278 (by decide +kernel) (by decide +kernel)
theorem u_is_java_lang_Throwable : (.instantiable "java/lang/Throwable" 6 : Cond) ∈ UW := uw 289 (by decide +kernel) (by decide +kernel)
theorem u_ml_RX5_66 : (.methodLink RX5 66 ⟨"java/lang/IndexOutOfBoundsException", "<init>", "(Ljava/lang/String;)V"⟩ : Cond) ∈ UW := uw 292 (by decide +kernel) (by decide +kernel)
theorem u_ml_java_lang_IndexOutOfBoundsException_7 : (.methodLink "java/lang/IndexOutOfBoundsException" 7 ⟨"java/lang/RuntimeException", "<init>", "(Ljava/lang/String;)V"⟩ : Cond) ∈ UW := uw 295 (by decide +kernel) (by decide +kernel)
theorem u_ml_java_lang_RuntimeException_7 : (.methodLink "java/lang/RuntimeException" 7 ⟨"java/lang/Exception", "<init>", "(Ljava/lang/String;)V"⟩ : Cond) ∈ UW := uw 298 (by decide +kernel) (by decide +kernel)
theorem u_ml_java_lang_Exception_7 : (.methodLink "java/lang/Exception" 7 ⟨"java/lang/Throwable", "<init>", "(Ljava/lang/String;)V"⟩ : Cond) ∈ UW := uw 301 (by decide +kernel) (by decide +kernel)
theorem u_fl_java_lang_Throwable_198_304 : (.fieldLink "java/lang/Throwable" 198 "java/lang/Throwable" "backtrace" "Ljava/lang/Object;" : Cond) ∈ UW := uw 304 (by decide +kernel) (by decide +kernel)
theorem u_fl_java_lang_Throwable_31 : (.fieldLink "java/lang/Throwable" 31 "java/lang/Throwable" "detailMessage" "Ljava/lang/String;" : Cond) ∈ UW := uw 305 (by decide +kernel) (by decide +kernel)
theorem u_fl_java_lang_Throwable_7 : (.fieldLink "java/lang/Throwable" 7 "java/lang/Throwable" "cause" "Ljava/lang/Throwable;" : Cond) ∈ UW := uw 306 (by decide +kernel) (by decide +kernel)
theorem u_fl_java_lang_Throwable_17 : (.fieldLink "java/lang/Throwable" 17 "java/lang/Throwable" "stackTrace" "[Ljava/lang/StackTraceElement;" : Cond) ∈ UW := uw 307 (by decide +kernel) (by decide +kernel)
theorem u_fl_java_lang_Throwable_24 : (.fieldLink "java/lang/Throwable" 24 "java/lang/Throwable" "suppressedExceptions" "Ljava/util/List;" : Cond) ∈ UW := uw 308 (by decide +kernel) (by decide +kernel)
theorem u_ac_317 : (.arrayClass (FieldType.byte) : Cond) ∈ UW := uw 317 (by decide +kernel) (by decide +kernel)
theorem u_ml_RX5_55 : (.methodLink RX5 55 yX3_hasAisle : Cond) ∈ UW := uw 318 (by decide +kernel) (by decide +kernel)
theorem u_im_yX3_hasAisle : (.instanceMethod yX3_hasAisle : Cond) ∈ UW := uw 319 (by decide +kernel) (by decide +kernel)
theorem u_se_yX3_hasAisle : (.selects RX3 yX3_hasAisle yX3_hasAisle : Cond) ∈ UW := uw 320 (by decide +kernel) (by decide +kernel)
theorem u_co_yX3_hasAisle : (.code yX3_hasAisle cX3_hasAisle 2 (some FieldType.boolean) : Cond) ∈ UW := uw 321 (by decide +kernel) (by decide +kernel)
theorem u_ml_RX5_59 : (.methodLink RX5 59 yX3_hasPosition : Cond) ∈ UW := uw 322 (by decide +kernel) (by decide +kernel)
theorem u_im_yX3_hasPosition : (.instanceMethod yX3_hasPosition : Cond) ∈ UW := uw 323 (by decide +kernel) (by decide +kernel)
theorem u_se_yX3_hasPosition : (.selects RX3 yX3_hasPosition yX3_hasPosition : Cond) ∈ UW := uw 324 (by decide +kernel) (by decide +kernel)
theorem u_co_yX3_hasPosition : (.code yX3_hasPosition cX3_hasPosition 2 (some FieldType.boolean) : Cond) ∈ UW := uw 325 (by decide +kernel) (by decide +kernel)
theorem u_ml_RX5_69 : (.methodLink RX5 69 yX3_productAt : Cond) ∈ UW := uw 327 (by decide +kernel) (by decide +kernel)
theorem u_im_yX3_productAt : (.instanceMethod yX3_productAt : Cond) ∈ UW := uw 328 (by decide +kernel) (by decide +kernel)
theorem u_se_yX3_productAt : (.selects RX3 yX3_productAt yX3_productAt : Cond) ∈ UW := uw 329 (by decide +kernel) (by decide +kernel)
theorem u_co_yX3_productAt : (.code yX3_productAt cX3_productAt 3 (some FieldType.int) : Cond) ∈ UW := uw 330 (by decide +kernel) (by decide +kernel)
theorem u_ml_RX5_73 : (.methodLink RX5 73 yX4_isOn : Cond) ∈ UW := uw 331 (by decide +kernel) (by decide +kernel)
theorem u_im_yX4_isOn : (.instanceMethod yX4_isOn : Cond) ∈ UW := uw 332 (by decide +kernel) (by decide +kernel)
theorem u_se_yX4_isOn : (.selects RX4 yX4_isOn yX4_isOn : Cond) ∈ UW := uw 333 (by decide +kernel) (by decide +kernel)
theorem u_co_yX4_isOn : (.code yX4_isOn cX4_isOn 1 (some FieldType.boolean) : Cond) ∈ UW := uw 334 (by decide +kernel) (by decide +kernel)
theorem u_ml_RX4_27 : (.methodLink RX4 27 yJx4a65c_isEmpty_aae02 : Cond) ∈ UW := uw 335 (by decide +kernel) (by decide +kernel)
theorem u_im_yJx4a65c_isEmpty_aae02 : (.instanceMethod yJx4a65c_isEmpty_aae02 : Cond) ∈ UW := uw 336 (by decide +kernel) (by decide +kernel)
theorem u_se_yJx4a65c_isEmpty_aae02 : (.selects RJx4a65c yJx4a65c_isEmpty_aae02 yJx4a65c_isEmpty_aae02 : Cond) ∈ UW := uw 337 (by decide +kernel) (by decide +kernel)
theorem u_co_yJx4a65c_isEmpty_aae02 : (.code yJx4a65c_isEmpty_aae02 cJx4a65c_isEmpty_aae02 1 (some FieldType.boolean) : Cond) ∈ UW := uw 338 (by decide +kernel) (by decide +kernel)
theorem u_cl_RX5_77 : (.classLink RX5 77 "java/lang/IllegalStateException" : Cond) ∈ UW := uw 339 (by decide +kernel) (by decide +kernel)
theorem u_is_java_lang_IllegalStateException : (.instantiable "java/lang/IllegalStateException" 6 : Cond) ∈ UW := uw 340 (by decide +kernel) (by decide +kernel)
theorem n_ca_java_lang_IllegalStateException_java_lang_IllegalStateException : (.castable "java/lang/IllegalStateException" "java/lang/IllegalStateException" : Cond) ∈ UN := un 341 (by decide +kernel) (by decide +kernel)
theorem u_ml_RX5_81 : (.methodLink RX5 81 ⟨"java/lang/IllegalStateException", "<init>", "(Ljava/lang/String;)V"⟩ : Cond) ∈ UW := uw 349 (by decide +kernel) (by decide +kernel)
theorem u_ml_java_lang_IllegalStateException_7 : (.methodLink "java/lang/IllegalStateException" 7 ⟨"java/lang/RuntimeException", "<init>", "(Ljava/lang/String;)V"⟩ : Cond) ∈ UW := uw 352 (by decide +kernel) (by decide +kernel)
theorem u_ml_RX5_82 : (.methodLink RX5 82 yX3_move : Cond) ∈ UW := uw 355 (by decide +kernel) (by decide +kernel)
theorem u_im_yX3_move : (.instanceMethod yX3_move : Cond) ∈ UW := uw 356 (by decide +kernel) (by decide +kernel)
theorem u_se_yX3_move : (.selects RX3 yX3_move yX3_move : Cond) ∈ UW := uw 357 (by decide +kernel) (by decide +kernel)
theorem u_co_yX3_move : (.code yX3_move cX3_move 4 (some FieldType.int) : Cond) ∈ UW := uw 358 (by decide +kernel) (by decide +kernel)
theorem u_ml_RL_98 : (.methodLink RL 98 yL_layOut : Cond) ∈ UW := uw 359 (by decide +kernel) (by decide +kernel)
theorem u_st_yL_layOut : (.static yL_layOut : Cond) ∈ UW := uw 360 (by decide +kernel) (by decide +kernel)
theorem u_ml_RL_17 : (.methodLink RL 17 yX5_layOut : Cond) ∈ UW := uw 362 (by decide +kernel) (by decide +kernel)
theorem u_im_yX5_layOut : (.instanceMethod yX5_layOut : Cond) ∈ UW := uw 363 (by decide +kernel) (by decide +kernel)
theorem u_se_yX5_layOut : (.selects RX5 yX5_layOut yX5_layOut : Cond) ∈ UW := uw 364 (by decide +kernel) (by decide +kernel)
theorem u_co_yX5_layOut : (.code yX5_layOut cX5_layOut 1 (some FieldType.int) : Cond) ∈ UW := uw 365 (by decide +kernel) (by decide +kernel)
theorem u_ml_RX5_87 : (.methodLink RX5 87 yX3_rearrange : Cond) ∈ UW := uw 367 (by decide +kernel) (by decide +kernel)
theorem u_im_yX3_rearrange : (.instanceMethod yX3_rearrange : Cond) ∈ UW := uw 368 (by decide +kernel) (by decide +kernel)
theorem u_se_yX3_rearrange : (.selects RX3 yX3_rearrange yX3_rearrange : Cond) ∈ UW := uw 369 (by decide +kernel) (by decide +kernel)
theorem u_co_yX3_rearrange : (.code yX3_rearrange cX3_rearrange 4 (some FieldType.int) : Cond) ∈ UW := uw 370 (by decide +kernel) (by decide +kernel)
theorem u_ml_RX3_53 : (.methodLink RX3 53 yX3_insertPlace : Cond) ∈ UW := uw 371 (by decide +kernel) (by decide +kernel)
theorem u_im_yX3_insertPlace : (.instanceMethod yX3_insertPlace : Cond) ∈ UW := uw 373 (by decide +kernel) (by decide +kernel)
theorem u_co_yX3_insertPlace : (.code yX3_insertPlace cX3_insertPlace 4 (none) : Cond) ∈ UW := uw 374 (by decide +kernel) (by decide +kernel)
theorem u_ml_RX3_63 : (.methodLink RX3 63 yX3_isNearer : Cond) ∈ UW := uw 375 (by decide +kernel) (by decide +kernel)
theorem u_im_yX3_isNearer : (.instanceMethod yX3_isNearer : Cond) ∈ UW := uw 377 (by decide +kernel) (by decide +kernel)
theorem u_co_yX3_isNearer : (.code yX3_isNearer cX3_isNearer 5 (some FieldType.boolean) : Cond) ∈ UW := uw 378 (by decide +kernel) (by decide +kernel)
theorem u_ml_RX3_67 : (.methodLink RX3 67 yX3_between : Cond) ∈ UW := uw 379 (by decide +kernel) (by decide +kernel)
theorem u_im_yX3_between : (.instanceMethod yX3_between : Cond) ∈ UW := uw 380 (by decide +kernel) (by decide +kernel)
theorem u_se_yX3_between : (.selects RX3 yX3_between yX3_between : Cond) ∈ UW := uw 381 (by decide +kernel) (by decide +kernel)
theorem u_co_yX3_between : (.code yX3_between cX3_between 8 (some FieldType.int) : Cond) ∈ UW := uw 382 (by decide +kernel) (by decide +kernel)
theorem u_ml_RX3_34 : (.methodLink RX3 34 yJ9_abs_0f7a4 : Cond) ∈ UW := uw 383 (by decide +kernel) (by decide +kernel)
theorem u_st_yJ9_abs_0f7a4 : (.static yJ9_abs_0f7a4 : Cond) ∈ UW := uw 384 (by decide +kernel) (by decide +kernel)
theorem u_co_yJ9_abs_0f7a4 : (.code yJ9_abs_0f7a4 cJ9_abs_0f7a4 1 (some FieldType.int) : Cond) ∈ UW := uw 385 (by decide +kernel) (by decide +kernel)
theorem u_ml_RX3_40 : (.methodLink RX3 40 yX3_depth : Cond) ∈ UW := uw 386 (by decide +kernel) (by decide +kernel)
theorem u_im_yX3_depth : (.instanceMethod yX3_depth : Cond) ∈ UW := uw 387 (by decide +kernel) (by decide +kernel)
theorem u_se_yX3_depth : (.selects RX3 yX3_depth yX3_depth : Cond) ∈ UW := uw 388 (by decide +kernel) (by decide +kernel)
theorem u_co_yX3_depth : (.code yX3_depth cX3_depth 1 (some FieldType.int) : Cond) ∈ UW := uw 389 (by decide +kernel) (by decide +kernel)
theorem u_ml_RX3_44 : (.methodLink RX3 44 yJ9_min_7cf53 : Cond) ∈ UW := uw 390 (by decide +kernel) (by decide +kernel)
theorem u_ml_RX3_57 : (.methodLink RX3 57 yX3_insertProduct : Cond) ∈ UW := uw 391 (by decide +kernel) (by decide +kernel)
theorem u_im_yX3_insertProduct : (.instanceMethod yX3_insertProduct : Cond) ∈ UW := uw 393 (by decide +kernel) (by decide +kernel)
theorem u_co_yX3_insertProduct : (.code yX3_insertProduct cX3_insertProduct 4 (none) : Cond) ∈ UW := uw 394 (by decide +kernel) (by decide +kernel)
theorem u_ml_RX3_60 : (.methodLink RX3 60 yX3_move : Cond) ∈ UW := uw 395 (by decide +kernel) (by decide +kernel)
theorem u_ml_RL_102 : (.methodLink RL 102 yL_placeOf : Cond) ∈ UW := uw 396 (by decide +kernel) (by decide +kernel)
theorem u_st_yL_placeOf : (.static yL_placeOf : Cond) ∈ UW := uw 397 (by decide +kernel) (by decide +kernel)
theorem u_ml_RL_21 : (.methodLink RL 21 yX5_placeOf : Cond) ∈ UW := uw 399 (by decide +kernel) (by decide +kernel)
theorem u_im_yX5_placeOf : (.instanceMethod yX5_placeOf : Cond) ∈ UW := uw 400 (by decide +kernel) (by decide +kernel)
theorem u_se_yX5_placeOf : (.selects RX5 yX5_placeOf yX5_placeOf : Cond) ∈ UW := uw 401 (by decide +kernel) (by decide +kernel)
theorem u_co_yX5_placeOf : (.code yX5_placeOf cX5_placeOf 2 (some FieldType.int) : Cond) ∈ UW := uw 402 (by decide +kernel) (by decide +kernel)
theorem u_ml_RL_106 : (.methodLink RL 106 yL_turnover : Cond) ∈ UW := uw 403 (by decide +kernel) (by decide +kernel)
theorem u_st_yL_turnover : (.static yL_turnover : Cond) ∈ UW := uw 404 (by decide +kernel) (by decide +kernel)
theorem u_ml_RL_25 : (.methodLink RL 25 yX5_turnover : Cond) ∈ UW := uw 406 (by decide +kernel) (by decide +kernel)
theorem u_im_yX5_turnover : (.instanceMethod yX5_turnover : Cond) ∈ UW := uw 407 (by decide +kernel) (by decide +kernel)
theorem u_se_yX5_turnover : (.selects RX5 yX5_turnover yX5_turnover : Cond) ∈ UW := uw 408 (by decide +kernel) (by decide +kernel)
theorem u_co_yX5_turnover : (.code yX5_turnover cX5_turnover 2 (some FieldType.int) : Cond) ∈ UW := uw 409 (by decide +kernel) (by decide +kernel)
theorem u_ml_RL_109 : (.methodLink RL 109 yL_distance : Cond) ∈ UW := uw 410 (by decide +kernel) (by decide +kernel)
theorem u_st_yL_distance : (.static yL_distance : Cond) ∈ UW := uw 411 (by decide +kernel) (by decide +kernel)
theorem u_ml_RL_28 : (.methodLink RL 28 yX5_distance : Cond) ∈ UW := uw 413 (by decide +kernel) (by decide +kernel)
theorem u_im_yX5_distance : (.instanceMethod yX5_distance : Cond) ∈ UW := uw 414 (by decide +kernel) (by decide +kernel)
theorem u_se_yX5_distance : (.selects RX5 yX5_distance yX5_distance : Cond) ∈ UW := uw 415 (by decide +kernel) (by decide +kernel)
theorem u_co_yX5_distance : (.code yX5_distance cX5_distance 5 (some FieldType.int) : Cond) ∈ UW := uw 416 (by decide +kernel) (by decide +kernel)
theorem u_ml_RX5_100 : (.methodLink RX5 100 yX3_between : Cond) ∈ UW := uw 418 (by decide +kernel) (by decide +kernel)
theorem u_ml_RL_113 : (.methodLink RL 113 yL_order : Cond) ∈ UW := uw 419 (by decide +kernel) (by decide +kernel)
theorem u_st_yL_order : (.static yL_order : Cond) ∈ UW := uw 420 (by decide +kernel) (by decide +kernel)
theorem u_cl_RL_35 : (.classLink RL 35 "java/lang/IllegalArgumentException" : Cond) ∈ UW := uw 422 (by decide +kernel) (by decide +kernel)
theorem u_ml_RL_32 : (.methodLink RL 32 yX5_order : Cond) ∈ UW := uw 423 (by decide +kernel) (by decide +kernel)
theorem u_im_yX5_order : (.instanceMethod yX5_order : Cond) ∈ UW := uw 424 (by decide +kernel) (by decide +kernel)
theorem u_se_yX5_order : (.selects RX5 yX5_order yX5_order : Cond) ∈ UW := uw 425 (by decide +kernel) (by decide +kernel)
theorem u_co_yX5_order : (.code yX5_order cX5_order 2 (some FieldType.int) : Cond) ∈ UW := uw 426 (by decide +kernel) (by decide +kernel)
theorem u_ml_RX5_103 : (.methodLink RX5 103 yX5_checkTime : Cond) ∈ UW := uw 427 (by decide +kernel) (by decide +kernel)
theorem u_st_yX5_checkTime : (.static yX5_checkTime : Cond) ∈ UW := uw 428 (by decide +kernel) (by decide +kernel)
theorem u_co_yX5_checkTime : (.code yX5_checkTime cX5_checkTime 1 (none) : Cond) ∈ UW := uw 429 (by decide +kernel) (by decide +kernel)
theorem u_cl_RX5_123 : (.classLink RX5 123 "java/lang/IllegalArgumentException" : Cond) ∈ UW := uw 430 (by decide +kernel) (by decide +kernel)
theorem u_is_java_lang_IllegalArgumentException : (.instantiable "java/lang/IllegalArgumentException" 6 : Cond) ∈ UW := uw 431 (by decide +kernel) (by decide +kernel)
theorem n_ca_java_lang_IllegalArgumentException_java_lang_IllegalArgumentException : (.castable "java/lang/IllegalArgumentException" "java/lang/IllegalArgumentException" : Cond) ∈ UN := un 432 (by decide +kernel) (by decide +kernel)
theorem u_ml_RX5_127 : (.methodLink RX5 127 ⟨"java/lang/IllegalArgumentException", "<init>", "(Ljava/lang/String;)V"⟩ : Cond) ∈ UW := uw 440 (by decide +kernel) (by decide +kernel)
theorem u_ml_java_lang_IllegalArgumentException_7 : (.methodLink "java/lang/IllegalArgumentException" 7 ⟨"java/lang/RuntimeException", "<init>", "(Ljava/lang/String;)V"⟩ : Cond) ∈ UW := uw 443 (by decide +kernel) (by decide +kernel)
theorem u_cl_RX5_111 : (.classLink RX5 111 RX1 : Cond) ∈ UW := uw 447 (by decide +kernel) (by decide +kernel)
theorem u_is_RX1 : (.instantiable RX1 4 : Cond) ∈ UW := uw 448 (by decide +kernel) (by decide +kernel)
theorem u_ml_RX5_113 : (.methodLink RX5 113 yX1_init : Cond) ∈ UW := uw 449 (by decide +kernel) (by decide +kernel)
theorem u_im_yX1_init : (.instanceMethod yX1_init : Cond) ∈ UW := uw 450 (by decide +kernel) (by decide +kernel)
theorem u_co_yX1_init : (.code yX1_init cX1_init 2 (none) : Cond) ∈ UW := uw 451 (by decide +kernel) (by decide +kernel)
theorem u_ml_RX1_3 : (.methodLink RX1 3 objectInit : Cond) ∈ UW := uw 452 (by decide +kernel) (by decide +kernel)
theorem u_fl_RX1_19 : (.fieldLink RX1 19 "Aislewright$Order" "due" "I" : Cond) ∈ UW := uw 453 (by decide +kernel) (by decide +kernel)
theorem u_fl_RX1_9 : (.fieldLink RX1 9 "Aislewright$Order" "quantities" "[I" : Cond) ∈ UW := uw 454 (by decide +kernel) (by decide +kernel)
theorem n_fn_RX3_48 : (.fieldLinkNest RX3 48 "Aislewright$Order" "quantities" "[I" RX5 : Cond) ∈ UN := un 455 (by decide +kernel) (by decide +kernel)
theorem n_fn_RX0_23 : (.fieldLinkNest RX0 23 "Aislewright$Order" "products" "I" RX5 : Cond) ∈ UN := un 456 (by decide +kernel) (by decide +kernel)
theorem u_fl_RX1_22 : (.fieldLink RX1 22 "Aislewright$Order" "products" "I" : Cond) ∈ UW := uw 457 (by decide +kernel) (by decide +kernel)
theorem n_fn_RX4_37 : (.fieldLinkNest RX4 37 "Aislewright$Order" "products" "I" RX5 : Cond) ∈ UN := un 458 (by decide +kernel) (by decide +kernel)
theorem n_fn_RX5_147 : (.fieldLinkNest RX5 147 "Aislewright$Order" "products" "I" RX5 : Cond) ∈ UN := un 459 (by decide +kernel) (by decide +kernel)
theorem u_fl_RX1_15 : (.fieldLink RX1 15 "Aislewright$Order" "state" "I" : Cond) ∈ UW := uw 460 (by decide +kernel) (by decide +kernel)
theorem n_fn_RX5_144 : (.fieldLinkNest RX5 144 "Aislewright$Order" "state" "I" RX5 : Cond) ∈ UN := un 461 (by decide +kernel) (by decide +kernel)
theorem u_ml_RX5_115 : (.methodLink RX5 115 yJx4a65c_add_9ea2d : Cond) ∈ UW := uw 471 (by decide +kernel) (by decide +kernel)
theorem u_im_yJx4a65c_add_9ea2d : (.instanceMethod yJx4a65c_add_9ea2d : Cond) ∈ UW := uw 472 (by decide +kernel) (by decide +kernel)
theorem u_se_yJx4a65c_add_9ea2d : (.selects RJx4a65c yJx4a65c_add_9ea2d yJx4a65c_add_9ea2d : Cond) ∈ UW := uw 473 (by decide +kernel) (by decide +kernel)
theorem u_co_yJx4a65c_add_9ea2d : (.code yJx4a65c_add_9ea2d cJx4a65c_add_9ea2d 2 (some FieldType.boolean) : Cond) ∈ UW := uw 474 (by decide +kernel) (by decide +kernel)
theorem u_ml_RJx4a65c_131 : (.methodLink RJx4a65c 131 yJx4a65c_add_72be8 : Cond) ∈ UW := uw 475 (by decide +kernel) (by decide +kernel)
theorem u_im_yJx4a65c_add_72be8 : (.instanceMethod yJx4a65c_add_72be8 : Cond) ∈ UW := uw 477 (by decide +kernel) (by decide +kernel)
theorem u_co_yJx4a65c_add_72be8 : (.code yJx4a65c_add_72be8 cJx4a65c_add_72be8 4 (none) : Cond) ∈ UW := uw 478 (by decide +kernel) (by decide +kernel)
theorem u_ml_RJx4a65c_129 : (.methodLink RJx4a65c 129 yJx4a65c_grow_d5877 : Cond) ∈ UW := uw 479 (by decide +kernel) (by decide +kernel)
theorem u_im_yJx4a65c_grow_d5877 : (.instanceMethod yJx4a65c_grow_d5877 : Cond) ∈ UW := uw 481 (by decide +kernel) (by decide +kernel)
theorem u_co_yJx4a65c_grow_d5877 : (.code yJx4a65c_grow_d5877 cJx4a65c_grow_d5877 1 (some (FieldType.array (FieldType.object "java/lang/Object"))) : Cond) ∈ UW := uw 482 (by decide +kernel) (by decide +kernel)
theorem u_ml_RJx4a65c_69 : (.methodLink RJx4a65c 69 yJx4a65c_grow_92f84 : Cond) ∈ UW := uw 483 (by decide +kernel) (by decide +kernel)
theorem u_im_yJx4a65c_grow_92f84 : (.instanceMethod yJx4a65c_grow_92f84 : Cond) ∈ UW := uw 485 (by decide +kernel) (by decide +kernel)
theorem u_co_yJx4a65c_grow_92f84 : (.code yJx4a65c_grow_92f84 cJx4a65c_grow_92f84 4 (some (FieldType.array (FieldType.object "java/lang/Object"))) : Cond) ∈ UW := uw 486 (by decide +kernel) (by decide +kernel)
theorem u_ml_RJx4a65c_73 : (.methodLink RJx4a65c 73 yJ8_newLength_cabcc : Cond) ∈ UW := uw 487 (by decide +kernel) (by decide +kernel)
theorem u_st_yJ8_newLength_cabcc : (.static yJ8_newLength_cabcc : Cond) ∈ UW := uw 488 (by decide +kernel) (by decide +kernel)
theorem u_co_yJ8_newLength_cabcc : (.code yJ8_newLength_cabcc cJ8_newLength_cabcc 4 (some FieldType.int) : Cond) ∈ UW := uw 489 (by decide +kernel) (by decide +kernel)
theorem u_ml_RJ8_194 : (.methodLink RJ8 194 yJ9_max_7cf53 : Cond) ∈ UW := uw 490 (by decide +kernel) (by decide +kernel)
theorem u_ct_RJ8_200 : (.constant RJ8 200 (2147483639 : Int32) : Cond) ∈ UW := uw 491 (by decide +kernel) (by decide +kernel)
theorem u_ml_RJ8_201 : (.methodLink RJ8 201 yJ8_hugeLength_7cf53 : Cond) ∈ UW := uw 492 (by decide +kernel) (by decide +kernel)
theorem u_st_yJ8_hugeLength_7cf53 : (.static yJ8_hugeLength_7cf53 : Cond) ∈ UW := uw 493 (by decide +kernel) (by decide +kernel)
theorem u_co_yJ8_hugeLength_7cf53 : (.code yJ8_hugeLength_7cf53 cJ8_hugeLength_7cf53 3 (some FieldType.int) : Cond) ∈ UW := uw 494 (by decide +kernel) (by decide +kernel)
theorem u_ml_RJx4a65c_66 : (.methodLink RJx4a65c 66 yJ7_copyOf_1904c : Cond) ∈ UW := uw 495 (by decide +kernel) (by decide +kernel)
theorem u_st_yJ7_copyOf_1904c : (.static yJ7_copyOf_1904c : Cond) ∈ UW := uw 496 (by decide +kernel) (by decide +kernel)
theorem u_co_yJ7_copyOf_1904c : (.code yJ7_copyOf_1904c cJ7_copyOf_1904c 2 (some (FieldType.array (FieldType.object "java/lang/Object"))) : Cond) ∈ UW := uw 497 (by decide +kernel) (by decide +kernel)
theorem u_ml_RJ7_300 : (.methodLink RJ7 300 yJ7_copyOf_6403c : Cond) ∈ UW := uw 513 (by decide +kernel) (by decide +kernel)
theorem u_st_yJ7_copyOf_6403c : (.static yJ7_copyOf_6403c : Cond) ∈ UW := uw 514 (by decide +kernel) (by decide +kernel)
theorem u_co_yJ7_copyOf_6403c : (.code yJ7_copyOf_6403c cJ7_copyOf_6403c 4 (some (FieldType.array (FieldType.object "java/lang/Object"))) : Cond) ∈ UW := uw 515 (by decide +kernel) (by decide +kernel)
theorem u_cl_RJ7_110 : (.classLink RJ7 110 "[Ljava/lang/Object;" : Cond) ∈ UW := uw 516 (by decide +kernel) (by decide +kernel)
theorem u_cl_RJ7_2 : (.classLink RJ7 2 "java/lang/Object" : Cond) ∈ UW := uw 518 (by decide +kernel) (by decide +kernel)
theorem u_ml_RJ7_304 : (.methodLink RJ7 304 yJ9_min_7cf53 : Cond) ∈ UW := uw 519 (by decide +kernel) (by decide +kernel)
theorem u_ml_RJx4a65c_79 : (.methodLink RJx4a65c 79 yJ9_max_7cf53 : Cond) ∈ UW := uw 523 (by decide +kernel) (by decide +kernel)
theorem u_cl_RJx4a65c_7 : (.classLink RJx4a65c 7 "java/lang/Object" : Cond) ∈ UW := uw 524 (by decide +kernel) (by decide +kernel)
theorem u_ml_RL_116 : (.methodLink RL 116 yL_line : Cond) ∈ UW := uw 525 (by decide +kernel) (by decide +kernel)
theorem u_st_yL_line : (.static yL_line : Cond) ∈ UW := uw 526 (by decide +kernel) (by decide +kernel)
theorem u_ml_RL_37 : (.methodLink RL 37 yX5_line : Cond) ∈ UW := uw 528 (by decide +kernel) (by decide +kernel)
theorem u_im_yX5_line : (.instanceMethod yX5_line : Cond) ∈ UW := uw 529 (by decide +kernel) (by decide +kernel)
theorem u_se_yX5_line : (.selects RX5 yX5_line yX5_line : Cond) ∈ UW := uw 530 (by decide +kernel) (by decide +kernel)
theorem u_co_yX5_line : (.code yX5_line cX5_line 5 (some FieldType.int) : Cond) ∈ UW := uw 531 (by decide +kernel) (by decide +kernel)
theorem u_ml_RX5_119 : (.methodLink RX5 119 yX5_orderNumbered : Cond) ∈ UW := uw 532 (by decide +kernel) (by decide +kernel)
theorem u_im_yX5_orderNumbered : (.instanceMethod yX5_orderNumbered : Cond) ∈ UW := uw 534 (by decide +kernel) (by decide +kernel)
theorem u_co_yX5_orderNumbered : (.code yX5_orderNumbered cX5_orderNumbered 2 (some (FieldType.object "Aislewright$Order")) : Cond) ∈ UW := uw 535 (by decide +kernel) (by decide +kernel)
theorem u_ml_RX5_165 : (.methodLink RX5 165 yJx4a65c_get_915e3 : Cond) ∈ UW := uw 537 (by decide +kernel) (by decide +kernel)
theorem u_im_yJx4a65c_get_915e3 : (.instanceMethod yJx4a65c_get_915e3 : Cond) ∈ UW := uw 538 (by decide +kernel) (by decide +kernel)
theorem u_se_yJx4a65c_get_915e3 : (.selects RJx4a65c yJx4a65c_get_915e3 yJx4a65c_get_915e3 : Cond) ∈ UW := uw 539 (by decide +kernel) (by decide +kernel)
theorem u_co_yJx4a65c_get_915e3 : (.code yJx4a65c_get_915e3 cJx4a65c_get_915e3 2 (some (FieldType.object "java/lang/Object")) : Cond) ∈ UW := uw 540 (by decide +kernel) (by decide +kernel)
theorem u_ml_RJx4a65c_118 : (.methodLink RJx4a65c 118 yJ15_checkIndex_7cf53 : Cond) ∈ UW := uw 541 (by decide +kernel) (by decide +kernel)
theorem u_st_yJ15_checkIndex_7cf53 : (.static yJ15_checkIndex_7cf53 : Cond) ∈ UW := uw 542 (by decide +kernel) (by decide +kernel)
theorem u_co_yJ15_checkIndex_7cf53 : (.code yJ15_checkIndex_7cf53 cJ15_checkIndex_7cf53 2 (some FieldType.int) : Cond) ∈ UW := uw 543 (by decide +kernel) (by decide +kernel)
theorem u_ml_RJ15_105 : (.methodLink RJ15 105 yJ3_checkIndex_8e157 : Cond) ∈ UW := uw 544 (by decide +kernel) (by decide +kernel)
theorem u_st_yJ3_checkIndex_8e157 : (.static yJ3_checkIndex_8e157 : Cond) ∈ UW := uw 545 (by decide +kernel) (by decide +kernel)
theorem u_co_yJ3_checkIndex_8e157 : (.code yJ3_checkIndex_8e157 cJ3_checkIndex_8e157 3 (some FieldType.int) : Cond) ∈ UW := uw 546 (by decide +kernel) (by decide +kernel)
theorem u_ml_RJx4a65c_123 : (.methodLink RJx4a65c 123 yJx4a65c_elementData_915e3 : Cond) ∈ UW := uw 547 (by decide +kernel) (by decide +kernel)
theorem u_im_yJx4a65c_elementData_915e3 : (.instanceMethod yJx4a65c_elementData_915e3 : Cond) ∈ UW := uw 548 (by decide +kernel) (by decide +kernel)
theorem u_se_yJx4a65c_elementData_915e3 : (.selects RJx4a65c yJx4a65c_elementData_915e3 yJx4a65c_elementData_915e3 : Cond) ∈ UW := uw 549 (by decide +kernel) (by decide +kernel)
theorem u_co_yJx4a65c_elementData_915e3 : (.code yJx4a65c_elementData_915e3 cJx4a65c_elementData_915e3 2 (some (FieldType.object "java/lang/Object")) : Cond) ∈ UW := uw 550 (by decide +kernel) (by decide +kernel)
theorem u_ml_RX5_128 : (.methodLink RX5 128 yX5_takesLine : Cond) ∈ UW := uw 552 (by decide +kernel) (by decide +kernel)
theorem u_im_yX5_takesLine : (.instanceMethod yX5_takesLine : Cond) ∈ UW := uw 554 (by decide +kernel) (by decide +kernel)
theorem u_co_yX5_takesLine : (.code yX5_takesLine cX5_takesLine 3 (some FieldType.boolean) : Cond) ∈ UW := uw 555 (by decide +kernel) (by decide +kernel)
theorem u_ml_RX5_141 : (.methodLink RX5 141 yX1_countLines : Cond) ∈ UW := uw 556 (by decide +kernel) (by decide +kernel)
theorem u_im_yX1_countLines : (.instanceMethod yX1_countLines : Cond) ∈ UW := uw 557 (by decide +kernel) (by decide +kernel)
theorem u_se_yX1_countLines : (.selects RX1 yX1_countLines yX1_countLines : Cond) ∈ UW := uw 558 (by decide +kernel) (by decide +kernel)
theorem u_co_yX1_countLines : (.code yX1_countLines cX1_countLines 1 (some FieldType.int) : Cond) ∈ UW := uw 559 (by decide +kernel) (by decide +kernel)
theorem u_ml_RX1_29 : (.methodLink RX1 29 yJ6_bitCount_0f7a4 : Cond) ∈ UW := uw 560 (by decide +kernel) (by decide +kernel)
theorem u_st_yJ6_bitCount_0f7a4 : (.static yJ6_bitCount_0f7a4 : Cond) ∈ UW := uw 561 (by decide +kernel) (by decide +kernel)
theorem u_co_yJ6_bitCount_0f7a4 : (.code yJ6_bitCount_0f7a4 cJ6_bitCount_0f7a4 1 (some FieldType.int) : Cond) ∈ UW := uw 562 (by decide +kernel) (by decide +kernel)
theorem u_ct_RJ6_265 : (.constant RJ6 265 (1431655765 : Int32) : Cond) ∈ UW := uw 563 (by decide +kernel) (by decide +kernel)
theorem u_ct_RJ6_266 : (.constant RJ6 266 (858993459 : Int32) : Cond) ∈ UW := uw 564 (by decide +kernel) (by decide +kernel)
theorem u_ct_RJ6_267 : (.constant RJ6 267 (252645135 : Int32) : Cond) ∈ UW := uw 565 (by decide +kernel) (by decide +kernel)
theorem u_ml_RX5_132 : (.methodLink RX5 132 yX1_asksFor : Cond) ∈ UW := uw 566 (by decide +kernel) (by decide +kernel)
theorem u_im_yX1_asksFor : (.instanceMethod yX1_asksFor : Cond) ∈ UW := uw 567 (by decide +kernel) (by decide +kernel)
theorem u_se_yX1_asksFor : (.selects RX1 yX1_asksFor yX1_asksFor : Cond) ∈ UW := uw 568 (by decide +kernel) (by decide +kernel)
theorem u_co_yX1_asksFor : (.code yX1_asksFor cX1_asksFor 2 (some FieldType.boolean) : Cond) ∈ UW := uw 569 (by decide +kernel) (by decide +kernel)
theorem n_mn_RX1_25 : (.methodLinkNest RX1 25 yX5_isIn RX5 : Cond) ∈ UN := un 570 (by decide +kernel) (by decide +kernel)
theorem u_st_yX5_isIn : (.static yX5_isIn : Cond) ∈ UW := uw 571 (by decide +kernel) (by decide +kernel)
theorem u_co_yX5_isIn : (.code yX5_isIn cX5_isIn 2 (some FieldType.boolean) : Cond) ∈ UW := uw 572 (by decide +kernel) (by decide +kernel)
theorem u_ml_RX5_137 : (.methodLink RX5 137 yX1_addLine : Cond) ∈ UW := uw 574 (by decide +kernel) (by decide +kernel)
theorem u_im_yX1_addLine : (.instanceMethod yX1_addLine : Cond) ∈ UW := uw 575 (by decide +kernel) (by decide +kernel)
theorem u_se_yX1_addLine : (.selects RX1 yX1_addLine yX1_addLine : Cond) ∈ UW := uw 576 (by decide +kernel) (by decide +kernel)
theorem u_co_yX1_addLine : (.code yX1_addLine cX1_addLine 3 (none) : Cond) ∈ UW := uw 577 (by decide +kernel) (by decide +kernel)
theorem u_ml_RL_123 : (.methodLink RL 123 yL_stateOf : Cond) ∈ UW := uw 578 (by decide +kernel) (by decide +kernel)
theorem u_st_yL_stateOf : (.static yL_stateOf : Cond) ∈ UW := uw 579 (by decide +kernel) (by decide +kernel)
theorem u_ml_RL_40 : (.methodLink RL 40 yX5_stateOf : Cond) ∈ UW := uw 581 (by decide +kernel) (by decide +kernel)
theorem u_im_yX5_stateOf : (.instanceMethod yX5_stateOf : Cond) ∈ UW := uw 582 (by decide +kernel) (by decide +kernel)
theorem u_se_yX5_stateOf : (.selects RX5 yX5_stateOf yX5_stateOf : Cond) ∈ UW := uw 583 (by decide +kernel) (by decide +kernel)
theorem u_co_yX5_stateOf : (.code yX5_stateOf cX5_stateOf 2 (some FieldType.int) : Cond) ∈ UW := uw 584 (by decide +kernel) (by decide +kernel)
theorem u_ml_RL_126 : (.methodLink RL 126 yL_lengthAlone : Cond) ∈ UW := uw 585 (by decide +kernel) (by decide +kernel)
theorem u_st_yL_lengthAlone : (.static yL_lengthAlone : Cond) ∈ UW := uw 586 (by decide +kernel) (by decide +kernel)
theorem u_ml_RL_43 : (.methodLink RL 43 yX5_lengthAlone : Cond) ∈ UW := uw 588 (by decide +kernel) (by decide +kernel)
theorem u_im_yX5_lengthAlone : (.instanceMethod yX5_lengthAlone : Cond) ∈ UW := uw 589 (by decide +kernel) (by decide +kernel)
theorem u_se_yX5_lengthAlone : (.selects RX5 yX5_lengthAlone yX5_lengthAlone : Cond) ∈ UW := uw 590 (by decide +kernel) (by decide +kernel)
theorem u_co_yX5_lengthAlone : (.code yX5_lengthAlone cX5_lengthAlone 2 (some FieldType.int) : Cond) ∈ UW := uw 591 (by decide +kernel) (by decide +kernel)
theorem u_ml_RX5_150 : (.methodLink RX5 150 yX2_leastLength : Cond) ∈ UW := uw 592 (by decide +kernel) (by decide +kernel)
theorem u_im_yX2_leastLength : (.instanceMethod yX2_leastLength : Cond) ∈ UW := uw 593 (by decide +kernel) (by decide +kernel)
theorem u_se_yX2_leastLength : (.selects RX2 yX2_leastLength yX2_leastLength : Cond) ∈ UW := uw 594 (by decide +kernel) (by decide +kernel)
theorem u_co_yX2_leastLength : (.code yX2_leastLength cX2_leastLength 2 (some FieldType.int) : Cond) ∈ UW := uw 595 (by decide +kernel) (by decide +kernel)
theorem u_ml_RX2_27 : (.methodLink RX2 27 yX2_gather : Cond) ∈ UW := uw 596 (by decide +kernel) (by decide +kernel)
theorem u_im_yX2_gather : (.instanceMethod yX2_gather : Cond) ∈ UW := uw 598 (by decide +kernel) (by decide +kernel)
theorem u_co_yX2_gather : (.code yX2_gather cX2_gather 5 (none) : Cond) ∈ UW := uw 599 (by decide +kernel) (by decide +kernel)
theorem n_mn_RX2_65 : (.methodLinkNest RX2 65 yX5_isIn RX5 : Cond) ∈ UN := un 600 (by decide +kernel) (by decide +kernel)
theorem u_ml_RX2_70 : (.methodLink RX2 70 yX2_insertPlace : Cond) ∈ UW := uw 601 (by decide +kernel) (by decide +kernel)
theorem u_im_yX2_insertPlace : (.instanceMethod yX2_insertPlace : Cond) ∈ UW := uw 603 (by decide +kernel) (by decide +kernel)
theorem u_co_yX2_insertPlace : (.code yX2_insertPlace cX2_insertPlace 3 (none) : Cond) ∈ UW := uw 604 (by decide +kernel) (by decide +kernel)
theorem u_ml_RX2_73 : (.methodLink RX2 73 yX3_between : Cond) ∈ UW := uw 605 (by decide +kernel) (by decide +kernel)
theorem u_ml_RX2_31 : (.methodLink RX2 31 yX2_fillOnward : Cond) ∈ UW := uw 606 (by decide +kernel) (by decide +kernel)
theorem u_im_yX2_fillOnward : (.instanceMethod yX2_fillOnward : Cond) ∈ UW := uw 608 (by decide +kernel) (by decide +kernel)
theorem u_co_yX2_fillOnward : (.code yX2_fillOnward cX2_fillOnward 4 (none) : Cond) ∈ UW := uw 609 (by decide +kernel) (by decide +kernel)
theorem u_ml_RX2_38 : (.methodLink RX2 38 yX2_leastOnward : Cond) ∈ UW := uw 610 (by decide +kernel) (by decide +kernel)
theorem u_im_yX2_leastOnward : (.instanceMethod yX2_leastOnward : Cond) ∈ UW := uw 612 (by decide +kernel) (by decide +kernel)
theorem u_co_yX2_leastOnward : (.code yX2_leastOnward cX2_leastOnward 5 (some FieldType.int) : Cond) ∈ UW := uw 613 (by decide +kernel) (by decide +kernel)
theorem u_ct_RX2_49 : (.constant RX2 49 (1000000 : Int32) : Cond) ∈ UW := uw 614 (by decide +kernel) (by decide +kernel)
theorem u_ml_RX2_76 : (.methodLink RX2 76 yX2_lengthBy : Cond) ∈ UW := uw 615 (by decide +kernel) (by decide +kernel)
theorem u_im_yX2_lengthBy : (.instanceMethod yX2_lengthBy : Cond) ∈ UW := uw 617 (by decide +kernel) (by decide +kernel)
theorem u_co_yX2_lengthBy : (.code yX2_lengthBy cX2_lengthBy 5 (some FieldType.int) : Cond) ∈ UW := uw 618 (by decide +kernel) (by decide +kernel)
theorem u_ml_RX2_80 : (.methodLink RX2 80 yJ9_min_7cf53 : Cond) ∈ UW := uw 619 (by decide +kernel) (by decide +kernel)
theorem u_ml_RX2_34 : (.methodLink RX2 34 yX2_everyPlace : Cond) ∈ UW := uw 620 (by decide +kernel) (by decide +kernel)
theorem u_im_yX2_everyPlace : (.instanceMethod yX2_everyPlace : Cond) ∈ UW := uw 622 (by decide +kernel) (by decide +kernel)
theorem u_co_yX2_everyPlace : (.code yX2_everyPlace cX2_everyPlace 1 (some FieldType.int) : Cond) ∈ UW := uw 623 (by decide +kernel) (by decide +kernel)
theorem u_ml_RL_129 : (.methodLink RL 129 yL_setCapacity : Cond) ∈ UW := uw 624 (by decide +kernel) (by decide +kernel)
theorem u_st_yL_setCapacity : (.static yL_setCapacity : Cond) ∈ UW := uw 625 (by decide +kernel) (by decide +kernel)
theorem u_ml_RL_46 : (.methodLink RL 46 yX5_setCapacity : Cond) ∈ UW := uw 627 (by decide +kernel) (by decide +kernel)
theorem u_im_yX5_setCapacity : (.instanceMethod yX5_setCapacity : Cond) ∈ UW := uw 628 (by decide +kernel) (by decide +kernel)
theorem u_se_yX5_setCapacity : (.selects RX5 yX5_setCapacity yX5_setCapacity : Cond) ∈ UW := uw 629 (by decide +kernel) (by decide +kernel)
theorem u_co_yX5_setCapacity : (.code yX5_setCapacity cX5_setCapacity 3 (some FieldType.int) : Cond) ∈ UW := uw 630 (by decide +kernel) (by decide +kernel)
theorem u_ml_RX5_155 : (.methodLink RX5 155 yX5_mostLinesToDo : Cond) ∈ UW := uw 632 (by decide +kernel) (by decide +kernel)
theorem u_im_yX5_mostLinesToDo : (.instanceMethod yX5_mostLinesToDo : Cond) ∈ UW := uw 634 (by decide +kernel) (by decide +kernel)
theorem u_co_yX5_mostLinesToDo : (.code yX5_mostLinesToDo cX5_mostLinesToDo 4 (some FieldType.int) : Cond) ∈ UW := uw 635 (by decide +kernel) (by decide +kernel)
theorem u_ml_RL_132 : (.methodLink RL 132 yL_planWave : Cond) ∈ UW := uw 637 (by decide +kernel) (by decide +kernel)
theorem u_st_yL_planWave : (.static yL_planWave : Cond) ∈ UW := uw 638 (by decide +kernel) (by decide +kernel)
theorem u_ml_RL_49 : (.methodLink RL 49 yX5_planWave : Cond) ∈ UW := uw 640 (by decide +kernel) (by decide +kernel)
theorem u_im_yX5_planWave : (.instanceMethod yX5_planWave : Cond) ∈ UW := uw 641 (by decide +kernel) (by decide +kernel)
theorem u_se_yX5_planWave : (.selects RX5 yX5_planWave yX5_planWave : Cond) ∈ UW := uw 642 (by decide +kernel) (by decide +kernel)
theorem u_co_yX5_planWave : (.code yX5_planWave cX5_planWave 4 (some FieldType.int) : Cond) ∈ UW := uw 643 (by decide +kernel) (by decide +kernel)
theorem u_ml_RX5_160 : (.methodLink RX5 160 yX5_takesAnyOrder : Cond) ∈ UW := uw 644 (by decide +kernel) (by decide +kernel)
theorem u_im_yX5_takesAnyOrder : (.instanceMethod yX5_takesAnyOrder : Cond) ∈ UW := uw 646 (by decide +kernel) (by decide +kernel)
theorem u_co_yX5_takesAnyOrder : (.code yX5_takesAnyOrder cX5_takesAnyOrder 3 (some FieldType.boolean) : Cond) ∈ UW := uw 647 (by decide +kernel) (by decide +kernel)
theorem u_ml_RX5_169 : (.methodLink RX5 169 yX1_isTakenAt : Cond) ∈ UW := uw 648 (by decide +kernel) (by decide +kernel)
theorem u_im_yX1_isTakenAt : (.instanceMethod yX1_isTakenAt : Cond) ∈ UW := uw 649 (by decide +kernel) (by decide +kernel)
theorem u_se_yX1_isTakenAt : (.selects RX1 yX1_isTakenAt yX1_isTakenAt : Cond) ∈ UW := uw 650 (by decide +kernel) (by decide +kernel)
theorem u_co_yX1_isTakenAt : (.code yX1_isTakenAt cX1_isTakenAt 2 (some FieldType.boolean) : Cond) ∈ UW := uw 651 (by decide +kernel) (by decide +kernel)
theorem u_ml_RX5_172 : (.methodLink RX5 172 yX4_take : Cond) ∈ UW := uw 653 (by decide +kernel) (by decide +kernel)
theorem u_im_yX4_take : (.instanceMethod yX4_take : Cond) ∈ UW := uw 654 (by decide +kernel) (by decide +kernel)
theorem u_se_yX4_take : (.selects RX4 yX4_take yX4_take : Cond) ∈ UW := uw 655 (by decide +kernel) (by decide +kernel)
theorem u_co_yX4_take : (.code yX4_take cX4_take 3 (none) : Cond) ∈ UW := uw 656 (by decide +kernel) (by decide +kernel)
theorem u_cl_RX4_35 : (.classLink RX4 35 RX0 : Cond) ∈ UW := uw 657 (by decide +kernel) (by decide +kernel)
theorem u_is_RX0 : (.instantiable RX0 6 : Cond) ∈ UW := uw 658 (by decide +kernel) (by decide +kernel)
theorem u_ml_RX4_43 : (.methodLink RX4 43 yX2_leastLength : Cond) ∈ UW := uw 659 (by decide +kernel) (by decide +kernel)
theorem u_ml_RX4_49 : (.methodLink RX4 49 yX0_init : Cond) ∈ UW := uw 660 (by decide +kernel) (by decide +kernel)
theorem u_im_yX0_init : (.instanceMethod yX0_init : Cond) ∈ UW := uw 661 (by decide +kernel) (by decide +kernel)
theorem u_co_yX0_init : (.code yX0_init cX0_init 5 (none) : Cond) ∈ UW := uw 662 (by decide +kernel) (by decide +kernel)
theorem u_ml_RX0_3 : (.methodLink RX0 3 objectInit : Cond) ∈ UW := uw 663 (by decide +kernel) (by decide +kernel)
theorem u_ml_RX0_29 : (.methodLink RX0 29 yX1_countLines : Cond) ∈ UW := uw 664 (by decide +kernel) (by decide +kernel)
theorem u_fl_RX0_15 : (.fieldLink RX0 15 "Aislewright$Batch" "row" "I" : Cond) ∈ UW := uw 665 (by decide +kernel) (by decide +kernel)
theorem n_fn_RX4_82 : (.fieldLinkNest RX4 82 "Aislewright$Batch" "row" "I" RX5 : Cond) ∈ UN := un 666 (by decide +kernel) (by decide +kernel)
theorem u_fl_RX0_19 : (.fieldLink RX0 19 "Aislewright$Batch" "orderBits" "J" : Cond) ∈ UW := uw 667 (by decide +kernel) (by decide +kernel)
theorem u_fl_RX0_28 : (.fieldLink RX0 28 "Aislewright$Batch" "products" "I" : Cond) ∈ UW := uw 668 (by decide +kernel) (by decide +kernel)
theorem n_fn_RX4_67 : (.fieldLinkNest RX4 67 "Aislewright$Batch" "products" "I" RX5 : Cond) ∈ UN := un 669 (by decide +kernel) (by decide +kernel)
theorem n_fn_RX5_213 : (.fieldLinkNest RX5 213 "Aislewright$Batch" "products" "I" RX5 : Cond) ∈ UN := un 670 (by decide +kernel) (by decide +kernel)
theorem u_fl_RX0_33 : (.fieldLink RX0 33 "Aislewright$Batch" "lines" "I" : Cond) ∈ UW := uw 671 (by decide +kernel) (by decide +kernel)
theorem n_fn_RX4_76 : (.fieldLinkNest RX4 76 "Aislewright$Batch" "lines" "I" RX5 : Cond) ∈ UN := un 672 (by decide +kernel) (by decide +kernel)
theorem n_fn_RX5_205 : (.fieldLinkNest RX5 205 "Aislewright$Batch" "lines" "I" RX5 : Cond) ∈ UN := un 673 (by decide +kernel) (by decide +kernel)
theorem u_fl_RX0_36 : (.fieldLink RX0 36 "Aislewright$Batch" "length" "I" : Cond) ∈ UW := uw 674 (by decide +kernel) (by decide +kernel)
theorem n_fn_RX4_79 : (.fieldLinkNest RX4 79 "Aislewright$Batch" "length" "I" RX5 : Cond) ∈ UN := un 675 (by decide +kernel) (by decide +kernel)
theorem n_fn_RX5_196 : (.fieldLinkNest RX5 196 "Aislewright$Batch" "length" "I" RX5 : Cond) ∈ UN := un 676 (by decide +kernel) (by decide +kernel)
theorem u_fl_RX0_9 : (.fieldLink RX0 9 "Aislewright$Batch" "route" "[I" : Cond) ∈ UW := uw 677 (by decide +kernel) (by decide +kernel)
theorem n_fn_RX4_72 : (.fieldLinkNest RX4 72 "Aislewright$Batch" "route" "[I" RX5 : Cond) ∈ UN := un 678 (by decide +kernel) (by decide +kernel)
theorem n_fn_RX5_208 : (.fieldLinkNest RX5 208 "Aislewright$Batch" "route" "[I" RX5 : Cond) ∈ UN := un 679 (by decide +kernel) (by decide +kernel)
theorem u_ml_RX4_52 : (.methodLink RX4 52 yJx4a65c_add_9ea2d : Cond) ∈ UW := uw 693 (by decide +kernel) (by decide +kernel)
theorem u_ml_RX5_176 : (.methodLink RX5 176 yX4_join : Cond) ∈ UW := uw 694 (by decide +kernel) (by decide +kernel)
theorem u_im_yX4_join : (.instanceMethod yX4_join : Cond) ∈ UW := uw 695 (by decide +kernel) (by decide +kernel)
theorem u_se_yX4_join : (.selects RX4 yX4_join yX4_join : Cond) ∈ UW := uw 696 (by decide +kernel) (by decide +kernel)
theorem u_co_yX4_join : (.code yX4_join cX4_join 5 (none) : Cond) ∈ UW := uw 697 (by decide +kernel) (by decide +kernel)
theorem u_ml_RX4_56 : (.methodLink RX4 56 yX4_noteSaving : Cond) ∈ UW := uw 698 (by decide +kernel) (by decide +kernel)
theorem u_im_yX4_noteSaving : (.instanceMethod yX4_noteSaving : Cond) ∈ UW := uw 700 (by decide +kernel) (by decide +kernel)
theorem u_co_yX4_noteSaving : (.code yX4_noteSaving cX4_noteSaving 7 (none) : Cond) ∈ UW := uw 701 (by decide +kernel) (by decide +kernel)
theorem u_ml_RX4_63 : (.methodLink RX4 63 yJx4a65c_get_915e3 : Cond) ∈ UW := uw 702 (by decide +kernel) (by decide +kernel)
theorem u_ml_RX4_60 : (.methodLink RX4 60 yX4_joinBestPair : Cond) ∈ UW := uw 703 (by decide +kernel) (by decide +kernel)
theorem u_im_yX4_joinBestPair : (.instanceMethod yX4_joinBestPair : Cond) ∈ UW := uw 705 (by decide +kernel) (by decide +kernel)
theorem u_co_yX4_joinBestPair : (.code yX4_joinBestPair cX4_joinBestPair 7 (some FieldType.int) : Cond) ∈ UW := uw 706 (by decide +kernel) (by decide +kernel)
theorem u_ml_RX4_85 : (.methodLink RX4 85 yX4_savingOf : Cond) ∈ UW := uw 707 (by decide +kernel) (by decide +kernel)
theorem u_im_yX4_savingOf : (.instanceMethod yX4_savingOf : Cond) ∈ UW := uw 709 (by decide +kernel) (by decide +kernel)
theorem u_co_yX4_savingOf : (.code yX4_savingOf cX4_savingOf 3 (some FieldType.int) : Cond) ∈ UW := uw 710 (by decide +kernel) (by decide +kernel)
theorem u_ml_RX4_89 : (.methodLink RX4 89 yX0_absorb : Cond) ∈ UW := uw 711 (by decide +kernel) (by decide +kernel)
theorem u_im_yX0_absorb : (.instanceMethod yX0_absorb : Cond) ∈ UW := uw 712 (by decide +kernel) (by decide +kernel)
theorem u_se_yX0_absorb : (.selects RX0 yX0_absorb yX0_absorb : Cond) ∈ UW := uw 713 (by decide +kernel) (by decide +kernel)
theorem u_co_yX0_absorb : (.code yX0_absorb cX0_absorb 3 (none) : Cond) ∈ UW := uw 714 (by decide +kernel) (by decide +kernel)
theorem u_ml_RX4_93 : (.methodLink RX4 93 yJx4a65c_remove_915e3 : Cond) ∈ UW := uw 715 (by decide +kernel) (by decide +kernel)
theorem u_im_yJx4a65c_remove_915e3 : (.instanceMethod yJx4a65c_remove_915e3 : Cond) ∈ UW := uw 716 (by decide +kernel) (by decide +kernel)
theorem u_se_yJx4a65c_remove_915e3 : (.selects RJx4a65c yJx4a65c_remove_915e3 yJx4a65c_remove_915e3 : Cond) ∈ UW := uw 717 (by decide +kernel) (by decide +kernel)
theorem u_co_yJx4a65c_remove_915e3 : (.code yJx4a65c_remove_915e3 cJx4a65c_remove_915e3 4 (some (FieldType.object "java/lang/Object")) : Cond) ∈ UW := uw 718 (by decide +kernel) (by decide +kernel)
theorem u_ml_RJx4a65c_144 : (.methodLink RJx4a65c 144 yJx4a65c_fastRemove_b59b0 : Cond) ∈ UW := uw 719 (by decide +kernel) (by decide +kernel)
theorem u_im_yJx4a65c_fastRemove_b59b0 : (.instanceMethod yJx4a65c_fastRemove_b59b0 : Cond) ∈ UW := uw 721 (by decide +kernel) (by decide +kernel)
theorem u_co_yJx4a65c_fastRemove_b59b0 : (.code yJx4a65c_fastRemove_b59b0 cJx4a65c_fastRemove_b59b0 4 (none) : Cond) ∈ UW := uw 722 (by decide +kernel) (by decide +kernel)
theorem u_ml_RX4_68 : (.methodLink RX4 68 yX2_bestRoute : Cond) ∈ UW := uw 724 (by decide +kernel) (by decide +kernel)
theorem u_im_yX2_bestRoute : (.instanceMethod yX2_bestRoute : Cond) ∈ UW := uw 725 (by decide +kernel) (by decide +kernel)
theorem u_se_yX2_bestRoute : (.selects RX2 yX2_bestRoute yX2_bestRoute : Cond) ∈ UW := uw 726 (by decide +kernel) (by decide +kernel)
theorem u_co_yX2_bestRoute : (.code yX2_bestRoute cX2_bestRoute 6 (some (FieldType.array FieldType.int)) : Cond) ∈ UW := uw 727 (by decide +kernel) (by decide +kernel)
theorem u_ml_RX2_46 : (.methodLink RX2 46 yX2_bestNext : Cond) ∈ UW := uw 728 (by decide +kernel) (by decide +kernel)
theorem u_im_yX2_bestNext : (.instanceMethod yX2_bestNext : Cond) ∈ UW := uw 730 (by decide +kernel) (by decide +kernel)
theorem u_co_yX2_bestNext : (.code yX2_bestNext cX2_bestNext 6 (some FieldType.int) : Cond) ∈ UW := uw 731 (by decide +kernel) (by decide +kernel)
theorem u_ml_RL_135 : (.methodLink RL 135 yL_pick : Cond) ∈ UW := uw 732 (by decide +kernel) (by decide +kernel)
theorem u_st_yL_pick : (.static yL_pick : Cond) ∈ UW := uw 733 (by decide +kernel) (by decide +kernel)
theorem u_ml_RL_52 : (.methodLink RL 52 yX5_pick : Cond) ∈ UW := uw 735 (by decide +kernel) (by decide +kernel)
theorem u_im_yX5_pick : (.instanceMethod yX5_pick : Cond) ∈ UW := uw 736 (by decide +kernel) (by decide +kernel)
theorem u_se_yX5_pick : (.selects RX5 yX5_pick yX5_pick : Cond) ∈ UW := uw 737 (by decide +kernel) (by decide +kernel)
theorem u_co_yX5_pick : (.code yX5_pick cX5_pick 4 (some FieldType.int) : Cond) ∈ UW := uw 738 (by decide +kernel) (by decide +kernel)
theorem u_ml_RX5_180 : (.methodLink RX5 180 yX5_batchNumbered : Cond) ∈ UW := uw 739 (by decide +kernel) (by decide +kernel)
theorem u_im_yX5_batchNumbered : (.instanceMethod yX5_batchNumbered : Cond) ∈ UW := uw 741 (by decide +kernel) (by decide +kernel)
theorem u_co_yX5_batchNumbered : (.code yX5_batchNumbered cX5_batchNumbered 2 (some (FieldType.object "Aislewright$Batch")) : Cond) ∈ UW := uw 742 (by decide +kernel) (by decide +kernel)
theorem u_cl_RX5_185 : (.classLink RX5 185 RX0 : Cond) ∈ UW := uw 744 (by decide +kernel) (by decide +kernel)
theorem u_ml_RX5_184 : (.methodLink RX5 184 yX0_holds : Cond) ∈ UW := uw 745 (by decide +kernel) (by decide +kernel)
theorem u_im_yX0_holds : (.instanceMethod yX0_holds : Cond) ∈ UW := uw 746 (by decide +kernel) (by decide +kernel)
theorem u_se_yX0_holds : (.selects RX0 yX0_holds yX0_holds : Cond) ∈ UW := uw 747 (by decide +kernel) (by decide +kernel)
theorem u_co_yX0_holds : (.code yX0_holds cX0_holds 2 (some FieldType.boolean) : Cond) ∈ UW := uw 748 (by decide +kernel) (by decide +kernel)
theorem u_ml_RX5_189 : (.methodLink RX5 189 yX5_finish : Cond) ∈ UW := uw 749 (by decide +kernel) (by decide +kernel)
theorem u_im_yX5_finish : (.instanceMethod yX5_finish : Cond) ∈ UW := uw 751 (by decide +kernel) (by decide +kernel)
theorem u_co_yX5_finish : (.code yX5_finish cX5_finish 2 (none) : Cond) ∈ UW := uw 752 (by decide +kernel) (by decide +kernel)
theorem u_ml_RX5_249 : (.methodLink RX5 249 yX3_addTurnover : Cond) ∈ UW := uw 753 (by decide +kernel) (by decide +kernel)
theorem u_im_yX3_addTurnover : (.instanceMethod yX3_addTurnover : Cond) ∈ UW := uw 754 (by decide +kernel) (by decide +kernel)
theorem u_se_yX3_addTurnover : (.selects RX3 yX3_addTurnover yX3_addTurnover : Cond) ∈ UW := uw 755 (by decide +kernel) (by decide +kernel)
theorem u_co_yX3_addTurnover : (.code yX3_addTurnover cX3_addTurnover 3 (none) : Cond) ∈ UW := uw 756 (by decide +kernel) (by decide +kernel)
theorem u_ml_RX5_199 : (.methodLink RX5 199 yX4_drop : Cond) ∈ UW := uw 757 (by decide +kernel) (by decide +kernel)
theorem u_im_yX4_drop : (.instanceMethod yX4_drop : Cond) ∈ UW := uw 758 (by decide +kernel) (by decide +kernel)
theorem u_se_yX4_drop : (.selects RX4 yX4_drop yX4_drop : Cond) ∈ UW := uw 759 (by decide +kernel) (by decide +kernel)
theorem u_co_yX4_drop : (.code yX4_drop cX4_drop 2 (none) : Cond) ∈ UW := uw 760 (by decide +kernel) (by decide +kernel)
theorem u_ml_RL_142 : (.methodLink RL 142 yL_batchOf : Cond) ∈ UW := uw 761 (by decide +kernel) (by decide +kernel)
theorem u_st_yL_batchOf : (.static yL_batchOf : Cond) ∈ UW := uw 762 (by decide +kernel) (by decide +kernel)
theorem u_ml_RL_55 : (.methodLink RL 55 yX5_batchOf : Cond) ∈ UW := uw 764 (by decide +kernel) (by decide +kernel)
theorem u_im_yX5_batchOf : (.instanceMethod yX5_batchOf : Cond) ∈ UW := uw 765 (by decide +kernel) (by decide +kernel)
theorem u_se_yX5_batchOf : (.selects RX5 yX5_batchOf yX5_batchOf : Cond) ∈ UW := uw 766 (by decide +kernel) (by decide +kernel)
theorem u_co_yX5_batchOf : (.code yX5_batchOf cX5_batchOf 2 (some FieldType.int) : Cond) ∈ UW := uw 767 (by decide +kernel) (by decide +kernel)
theorem u_ml_RX5_202 : (.methodLink RX5 202 yX4_batchWith : Cond) ∈ UW := uw 768 (by decide +kernel) (by decide +kernel)
theorem u_im_yX4_batchWith : (.instanceMethod yX4_batchWith : Cond) ∈ UW := uw 769 (by decide +kernel) (by decide +kernel)
theorem u_se_yX4_batchWith : (.selects RX4 yX4_batchWith yX4_batchWith : Cond) ∈ UW := uw 770 (by decide +kernel) (by decide +kernel)
theorem u_co_yX4_batchWith : (.code yX4_batchWith cX4_batchWith 3 (some FieldType.int) : Cond) ∈ UW := uw 771 (by decide +kernel) (by decide +kernel)
theorem u_ml_RX4_96 : (.methodLink RX4 96 yX0_holds : Cond) ∈ UW := uw 772 (by decide +kernel) (by decide +kernel)
theorem u_ml_RL_145 : (.methodLink RL 145 yL_linesOf : Cond) ∈ UW := uw 773 (by decide +kernel) (by decide +kernel)
theorem u_st_yL_linesOf : (.static yL_linesOf : Cond) ∈ UW := uw 774 (by decide +kernel) (by decide +kernel)
theorem u_ml_RL_58 : (.methodLink RL 58 yX5_linesOf : Cond) ∈ UW := uw 776 (by decide +kernel) (by decide +kernel)
theorem u_im_yX5_linesOf : (.instanceMethod yX5_linesOf : Cond) ∈ UW := uw 777 (by decide +kernel) (by decide +kernel)
theorem u_se_yX5_linesOf : (.selects RX5 yX5_linesOf yX5_linesOf : Cond) ∈ UW := uw 778 (by decide +kernel) (by decide +kernel)
theorem u_co_yX5_linesOf : (.code yX5_linesOf cX5_linesOf 2 (some FieldType.int) : Cond) ∈ UW := uw 779 (by decide +kernel) (by decide +kernel)
theorem u_ml_RL_148 : (.methodLink RL 148 yL_lengthOf : Cond) ∈ UW := uw 780 (by decide +kernel) (by decide +kernel)
theorem u_st_yL_lengthOf : (.static yL_lengthOf : Cond) ∈ UW := uw 781 (by decide +kernel) (by decide +kernel)
theorem u_ml_RL_61 : (.methodLink RL 61 yX5_lengthOf : Cond) ∈ UW := uw 783 (by decide +kernel) (by decide +kernel)
theorem u_im_yX5_lengthOf : (.instanceMethod yX5_lengthOf : Cond) ∈ UW := uw 784 (by decide +kernel) (by decide +kernel)
theorem u_se_yX5_lengthOf : (.selects RX5 yX5_lengthOf yX5_lengthOf : Cond) ∈ UW := uw 785 (by decide +kernel) (by decide +kernel)
theorem u_co_yX5_lengthOf : (.code yX5_lengthOf cX5_lengthOf 2 (some FieldType.int) : Cond) ∈ UW := uw 786 (by decide +kernel) (by decide +kernel)
theorem u_ml_RL_151 : (.methodLink RL 151 yL_lengthByTrying : Cond) ∈ UW := uw 787 (by decide +kernel) (by decide +kernel)
theorem u_st_yL_lengthByTrying : (.static yL_lengthByTrying : Cond) ∈ UW := uw 788 (by decide +kernel) (by decide +kernel)
theorem u_ml_RL_64 : (.methodLink RL 64 yX5_lengthByTrying : Cond) ∈ UW := uw 790 (by decide +kernel) (by decide +kernel)
theorem u_im_yX5_lengthByTrying : (.instanceMethod yX5_lengthByTrying : Cond) ∈ UW := uw 791 (by decide +kernel) (by decide +kernel)
theorem u_se_yX5_lengthByTrying : (.selects RX5 yX5_lengthByTrying yX5_lengthByTrying : Cond) ∈ UW := uw 792 (by decide +kernel) (by decide +kernel)
theorem u_co_yX5_lengthByTrying : (.code yX5_lengthByTrying cX5_lengthByTrying 3 (some FieldType.int) : Cond) ∈ UW := uw 793 (by decide +kernel) (by decide +kernel)
theorem u_ml_RX5_214 : (.methodLink RX5 214 yX2_leastByTrying : Cond) ∈ UW := uw 795 (by decide +kernel) (by decide +kernel)
theorem u_im_yX2_leastByTrying : (.instanceMethod yX2_leastByTrying : Cond) ∈ UW := uw 796 (by decide +kernel) (by decide +kernel)
theorem u_se_yX2_leastByTrying : (.selects RX2 yX2_leastByTrying yX2_leastByTrying : Cond) ∈ UW := uw 797 (by decide +kernel) (by decide +kernel)
theorem u_co_yX2_leastByTrying : (.code yX2_leastByTrying cX2_leastByTrying 2 (some FieldType.int) : Cond) ∈ UW := uw 798 (by decide +kernel) (by decide +kernel)
theorem u_ml_RX2_50 : (.methodLink RX2 50 yX2_tryFrom : Cond) ∈ UW := uw 799 (by decide +kernel) (by decide +kernel)
theorem u_im_yX2_tryFrom : (.instanceMethod yX2_tryFrom : Cond) ∈ UW := uw 801 (by decide +kernel) (by decide +kernel)
theorem u_co_yX2_tryFrom : (.code yX2_tryFrom cX2_tryFrom 9 (some FieldType.int) : Cond) ∈ UW := uw 802 (by decide +kernel) (by decide +kernel)
theorem u_ml_RL_154 : (.methodLink RL 154 yL_lengthThrough : Cond) ∈ UW := uw 803 (by decide +kernel) (by decide +kernel)
theorem u_st_yL_lengthThrough : (.static yL_lengthThrough : Cond) ∈ UW := uw 804 (by decide +kernel) (by decide +kernel)
theorem u_ml_RL_67 : (.methodLink RL 67 yX5_lengthThrough : Cond) ∈ UW := uw 806 (by decide +kernel) (by decide +kernel)
theorem u_im_yX5_lengthThrough : (.instanceMethod yX5_lengthThrough : Cond) ∈ UW := uw 807 (by decide +kernel) (by decide +kernel)
theorem u_se_yX5_lengthThrough : (.selects RX5 yX5_lengthThrough yX5_lengthThrough : Cond) ∈ UW := uw 808 (by decide +kernel) (by decide +kernel)
theorem u_co_yX5_lengthThrough : (.code yX5_lengthThrough cX5_lengthThrough 2 (some FieldType.int) : Cond) ∈ UW := uw 809 (by decide +kernel) (by decide +kernel)
theorem u_ml_RX5_217 : (.methodLink RX5 217 yX2_throughAisles : Cond) ∈ UW := uw 810 (by decide +kernel) (by decide +kernel)
theorem u_im_yX2_throughAisles : (.instanceMethod yX2_throughAisles : Cond) ∈ UW := uw 811 (by decide +kernel) (by decide +kernel)
theorem u_se_yX2_throughAisles : (.selects RX2 yX2_throughAisles yX2_throughAisles : Cond) ∈ UW := uw 812 (by decide +kernel) (by decide +kernel)
theorem u_co_yX2_throughAisles : (.code yX2_throughAisles cX2_throughAisles 6 (some FieldType.int) : Cond) ∈ UW := uw 813 (by decide +kernel) (by decide +kernel)
theorem u_ml_RX2_54 : (.methodLink RX2 54 yX2_countAisles : Cond) ∈ UW := uw 814 (by decide +kernel) (by decide +kernel)
theorem u_im_yX2_countAisles : (.instanceMethod yX2_countAisles : Cond) ∈ UW := uw 816 (by decide +kernel) (by decide +kernel)
theorem u_co_yX2_countAisles : (.code yX2_countAisles cX2_countAisles 5 (some FieldType.int) : Cond) ∈ UW := uw 817 (by decide +kernel) (by decide +kernel)
theorem u_ml_RX2_57 : (.methodLink RX2 57 yX3_depth : Cond) ∈ UW := uw 818 (by decide +kernel) (by decide +kernel)
theorem u_ml_RL_157 : (.methodLink RL 157 yL_stops : Cond) ∈ UW := uw 819 (by decide +kernel) (by decide +kernel)
theorem u_st_yL_stops : (.static yL_stops : Cond) ∈ UW := uw 820 (by decide +kernel) (by decide +kernel)
theorem u_ml_RL_70 : (.methodLink RL 70 yX5_stops : Cond) ∈ UW := uw 822 (by decide +kernel) (by decide +kernel)
theorem u_im_yX5_stops : (.instanceMethod yX5_stops : Cond) ∈ UW := uw 823 (by decide +kernel) (by decide +kernel)
theorem u_se_yX5_stops : (.selects RX5 yX5_stops yX5_stops : Cond) ∈ UW := uw 824 (by decide +kernel) (by decide +kernel)
theorem u_co_yX5_stops : (.code yX5_stops cX5_stops 2 (some FieldType.int) : Cond) ∈ UW := uw 825 (by decide +kernel) (by decide +kernel)
theorem u_ml_RL_160 : (.methodLink RL 160 yL_stopAt : Cond) ∈ UW := uw 826 (by decide +kernel) (by decide +kernel)
theorem u_st_yL_stopAt : (.static yL_stopAt : Cond) ∈ UW := uw 827 (by decide +kernel) (by decide +kernel)
theorem u_ml_RL_73 : (.methodLink RL 73 yX5_stopAt : Cond) ∈ UW := uw 829 (by decide +kernel) (by decide +kernel)
theorem u_im_yX5_stopAt : (.instanceMethod yX5_stopAt : Cond) ∈ UW := uw 830 (by decide +kernel) (by decide +kernel)
theorem u_se_yX5_stopAt : (.selects RX5 yX5_stopAt yX5_stopAt : Cond) ∈ UW := uw 831 (by decide +kernel) (by decide +kernel)
theorem u_co_yX5_stopAt : (.code yX5_stopAt cX5_stopAt 4 (some FieldType.int) : Cond) ∈ UW := uw 832 (by decide +kernel) (by decide +kernel)
theorem u_ml_RL_163 : (.methodLink RL 163 yL_inAisle : Cond) ∈ UW := uw 834 (by decide +kernel) (by decide +kernel)
theorem u_st_yL_inAisle : (.static yL_inAisle : Cond) ∈ UW := uw 835 (by decide +kernel) (by decide +kernel)
theorem u_ml_RL_76 : (.methodLink RL 76 yX5_inAisle : Cond) ∈ UW := uw 837 (by decide +kernel) (by decide +kernel)
theorem u_im_yX5_inAisle : (.instanceMethod yX5_inAisle : Cond) ∈ UW := uw 838 (by decide +kernel) (by decide +kernel)
theorem u_se_yX5_inAisle : (.selects RX5 yX5_inAisle yX5_inAisle : Cond) ∈ UW := uw 839 (by decide +kernel) (by decide +kernel)
theorem u_co_yX5_inAisle : (.code yX5_inAisle cX5_inAisle 2 (some FieldType.int) : Cond) ∈ UW := uw 840 (by decide +kernel) (by decide +kernel)
theorem u_ml_RX5_224 : (.methodLink RX5 224 yX4_countIn : Cond) ∈ UW := uw 842 (by decide +kernel) (by decide +kernel)
theorem u_im_yX4_countIn : (.instanceMethod yX4_countIn : Cond) ∈ UW := uw 843 (by decide +kernel) (by decide +kernel)
theorem u_se_yX4_countIn : (.selects RX4 yX4_countIn yX4_countIn : Cond) ∈ UW := uw 844 (by decide +kernel) (by decide +kernel)
theorem u_co_yX4_countIn : (.code yX4_countIn cX4_countIn 4 (some FieldType.int) : Cond) ∈ UW := uw 845 (by decide +kernel) (by decide +kernel)
theorem u_ml_RX4_100 : (.methodLink RX4 100 yX0_comesInto : Cond) ∈ UW := uw 846 (by decide +kernel) (by decide +kernel)
theorem u_im_yX0_comesInto : (.instanceMethod yX0_comesInto : Cond) ∈ UW := uw 847 (by decide +kernel) (by decide +kernel)
theorem u_se_yX0_comesInto : (.selects RX0 yX0_comesInto yX0_comesInto : Cond) ∈ UW := uw 848 (by decide +kernel) (by decide +kernel)
theorem u_co_yX0_comesInto : (.code yX0_comesInto cX0_comesInto 3 (some FieldType.boolean) : Cond) ∈ UW := uw 849 (by decide +kernel) (by decide +kernel)
theorem u_cl_RL_88 : (.classLink RL 88 RX6 : Cond) ∈ UW := uw 850 (by decide +kernel) (by decide +kernel)
theorem u_is_RX6 : (.instantiable RX6 22 : Cond) ∈ UW := uw 851 (by decide +kernel) (by decide +kernel)
theorem u_ml_RL_90 : (.methodLink RL 90 yX6_init : Cond) ∈ UW := uw 852 (by decide +kernel) (by decide +kernel)
theorem u_im_yX6_init : (.instanceMethod yX6_init : Cond) ∈ UW := uw 853 (by decide +kernel) (by decide +kernel)
theorem u_co_yX6_init : (.code yX6_init cX6_init 5 (none) : Cond) ∈ UW := uw 854 (by decide +kernel) (by decide +kernel)
theorem u_ml_RX6_1 : (.methodLink RX6 1 objectInit : Cond) ∈ UW := uw 855 (by decide +kernel) (by decide +kernel)
theorem u_fl_RX6_59 : (.fieldLink RX6 59 "AislewrightModel" "thrown" "I" : Cond) ∈ UW := uw 856 (by decide +kernel) (by decide +kernel)
theorem u_fl_RX6_50 : (.fieldLink RX6 50 "AislewrightModel" "aisles" "I" : Cond) ∈ UW := uw 857 (by decide +kernel) (by decide +kernel)
theorem u_fl_RX6_53 : (.fieldLink RX6 53 "AislewrightModel" "positions" "I" : Cond) ∈ UW := uw 858 (by decide +kernel) (by decide +kernel)
theorem u_fl_RX6_56 : (.fieldLink RX6 56 "AislewrightModel" "gap" "I" : Cond) ∈ UW := uw 859 (by decide +kernel) (by decide +kernel)
theorem u_fl_RX6_7 : (.fieldLink RX6 7 "AislewrightModel" "capacity" "I" : Cond) ∈ UW := uw 860 (by decide +kernel) (by decide +kernel)
theorem u_fl_RX6_13 : (.fieldLink RX6 13 "AislewrightModel" "place" "[I" : Cond) ∈ UW := uw 861 (by decide +kernel) (by decide +kernel)
theorem u_fl_RX6_66 : (.fieldLink RX6 66 "AislewrightModel" "orders" "I" : Cond) ∈ UW := uw 862 (by decide +kernel) (by decide +kernel)
theorem u_fl_RX6_17 : (.fieldLink RX6 17 "AislewrightModel" "due" "[I" : Cond) ∈ UW := uw 863 (by decide +kernel) (by decide +kernel)
theorem u_fl_RX6_20 : (.fieldLink RX6 20 "AislewrightModel" "state" "[I" : Cond) ∈ UW := uw 864 (by decide +kernel) (by decide +kernel)
theorem u_fl_RX6_23 : (.fieldLink RX6 23 "AislewrightModel" "batch" "[I" : Cond) ∈ UW := uw 865 (by decide +kernel) (by decide +kernel)
theorem u_fl_RX6_26 : (.fieldLink RX6 26 "AislewrightModel" "many" "[I" : Cond) ∈ UW := uw 866 (by decide +kernel) (by decide +kernel)
theorem u_fl_RX6_29 : (.fieldLink RX6 29 "AislewrightModel" "product" "[I" : Cond) ∈ UW := uw 867 (by decide +kernel) (by decide +kernel)
theorem u_fl_RX6_32 : (.fieldLink RX6 32 "AislewrightModel" "quantity" "[I" : Cond) ∈ UW := uw 868 (by decide +kernel) (by decide +kernel)
theorem u_fl_RX6_69 : (.fieldLink RX6 69 "AislewrightModel" "batches" "I" : Cond) ∈ UW := uw 869 (by decide +kernel) (by decide +kernel)
theorem u_fl_RX6_137 : (.fieldLink RX6 137 "AislewrightModel" "walked" "I" : Cond) ∈ UW := uw 870 (by decide +kernel) (by decide +kernel)
theorem u_fl_RX6_133 : (.fieldLink RX6 133 "AislewrightModel" "alone" "J" : Cond) ∈ UW := uw 871 (by decide +kernel) (by decide +kernel)
theorem u_fl_RX6_76 : (.fieldLink RX6 76 "AislewrightModel" "stops" "I" : Cond) ∈ UW := uw 872 (by decide +kernel) (by decide +kernel)
theorem u_fl_RX6_35 : (.fieldLink RX6 35 "AislewrightModel" "stop" "[I" : Cond) ∈ UW := uw 873 (by decide +kernel) (by decide +kernel)
theorem u_fl_RX6_38 : (.fieldLink RX6 38 "AislewrightModel" "on" "[I" : Cond) ∈ UW := uw 874 (by decide +kernel) (by decide +kernel)
theorem u_fl_RX6_41 : (.fieldLink RX6 41 "AislewrightModel" "path" "[I" : Cond) ∈ UW := uw 875 (by decide +kernel) (by decide +kernel)
theorem u_fl_RX6_44 : (.fieldLink RX6 44 "AislewrightModel" "ranked" "[I" : Cond) ∈ UW := uw 876 (by decide +kernel) (by decide +kernel)
theorem u_fl_RX6_47 : (.fieldLink RX6 47 "AislewrightModel" "spots" "[I" : Cond) ∈ UW := uw 877 (by decide +kernel) (by decide +kernel)
theorem u_ml_RL_95 : (.methodLink RL 95 yX6_thrown : Cond) ∈ UW := uw 923 (by decide +kernel) (by decide +kernel)
theorem u_im_yX6_thrown : (.instanceMethod yX6_thrown : Cond) ∈ UW := uw 924 (by decide +kernel) (by decide +kernel)
theorem u_se_yX6_thrown : (.selects RX6 yX6_thrown yX6_thrown : Cond) ∈ UW := uw 925 (by decide +kernel) (by decide +kernel)
theorem u_co_yX6_thrown : (.code yX6_thrown cX6_thrown 1 (some FieldType.int) : Cond) ∈ UW := uw 926 (by decide +kernel) (by decide +kernel)
theorem u_ml_RL_94 : (.methodLink RL 94 yX6_put : Cond) ∈ UW := uw 927 (by decide +kernel) (by decide +kernel)
theorem u_im_yX6_put : (.instanceMethod yX6_put : Cond) ∈ UW := uw 928 (by decide +kernel) (by decide +kernel)
theorem u_se_yX6_put : (.selects RX6 yX6_put yX6_put : Cond) ∈ UW := uw 929 (by decide +kernel) (by decide +kernel)
theorem u_co_yX6_put : (.code yX6_put cX6_put 7 (some FieldType.int) : Cond) ∈ UW := uw 930 (by decide +kernel) (by decide +kernel)
theorem u_ml_RX6_90 : (.methodLink RX6 90 yX6_isProduct : Cond) ∈ UW := uw 931 (by decide +kernel) (by decide +kernel)
theorem u_st_yX6_isProduct : (.static yX6_isProduct : Cond) ∈ UW := uw 932 (by decide +kernel) (by decide +kernel)
theorem u_co_yX6_isProduct : (.code yX6_isProduct cX6_isProduct 1 (some FieldType.boolean) : Cond) ∈ UW := uw 933 (by decide +kernel) (by decide +kernel)
theorem u_ml_RX6_62 : (.methodLink RX6 62 yX6_in : Cond) ∈ UW := uw 934 (by decide +kernel) (by decide +kernel)
theorem u_st_yX6_in : (.static yX6_in : Cond) ∈ UW := uw 935 (by decide +kernel) (by decide +kernel)
theorem u_co_yX6_in : (.code yX6_in cX6_in 3 (some FieldType.boolean) : Cond) ∈ UW := uw 936 (by decide +kernel) (by decide +kernel)
theorem u_ml_RX6_94 : (.methodLink RX6 94 yX6_fails : Cond) ∈ UW := uw 937 (by decide +kernel) (by decide +kernel)
theorem u_im_yX6_fails : (.instanceMethod yX6_fails : Cond) ∈ UW := uw 939 (by decide +kernel) (by decide +kernel)
theorem u_co_yX6_fails : (.code yX6_fails cX6_fails 2 (some FieldType.int) : Cond) ∈ UW := uw 940 (by decide +kernel) (by decide +kernel)
theorem u_ml_RL_101 : (.methodLink RL 101 yX6_layOut : Cond) ∈ UW := uw 941 (by decide +kernel) (by decide +kernel)
theorem u_im_yX6_layOut : (.instanceMethod yX6_layOut : Cond) ∈ UW := uw 942 (by decide +kernel) (by decide +kernel)
theorem u_se_yX6_layOut : (.selects RX6 yX6_layOut yX6_layOut : Cond) ∈ UW := uw 943 (by decide +kernel) (by decide +kernel)
theorem u_co_yX6_layOut : (.code yX6_layOut cX6_layOut 4 (some FieldType.int) : Cond) ∈ UW := uw 944 (by decide +kernel) (by decide +kernel)
theorem u_ml_RX6_101 : (.methodLink RX6 101 yX6_ranks : Cond) ∈ UW := uw 945 (by decide +kernel) (by decide +kernel)
theorem u_im_yX6_ranks : (.instanceMethod yX6_ranks : Cond) ∈ UW := uw 947 (by decide +kernel) (by decide +kernel)
theorem u_co_yX6_ranks : (.code yX6_ranks cX6_ranks 4 (none) : Cond) ∈ UW := uw 948 (by decide +kernel) (by decide +kernel)
theorem u_ml_RX6_98 : (.methodLink RX6 98 yX6_turnoverOf : Cond) ∈ UW := uw 949 (by decide +kernel) (by decide +kernel)
theorem u_im_yX6_turnoverOf : (.instanceMethod yX6_turnoverOf : Cond) ∈ UW := uw 951 (by decide +kernel) (by decide +kernel)
theorem u_co_yX6_turnoverOf : (.code yX6_turnoverOf cX6_turnoverOf 5 (some FieldType.int) : Cond) ∈ UW := uw 952 (by decide +kernel) (by decide +kernel)
theorem u_ml_RX6_105 : (.methodLink RX6 105 yX6_spreads : Cond) ∈ UW := uw 953 (by decide +kernel) (by decide +kernel)
theorem u_im_yX6_spreads : (.instanceMethod yX6_spreads : Cond) ∈ UW := uw 955 (by decide +kernel) (by decide +kernel)
theorem u_co_yX6_spreads : (.code yX6_spreads cX6_spreads 4 (none) : Cond) ∈ UW := uw 956 (by decide +kernel) (by decide +kernel)
theorem u_ml_RX6_72 : (.methodLink RX6 72 yX6_way : Cond) ∈ UW := uw 957 (by decide +kernel) (by decide +kernel)
theorem u_im_yX6_way : (.instanceMethod yX6_way : Cond) ∈ UW := uw 959 (by decide +kernel) (by decide +kernel)
theorem u_co_yX6_way : (.code yX6_way cX6_way 8 (some FieldType.int) : Cond) ∈ UW := uw 960 (by decide +kernel) (by decide +kernel)
theorem u_ml_RL_105 : (.methodLink RL 105 yX6_placeOf : Cond) ∈ UW := uw 961 (by decide +kernel) (by decide +kernel)
theorem u_im_yX6_placeOf : (.instanceMethod yX6_placeOf : Cond) ∈ UW := uw 962 (by decide +kernel) (by decide +kernel)
theorem u_se_yX6_placeOf : (.selects RX6 yX6_placeOf yX6_placeOf : Cond) ∈ UW := uw 963 (by decide +kernel) (by decide +kernel)
theorem u_co_yX6_placeOf : (.code yX6_placeOf cX6_placeOf 2 (some FieldType.int) : Cond) ∈ UW := uw 964 (by decide +kernel) (by decide +kernel)
theorem u_ml_RL_108 : (.methodLink RL 108 yX6_turnover : Cond) ∈ UW := uw 965 (by decide +kernel) (by decide +kernel)
theorem u_im_yX6_turnover : (.instanceMethod yX6_turnover : Cond) ∈ UW := uw 966 (by decide +kernel) (by decide +kernel)
theorem u_se_yX6_turnover : (.selects RX6 yX6_turnover yX6_turnover : Cond) ∈ UW := uw 967 (by decide +kernel) (by decide +kernel)
theorem u_co_yX6_turnover : (.code yX6_turnover cX6_turnover 2 (some FieldType.int) : Cond) ∈ UW := uw 968 (by decide +kernel) (by decide +kernel)
theorem u_ml_RL_112 : (.methodLink RL 112 yX6_distance : Cond) ∈ UW := uw 969 (by decide +kernel) (by decide +kernel)
theorem u_im_yX6_distance : (.instanceMethod yX6_distance : Cond) ∈ UW := uw 970 (by decide +kernel) (by decide +kernel)
theorem u_se_yX6_distance : (.selects RX6 yX6_distance yX6_distance : Cond) ∈ UW := uw 971 (by decide +kernel) (by decide +kernel)
theorem u_co_yX6_distance : (.code yX6_distance cX6_distance 3 (some FieldType.int) : Cond) ∈ UW := uw 972 (by decide +kernel) (by decide +kernel)
theorem u_ml_RL_115 : (.methodLink RL 115 yX6_order : Cond) ∈ UW := uw 973 (by decide +kernel) (by decide +kernel)
theorem u_im_yX6_order : (.instanceMethod yX6_order : Cond) ∈ UW := uw 974 (by decide +kernel) (by decide +kernel)
theorem u_se_yX6_order : (.selects RX6 yX6_order yX6_order : Cond) ∈ UW := uw 975 (by decide +kernel) (by decide +kernel)
theorem u_co_yX6_order : (.code yX6_order cX6_order 2 (some FieldType.int) : Cond) ∈ UW := uw 976 (by decide +kernel) (by decide +kernel)
theorem u_ml_RL_118 : (.methodLink RL 118 yX6_line : Cond) ∈ UW := uw 977 (by decide +kernel) (by decide +kernel)
theorem u_im_yX6_line : (.instanceMethod yX6_line : Cond) ∈ UW := uw 978 (by decide +kernel) (by decide +kernel)
theorem u_se_yX6_line : (.selects RX6 yX6_line yX6_line : Cond) ∈ UW := uw 979 (by decide +kernel) (by decide +kernel)
theorem u_co_yX6_line : (.code yX6_line cX6_line 4 (some FieldType.int) : Cond) ∈ UW := uw 980 (by decide +kernel) (by decide +kernel)
theorem u_ml_RX6_108 : (.methodLink RX6 108 yX6_isOrder : Cond) ∈ UW := uw 981 (by decide +kernel) (by decide +kernel)
theorem u_im_yX6_isOrder : (.instanceMethod yX6_isOrder : Cond) ∈ UW := uw 983 (by decide +kernel) (by decide +kernel)
theorem u_co_yX6_isOrder : (.code yX6_isOrder cX6_isOrder 2 (some FieldType.boolean) : Cond) ∈ UW := uw 984 (by decide +kernel) (by decide +kernel)
theorem u_ml_RX6_111 : (.methodLink RX6 111 yX6_wanted : Cond) ∈ UW := uw 985 (by decide +kernel) (by decide +kernel)
theorem u_im_yX6_wanted : (.instanceMethod yX6_wanted : Cond) ∈ UW := uw 987 (by decide +kernel) (by decide +kernel)
theorem u_co_yX6_wanted : (.code yX6_wanted cX6_wanted 4 (some FieldType.int) : Cond) ∈ UW := uw 988 (by decide +kernel) (by decide +kernel)
theorem u_ml_RL_122 : (.methodLink RL 122 yX6_orders : Cond) ∈ UW := uw 989 (by decide +kernel) (by decide +kernel)
theorem u_im_yX6_orders : (.instanceMethod yX6_orders : Cond) ∈ UW := uw 990 (by decide +kernel) (by decide +kernel)
theorem u_se_yX6_orders : (.selects RX6 yX6_orders yX6_orders : Cond) ∈ UW := uw 991 (by decide +kernel) (by decide +kernel)
theorem u_co_yX6_orders : (.code yX6_orders cX6_orders 1 (some FieldType.int) : Cond) ∈ UW := uw 992 (by decide +kernel) (by decide +kernel)
theorem u_ml_RL_125 : (.methodLink RL 125 yX6_stateOf : Cond) ∈ UW := uw 993 (by decide +kernel) (by decide +kernel)
theorem u_im_yX6_stateOf : (.instanceMethod yX6_stateOf : Cond) ∈ UW := uw 994 (by decide +kernel) (by decide +kernel)
theorem u_se_yX6_stateOf : (.selects RX6 yX6_stateOf yX6_stateOf : Cond) ∈ UW := uw 995 (by decide +kernel) (by decide +kernel)
theorem u_co_yX6_stateOf : (.code yX6_stateOf cX6_stateOf 2 (some FieldType.int) : Cond) ∈ UW := uw 996 (by decide +kernel) (by decide +kernel)
theorem u_ml_RL_128 : (.methodLink RL 128 yX6_lengthAlone : Cond) ∈ UW := uw 997 (by decide +kernel) (by decide +kernel)
theorem u_im_yX6_lengthAlone : (.instanceMethod yX6_lengthAlone : Cond) ∈ UW := uw 998 (by decide +kernel) (by decide +kernel)
theorem u_se_yX6_lengthAlone : (.selects RX6 yX6_lengthAlone yX6_lengthAlone : Cond) ∈ UW := uw 999 (by decide +kernel) (by decide +kernel)
theorem u_co_yX6_lengthAlone : (.code yX6_lengthAlone cX6_lengthAlone 2 (some FieldType.int) : Cond) ∈ UW := uw 1000 (by decide +kernel) (by decide +kernel)
theorem u_ml_RX6_114 : (.methodLink RX6 114 yX6_length : Cond) ∈ UW := uw 1001 (by decide +kernel) (by decide +kernel)
theorem u_im_yX6_length : (.instanceMethod yX6_length : Cond) ∈ UW := uw 1003 (by decide +kernel) (by decide +kernel)
theorem u_co_yX6_length : (.code yX6_length cX6_length 2 (some FieldType.int) : Cond) ∈ UW := uw 1004 (by decide +kernel) (by decide +kernel)
theorem u_ml_RX6_86 : (.methodLink RX6 86 yX6_layRoute : Cond) ∈ UW := uw 1005 (by decide +kernel) (by decide +kernel)
theorem u_im_yX6_layRoute : (.instanceMethod yX6_layRoute : Cond) ∈ UW := uw 1007 (by decide +kernel) (by decide +kernel)
theorem u_co_yX6_layRoute : (.code yX6_layRoute cX6_layRoute 5 (none) : Cond) ∈ UW := uw 1008 (by decide +kernel) (by decide +kernel)
theorem u_ml_RX6_79 : (.methodLink RX6 79 yX6_wayOn : Cond) ∈ UW := uw 1009 (by decide +kernel) (by decide +kernel)
theorem u_im_yX6_wayOn : (.instanceMethod yX6_wayOn : Cond) ∈ UW := uw 1011 (by decide +kernel) (by decide +kernel)
theorem u_co_yX6_wayOn : (.code yX6_wayOn cX6_wayOn 6 (some FieldType.int) : Cond) ∈ UW := uw 1012 (by decide +kernel) (by decide +kernel)
theorem u_ml_RX6_83 : (.methodLink RX6 83 yX6_step : Cond) ∈ UW := uw 1013 (by decide +kernel) (by decide +kernel)
theorem u_im_yX6_step : (.instanceMethod yX6_step : Cond) ∈ UW := uw 1015 (by decide +kernel) (by decide +kernel)
theorem u_co_yX6_step : (.code yX6_step cX6_step 3 (some FieldType.int) : Cond) ∈ UW := uw 1016 (by decide +kernel) (by decide +kernel)
theorem u_ct_RX6_82 : (.constant RX6 82 (1000000000 : Int32) : Cond) ∈ UW := uw 1017 (by decide +kernel) (by decide +kernel)
theorem u_ml_RL_131 : (.methodLink RL 131 yX6_setCapacity : Cond) ∈ UW := uw 1018 (by decide +kernel) (by decide +kernel)
theorem u_im_yX6_setCapacity : (.instanceMethod yX6_setCapacity : Cond) ∈ UW := uw 1019 (by decide +kernel) (by decide +kernel)
theorem u_se_yX6_setCapacity : (.selects RX6 yX6_setCapacity yX6_setCapacity : Cond) ∈ UW := uw 1020 (by decide +kernel) (by decide +kernel)
theorem u_co_yX6_setCapacity : (.code yX6_setCapacity cX6_setCapacity 4 (some FieldType.int) : Cond) ∈ UW := uw 1021 (by decide +kernel) (by decide +kernel)
theorem u_ml_RL_134 : (.methodLink RL 134 yX6_planWave : Cond) ∈ UW := uw 1022 (by decide +kernel) (by decide +kernel)
theorem u_im_yX6_planWave : (.instanceMethod yX6_planWave : Cond) ∈ UW := uw 1023 (by decide +kernel) (by decide +kernel)
theorem u_se_yX6_planWave : (.selects RX6 yX6_planWave yX6_planWave : Cond) ∈ UW := uw 1024 (by decide +kernel) (by decide +kernel)
theorem u_co_yX6_planWave : (.code yX6_planWave cX6_planWave 4 (some FieldType.int) : Cond) ∈ UW := uw 1025 (by decide +kernel) (by decide +kernel)
theorem u_ml_RX6_126 : (.methodLink RX6 126 yX6_joins : Cond) ∈ UW := uw 1026 (by decide +kernel) (by decide +kernel)
theorem u_im_yX6_joins : (.instanceMethod yX6_joins : Cond) ∈ UW := uw 1028 (by decide +kernel) (by decide +kernel)
theorem u_co_yX6_joins : (.code yX6_joins cX6_joins 7 (some FieldType.boolean) : Cond) ∈ UW := uw 1029 (by decide +kernel) (by decide +kernel)
theorem u_ml_RX6_117 : (.methodLink RX6 117 yX6_countLines : Cond) ∈ UW := uw 1030 (by decide +kernel) (by decide +kernel)
theorem u_im_yX6_countLines : (.instanceMethod yX6_countLines : Cond) ∈ UW := uw 1032 (by decide +kernel) (by decide +kernel)
theorem u_co_yX6_countLines : (.code yX6_countLines cX6_countLines 4 (some FieldType.int) : Cond) ∈ UW := uw 1033 (by decide +kernel) (by decide +kernel)
theorem u_ml_RX6_120 : (.methodLink RX6 120 yX6_productsOf : Cond) ∈ UW := uw 1034 (by decide +kernel) (by decide +kernel)
theorem u_im_yX6_productsOf : (.instanceMethod yX6_productsOf : Cond) ∈ UW := uw 1036 (by decide +kernel) (by decide +kernel)
theorem u_co_yX6_productsOf : (.code yX6_productsOf cX6_productsOf 4 (some FieldType.int) : Cond) ∈ UW := uw 1037 (by decide +kernel) (by decide +kernel)
theorem u_ml_RX6_123 : (.methodLink RX6 123 yX6_closeUp : Cond) ∈ UW := uw 1038 (by decide +kernel) (by decide +kernel)
theorem u_im_yX6_closeUp : (.instanceMethod yX6_closeUp : Cond) ∈ UW := uw 1040 (by decide +kernel) (by decide +kernel)
theorem u_co_yX6_closeUp : (.code yX6_closeUp cX6_closeUp 3 (none) : Cond) ∈ UW := uw 1041 (by decide +kernel) (by decide +kernel)
theorem u_ml_RL_137 : (.methodLink RL 137 yX6_pick : Cond) ∈ UW := uw 1042 (by decide +kernel) (by decide +kernel)
theorem u_im_yX6_pick : (.instanceMethod yX6_pick : Cond) ∈ UW := uw 1043 (by decide +kernel) (by decide +kernel)
theorem u_se_yX6_pick : (.selects RX6 yX6_pick yX6_pick : Cond) ∈ UW := uw 1044 (by decide +kernel) (by decide +kernel)
theorem u_co_yX6_pick : (.code yX6_pick cX6_pick 4 (some FieldType.int) : Cond) ∈ UW := uw 1045 (by decide +kernel) (by decide +kernel)
theorem u_ml_RX6_130 : (.methodLink RX6 130 yX6_isBatch : Cond) ∈ UW := uw 1046 (by decide +kernel) (by decide +kernel)
theorem u_im_yX6_isBatch : (.instanceMethod yX6_isBatch : Cond) ∈ UW := uw 1048 (by decide +kernel) (by decide +kernel)
theorem u_co_yX6_isBatch : (.code yX6_isBatch cX6_isBatch 2 (some FieldType.boolean) : Cond) ∈ UW := uw 1049 (by decide +kernel) (by decide +kernel)
theorem u_ml_RL_141 : (.methodLink RL 141 yX6_batches : Cond) ∈ UW := uw 1050 (by decide +kernel) (by decide +kernel)
theorem u_im_yX6_batches : (.instanceMethod yX6_batches : Cond) ∈ UW := uw 1051 (by decide +kernel) (by decide +kernel)
theorem u_se_yX6_batches : (.selects RX6 yX6_batches yX6_batches : Cond) ∈ UW := uw 1052 (by decide +kernel) (by decide +kernel)
theorem u_co_yX6_batches : (.code yX6_batches cX6_batches 1 (some FieldType.int) : Cond) ∈ UW := uw 1053 (by decide +kernel) (by decide +kernel)
theorem u_ml_RL_144 : (.methodLink RL 144 yX6_batchOf : Cond) ∈ UW := uw 1054 (by decide +kernel) (by decide +kernel)
theorem u_im_yX6_batchOf : (.instanceMethod yX6_batchOf : Cond) ∈ UW := uw 1055 (by decide +kernel) (by decide +kernel)
theorem u_se_yX6_batchOf : (.selects RX6 yX6_batchOf yX6_batchOf : Cond) ∈ UW := uw 1056 (by decide +kernel) (by decide +kernel)
theorem u_co_yX6_batchOf : (.code yX6_batchOf cX6_batchOf 2 (some FieldType.int) : Cond) ∈ UW := uw 1057 (by decide +kernel) (by decide +kernel)
theorem u_ml_RL_147 : (.methodLink RL 147 yX6_linesOf : Cond) ∈ UW := uw 1058 (by decide +kernel) (by decide +kernel)
theorem u_im_yX6_linesOf : (.instanceMethod yX6_linesOf : Cond) ∈ UW := uw 1059 (by decide +kernel) (by decide +kernel)
theorem u_se_yX6_linesOf : (.selects RX6 yX6_linesOf yX6_linesOf : Cond) ∈ UW := uw 1060 (by decide +kernel) (by decide +kernel)
theorem u_co_yX6_linesOf : (.code yX6_linesOf cX6_linesOf 2 (some FieldType.int) : Cond) ∈ UW := uw 1061 (by decide +kernel) (by decide +kernel)
theorem u_ml_RL_150 : (.methodLink RL 150 yX6_lengthOf : Cond) ∈ UW := uw 1062 (by decide +kernel) (by decide +kernel)
theorem u_im_yX6_lengthOf : (.instanceMethod yX6_lengthOf : Cond) ∈ UW := uw 1063 (by decide +kernel) (by decide +kernel)
theorem u_se_yX6_lengthOf : (.selects RX6 yX6_lengthOf yX6_lengthOf : Cond) ∈ UW := uw 1064 (by decide +kernel) (by decide +kernel)
theorem u_co_yX6_lengthOf : (.code yX6_lengthOf cX6_lengthOf 2 (some FieldType.int) : Cond) ∈ UW := uw 1065 (by decide +kernel) (by decide +kernel)
theorem u_ml_RL_153 : (.methodLink RL 153 yX6_lengthByTrying : Cond) ∈ UW := uw 1066 (by decide +kernel) (by decide +kernel)
theorem u_im_yX6_lengthByTrying : (.instanceMethod yX6_lengthByTrying : Cond) ∈ UW := uw 1067 (by decide +kernel) (by decide +kernel)
theorem u_se_yX6_lengthByTrying : (.selects RX6 yX6_lengthByTrying yX6_lengthByTrying : Cond) ∈ UW := uw 1068 (by decide +kernel) (by decide +kernel)
theorem u_co_yX6_lengthByTrying : (.code yX6_lengthByTrying cX6_lengthByTrying 3 (some FieldType.int) : Cond) ∈ UW := uw 1069 (by decide +kernel) (by decide +kernel)
theorem u_ml_RL_156 : (.methodLink RL 156 yX6_lengthThrough : Cond) ∈ UW := uw 1070 (by decide +kernel) (by decide +kernel)
theorem u_im_yX6_lengthThrough : (.instanceMethod yX6_lengthThrough : Cond) ∈ UW := uw 1071 (by decide +kernel) (by decide +kernel)
theorem u_se_yX6_lengthThrough : (.selects RX6 yX6_lengthThrough yX6_lengthThrough : Cond) ∈ UW := uw 1072 (by decide +kernel) (by decide +kernel)
theorem u_co_yX6_lengthThrough : (.code yX6_lengthThrough cX6_lengthThrough 5 (some FieldType.int) : Cond) ∈ UW := uw 1073 (by decide +kernel) (by decide +kernel)
theorem u_ml_RX6_140 : (.methodLink RX6 140 yX6_farthest : Cond) ∈ UW := uw 1074 (by decide +kernel) (by decide +kernel)
theorem u_im_yX6_farthest : (.instanceMethod yX6_farthest : Cond) ∈ UW := uw 1076 (by decide +kernel) (by decide +kernel)
theorem u_co_yX6_farthest : (.code yX6_farthest cX6_farthest 7 (some FieldType.int) : Cond) ∈ UW := uw 1077 (by decide +kernel) (by decide +kernel)
theorem u_ml_RL_159 : (.methodLink RL 159 yX6_stops : Cond) ∈ UW := uw 1078 (by decide +kernel) (by decide +kernel)
theorem u_im_yX6_stops : (.instanceMethod yX6_stops : Cond) ∈ UW := uw 1079 (by decide +kernel) (by decide +kernel)
theorem u_se_yX6_stops : (.selects RX6 yX6_stops yX6_stops : Cond) ∈ UW := uw 1080 (by decide +kernel) (by decide +kernel)
theorem u_co_yX6_stops : (.code yX6_stops cX6_stops 2 (some FieldType.int) : Cond) ∈ UW := uw 1081 (by decide +kernel) (by decide +kernel)
theorem u_ml_RL_162 : (.methodLink RL 162 yX6_stopAt : Cond) ∈ UW := uw 1082 (by decide +kernel) (by decide +kernel)
theorem u_im_yX6_stopAt : (.instanceMethod yX6_stopAt : Cond) ∈ UW := uw 1083 (by decide +kernel) (by decide +kernel)
theorem u_se_yX6_stopAt : (.selects RX6 yX6_stopAt yX6_stopAt : Cond) ∈ UW := uw 1084 (by decide +kernel) (by decide +kernel)
theorem u_co_yX6_stopAt : (.code yX6_stopAt cX6_stopAt 3 (some FieldType.int) : Cond) ∈ UW := uw 1085 (by decide +kernel) (by decide +kernel)
theorem u_ml_RX6_143 : (.methodLink RX6 143 yX6_layPath : Cond) ∈ UW := uw 1086 (by decide +kernel) (by decide +kernel)
theorem u_im_yX6_layPath : (.instanceMethod yX6_layPath : Cond) ∈ UW := uw 1088 (by decide +kernel) (by decide +kernel)
theorem u_co_yX6_layPath : (.code yX6_layPath cX6_layPath 8 (none) : Cond) ∈ UW := uw 1089 (by decide +kernel) (by decide +kernel)
theorem u_ml_RL_165 : (.methodLink RL 165 yX6_inAisle : Cond) ∈ UW := uw 1090 (by decide +kernel) (by decide +kernel)
theorem u_im_yX6_inAisle : (.instanceMethod yX6_inAisle : Cond) ∈ UW := uw 1091 (by decide +kernel) (by decide +kernel)
theorem u_se_yX6_inAisle : (.selects RX6 yX6_inAisle yX6_inAisle : Cond) ∈ UW := uw 1092 (by decide +kernel) (by decide +kernel)
theorem u_co_yX6_inAisle : (.code yX6_inAisle cX6_inAisle 4 (some FieldType.int) : Cond) ∈ UW := uw 1093 (by decide +kernel) (by decide +kernel)
theorem u_ml_RL_169 : (.methodLink RL 169 yX6_walked : Cond) ∈ UW := uw 1094 (by decide +kernel) (by decide +kernel)
theorem u_im_yX6_walked : (.instanceMethod yX6_walked : Cond) ∈ UW := uw 1095 (by decide +kernel) (by decide +kernel)
theorem u_se_yX6_walked : (.selects RX6 yX6_walked yX6_walked : Cond) ∈ UW := uw 1096 (by decide +kernel) (by decide +kernel)
theorem u_co_yX6_walked : (.code yX6_walked cX6_walked 1 (some FieldType.int) : Cond) ∈ UW := uw 1097 (by decide +kernel) (by decide +kernel)
theorem u_ml_RL_174 : (.methodLink RL 174 yX6_share : Cond) ∈ UW := uw 1098 (by decide +kernel) (by decide +kernel)
theorem u_im_yX6_share : (.instanceMethod yX6_share : Cond) ∈ UW := uw 1099 (by decide +kernel) (by decide +kernel)
theorem u_se_yX6_share : (.selects RX6 yX6_share yX6_share : Cond) ∈ UW := uw 1100 (by decide +kernel) (by decide +kernel)
theorem u_co_yX6_share : (.code yX6_share cX6_share 1 (some FieldType.double) : Cond) ∈ UW := uw 1101 (by decide +kernel) (by decide +kernel)
theorem u_ac_1102 : (.arrayClass (FieldType.long) : Cond) ∈ UW := uw 1102 (by decide +kernel) (by decide +kernel)
theorem n_ca_RX5_java_lang_Object : (.castable RX5 "java/lang/Object" : Cond) ∈ UN := un 1104 (by decide +kernel) (by decide +kernel)
theorem n_ca_RX3_java_lang_Object : (.castable RX3 "java/lang/Object" : Cond) ∈ UN := un 1105 (by decide +kernel) (by decide +kernel)
theorem n_ca_RX2_java_lang_Object : (.castable RX2 "java/lang/Object" : Cond) ∈ UN := un 1106 (by decide +kernel) (by decide +kernel)
theorem n_ca_RX4_java_lang_Object : (.castable RX4 "java/lang/Object" : Cond) ∈ UN := un 1107 (by decide +kernel) (by decide +kernel)
theorem n_ca_RJx4a65c_java_lang_Object : (.castable RJx4a65c "java/lang/Object" : Cond) ∈ UN := un 1108 (by decide +kernel) (by decide +kernel)
theorem n_ca_RX6_java_lang_Object : (.castable RX6 "java/lang/Object" : Cond) ∈ UN := un 1109 (by decide +kernel) (by decide +kernel)
theorem n_ca_java_lang_IndexOutOfBoundsException_java_lang_Object : (.castable "java/lang/IndexOutOfBoundsException" "java/lang/Object" : Cond) ∈ UN := un 1110 (by decide +kernel) (by decide +kernel)
theorem n_ca_java_lang_IllegalStateException_java_lang_Object : (.castable "java/lang/IllegalStateException" "java/lang/Object" : Cond) ∈ UN := un 1111 (by decide +kernel) (by decide +kernel)
theorem n_ca_java_lang_IllegalArgumentException_java_lang_Object : (.castable "java/lang/IllegalArgumentException" "java/lang/Object" : Cond) ∈ UN := un 1112 (by decide +kernel) (by decide +kernel)
theorem n_ca_RX1_java_lang_Object : (.castable RX1 "java/lang/Object" : Cond) ∈ UN := un 1113 (by decide +kernel) (by decide +kernel)
theorem n_ca_RX0_java_lang_Object : (.castable RX0 "java/lang/Object" : Cond) ∈ UN := un 1114 (by decide +kernel) (by decide +kernel)
theorem n_ca_java_lang_Throwable_java_lang_Object : (.castable "java/lang/Throwable" "java/lang/Object" : Cond) ∈ UN := un 1115 (by decide +kernel) (by decide +kernel)
theorem n_ca_RJ0_java_lang_Object : (.castable RJ0 "java/lang/Object" : Cond) ∈ UN := un 1116 (by decide +kernel) (by decide +kernel)
theorem n_ca_AI_java_lang_Object : (.castable "[I" "java/lang/Object" : Cond) ∈ UN := un 1120 (by decide +kernel) (by decide +kernel)
theorem n_ca_AAI_java_lang_Object : (.castable "[[I" "java/lang/Object" : Cond) ∈ UN := un 1121 (by decide +kernel) (by decide +kernel)
theorem n_ca_AB_java_lang_Object : (.castable "[B" "java/lang/Object" : Cond) ∈ UN := un 1122 (by decide +kernel) (by decide +kernel)
theorem n_ca_ALjava_lang_Object_java_lang_Object : (.castable "[Ljava/lang/Object;" "java/lang/Object" : Cond) ∈ UN := un 1123 (by decide +kernel) (by decide +kernel)
theorem n_ca_AJ_java_lang_Object : (.castable "[J" "java/lang/Object" : Cond) ∈ UN := un 1124 (by decide +kernel) (by decide +kernel)
theorem hd_yX0_init : yX0_init.cls = RX0 ∧ yX0_init.cls ≠ "java/lang/invoke/MethodHandle" ∧ yX0_init.cls ≠ "java/lang/invoke/VarHandle" ∧ (parseMethodDescriptor yX0_init.desc).map (fun d => d.parameters.length) = some 4 := by decide +kernel
theorem hd_yX0_holds : yX0_holds.cls = RX0 ∧ yX0_holds.cls ≠ "java/lang/invoke/MethodHandle" ∧ yX0_holds.cls ≠ "java/lang/invoke/VarHandle" ∧ (parseMethodDescriptor yX0_holds.desc).map (fun d => d.parameters.length) = some 1 := by decide +kernel
theorem hd_yX0_comesInto : yX0_comesInto.cls = RX0 ∧ yX0_comesInto.cls ≠ "java/lang/invoke/MethodHandle" ∧ yX0_comesInto.cls ≠ "java/lang/invoke/VarHandle" ∧ (parseMethodDescriptor yX0_comesInto.desc).map (fun d => d.parameters.length) = some 1 := by decide +kernel
theorem hd_yX0_absorb : yX0_absorb.cls = RX0 ∧ yX0_absorb.cls ≠ "java/lang/invoke/MethodHandle" ∧ yX0_absorb.cls ≠ "java/lang/invoke/VarHandle" ∧ (parseMethodDescriptor yX0_absorb.desc).map (fun d => d.parameters.length) = some 2 := by decide +kernel
theorem hd_yX1_init : yX1_init.cls = RX1 ∧ yX1_init.cls ≠ "java/lang/invoke/MethodHandle" ∧ yX1_init.cls ≠ "java/lang/invoke/VarHandle" ∧ (parseMethodDescriptor yX1_init.desc).map (fun d => d.parameters.length) = some 1 := by decide +kernel
theorem hd_yX1_asksFor : yX1_asksFor.cls = RX1 ∧ yX1_asksFor.cls ≠ "java/lang/invoke/MethodHandle" ∧ yX1_asksFor.cls ≠ "java/lang/invoke/VarHandle" ∧ (parseMethodDescriptor yX1_asksFor.desc).map (fun d => d.parameters.length) = some 1 := by decide +kernel
theorem hd_yX1_countLines : yX1_countLines.cls = RX1 ∧ yX1_countLines.cls ≠ "java/lang/invoke/MethodHandle" ∧ yX1_countLines.cls ≠ "java/lang/invoke/VarHandle" ∧ (parseMethodDescriptor yX1_countLines.desc).map (fun d => d.parameters.length) = some 0 := by decide +kernel
theorem hd_yX1_addLine : yX1_addLine.cls = RX1 ∧ yX1_addLine.cls ≠ "java/lang/invoke/MethodHandle" ∧ yX1_addLine.cls ≠ "java/lang/invoke/VarHandle" ∧ (parseMethodDescriptor yX1_addLine.desc).map (fun d => d.parameters.length) = some 2 := by decide +kernel
theorem hd_yX1_isTakenAt : yX1_isTakenAt.cls = RX1 ∧ yX1_isTakenAt.cls ≠ "java/lang/invoke/MethodHandle" ∧ yX1_isTakenAt.cls ≠ "java/lang/invoke/VarHandle" ∧ (parseMethodDescriptor yX1_isTakenAt.desc).map (fun d => d.parameters.length) = some 1 := by decide +kernel
theorem hd_yX2_init : yX2_init.cls = RX2 ∧ yX2_init.cls ≠ "java/lang/invoke/MethodHandle" ∧ yX2_init.cls ≠ "java/lang/invoke/VarHandle" ∧ (parseMethodDescriptor yX2_init.desc).map (fun d => d.parameters.length) = some 1 := by decide +kernel
theorem hd_yX2_leastLength : yX2_leastLength.cls = RX2 ∧ yX2_leastLength.cls ≠ "java/lang/invoke/MethodHandle" ∧ yX2_leastLength.cls ≠ "java/lang/invoke/VarHandle" ∧ (parseMethodDescriptor yX2_leastLength.desc).map (fun d => d.parameters.length) = some 1 := by decide +kernel
theorem hd_yX2_bestRoute : yX2_bestRoute.cls = RX2 ∧ yX2_bestRoute.cls ≠ "java/lang/invoke/MethodHandle" ∧ yX2_bestRoute.cls ≠ "java/lang/invoke/VarHandle" ∧ (parseMethodDescriptor yX2_bestRoute.desc).map (fun d => d.parameters.length) = some 1 := by decide +kernel
theorem hd_yX2_leastByTrying : yX2_leastByTrying.cls = RX2 ∧ yX2_leastByTrying.cls ≠ "java/lang/invoke/MethodHandle" ∧ yX2_leastByTrying.cls ≠ "java/lang/invoke/VarHandle" ∧ (parseMethodDescriptor yX2_leastByTrying.desc).map (fun d => d.parameters.length) = some 1 := by decide +kernel
theorem hd_yX2_throughAisles : yX2_throughAisles.cls = RX2 ∧ yX2_throughAisles.cls ≠ "java/lang/invoke/MethodHandle" ∧ yX2_throughAisles.cls ≠ "java/lang/invoke/VarHandle" ∧ (parseMethodDescriptor yX2_throughAisles.desc).map (fun d => d.parameters.length) = some 1 := by decide +kernel
theorem hd_yX2_everyPlace : yX2_everyPlace.cls = RX2 ∧ yX2_everyPlace.cls ≠ "java/lang/invoke/MethodHandle" ∧ yX2_everyPlace.cls ≠ "java/lang/invoke/VarHandle" ∧ (parseMethodDescriptor yX2_everyPlace.desc).map (fun d => d.parameters.length) = some 0 := by decide +kernel
theorem hd_yX2_countAisles : yX2_countAisles.cls = RX2 ∧ yX2_countAisles.cls ≠ "java/lang/invoke/MethodHandle" ∧ yX2_countAisles.cls ≠ "java/lang/invoke/VarHandle" ∧ (parseMethodDescriptor yX2_countAisles.desc).map (fun d => d.parameters.length) = some 0 := by decide +kernel
theorem hd_yX2_gather : yX2_gather.cls = RX2 ∧ yX2_gather.cls ≠ "java/lang/invoke/MethodHandle" ∧ yX2_gather.cls ≠ "java/lang/invoke/VarHandle" ∧ (parseMethodDescriptor yX2_gather.desc).map (fun d => d.parameters.length) = some 1 := by decide +kernel
theorem hd_yX2_insertPlace : yX2_insertPlace.cls = RX2 ∧ yX2_insertPlace.cls ≠ "java/lang/invoke/MethodHandle" ∧ yX2_insertPlace.cls ≠ "java/lang/invoke/VarHandle" ∧ (parseMethodDescriptor yX2_insertPlace.desc).map (fun d => d.parameters.length) = some 1 := by decide +kernel
theorem hd_yX2_fillOnward : yX2_fillOnward.cls = RX2 ∧ yX2_fillOnward.cls ≠ "java/lang/invoke/MethodHandle" ∧ yX2_fillOnward.cls ≠ "java/lang/invoke/VarHandle" ∧ (parseMethodDescriptor yX2_fillOnward.desc).map (fun d => d.parameters.length) = some 0 := by decide +kernel
theorem hd_yX2_leastOnward : yX2_leastOnward.cls = RX2 ∧ yX2_leastOnward.cls ≠ "java/lang/invoke/MethodHandle" ∧ yX2_leastOnward.cls ≠ "java/lang/invoke/VarHandle" ∧ (parseMethodDescriptor yX2_leastOnward.desc).map (fun d => d.parameters.length) = some 2 := by decide +kernel
theorem hd_yX2_lengthBy : yX2_lengthBy.cls = RX2 ∧ yX2_lengthBy.cls ≠ "java/lang/invoke/MethodHandle" ∧ yX2_lengthBy.cls ≠ "java/lang/invoke/VarHandle" ∧ (parseMethodDescriptor yX2_lengthBy.desc).map (fun d => d.parameters.length) = some 3 := by decide +kernel
theorem hd_yX2_bestNext : yX2_bestNext.cls = RX2 ∧ yX2_bestNext.cls ≠ "java/lang/invoke/MethodHandle" ∧ yX2_bestNext.cls ≠ "java/lang/invoke/VarHandle" ∧ (parseMethodDescriptor yX2_bestNext.desc).map (fun d => d.parameters.length) = some 2 := by decide +kernel
theorem hd_yX2_tryFrom : yX2_tryFrom.cls = RX2 ∧ yX2_tryFrom.cls ≠ "java/lang/invoke/MethodHandle" ∧ yX2_tryFrom.cls ≠ "java/lang/invoke/VarHandle" ∧ (parseMethodDescriptor yX2_tryFrom.desc).map (fun d => d.parameters.length) = some 5 := by decide +kernel
theorem hd_yX3_init : yX3_init.cls = RX3 ∧ yX3_init.cls ≠ "java/lang/invoke/MethodHandle" ∧ yX3_init.cls ≠ "java/lang/invoke/VarHandle" ∧ (parseMethodDescriptor yX3_init.desc).map (fun d => d.parameters.length) = some 3 := by decide +kernel
theorem hd_yX3_hasAisle : yX3_hasAisle.cls = RX3 ∧ yX3_hasAisle.cls ≠ "java/lang/invoke/MethodHandle" ∧ yX3_hasAisle.cls ≠ "java/lang/invoke/VarHandle" ∧ (parseMethodDescriptor yX3_hasAisle.desc).map (fun d => d.parameters.length) = some 1 := by decide +kernel
theorem hd_yX3_hasPosition : yX3_hasPosition.cls = RX3 ∧ yX3_hasPosition.cls ≠ "java/lang/invoke/MethodHandle" ∧ yX3_hasPosition.cls ≠ "java/lang/invoke/VarHandle" ∧ (parseMethodDescriptor yX3_hasPosition.desc).map (fun d => d.parameters.length) = some 1 := by decide +kernel
theorem hd_yX3_depth : yX3_depth.cls = RX3 ∧ yX3_depth.cls ≠ "java/lang/invoke/MethodHandle" ∧ yX3_depth.cls ≠ "java/lang/invoke/VarHandle" ∧ (parseMethodDescriptor yX3_depth.desc).map (fun d => d.parameters.length) = some 0 := by decide +kernel
theorem hd_yX3_productAt : yX3_productAt.cls = RX3 ∧ yX3_productAt.cls ≠ "java/lang/invoke/MethodHandle" ∧ yX3_productAt.cls ≠ "java/lang/invoke/VarHandle" ∧ (parseMethodDescriptor yX3_productAt.desc).map (fun d => d.parameters.length) = some 1 := by decide +kernel
theorem hd_yX3_move : yX3_move.cls = RX3 ∧ yX3_move.cls ≠ "java/lang/invoke/MethodHandle" ∧ yX3_move.cls ≠ "java/lang/invoke/VarHandle" ∧ (parseMethodDescriptor yX3_move.desc).map (fun d => d.parameters.length) = some 2 := by decide +kernel
theorem hd_yX3_between : yX3_between.cls = RX3 ∧ yX3_between.cls ≠ "java/lang/invoke/MethodHandle" ∧ yX3_between.cls ≠ "java/lang/invoke/VarHandle" ∧ (parseMethodDescriptor yX3_between.desc).map (fun d => d.parameters.length) = some 2 := by decide +kernel
theorem hd_yX3_addTurnover : yX3_addTurnover.cls = RX3 ∧ yX3_addTurnover.cls ≠ "java/lang/invoke/MethodHandle" ∧ yX3_addTurnover.cls ≠ "java/lang/invoke/VarHandle" ∧ (parseMethodDescriptor yX3_addTurnover.desc).map (fun d => d.parameters.length) = some 1 := by decide +kernel
theorem hd_yX3_rearrange : yX3_rearrange.cls = RX3 ∧ yX3_rearrange.cls ≠ "java/lang/invoke/MethodHandle" ∧ yX3_rearrange.cls ≠ "java/lang/invoke/VarHandle" ∧ (parseMethodDescriptor yX3_rearrange.desc).map (fun d => d.parameters.length) = some 0 := by decide +kernel
theorem hd_yX3_insertPlace : yX3_insertPlace.cls = RX3 ∧ yX3_insertPlace.cls ≠ "java/lang/invoke/MethodHandle" ∧ yX3_insertPlace.cls ≠ "java/lang/invoke/VarHandle" ∧ (parseMethodDescriptor yX3_insertPlace.desc).map (fun d => d.parameters.length) = some 2 := by decide +kernel
theorem hd_yX3_isNearer : yX3_isNearer.cls = RX3 ∧ yX3_isNearer.cls ≠ "java/lang/invoke/MethodHandle" ∧ yX3_isNearer.cls ≠ "java/lang/invoke/VarHandle" ∧ (parseMethodDescriptor yX3_isNearer.desc).map (fun d => d.parameters.length) = some 2 := by decide +kernel
theorem hd_yX3_insertProduct : yX3_insertProduct.cls = RX3 ∧ yX3_insertProduct.cls ≠ "java/lang/invoke/MethodHandle" ∧ yX3_insertProduct.cls ≠ "java/lang/invoke/VarHandle" ∧ (parseMethodDescriptor yX3_insertProduct.desc).map (fun d => d.parameters.length) = some 2 := by decide +kernel
theorem hd_yX4_init : yX4_init.cls = RX4 ∧ yX4_init.cls ≠ "java/lang/invoke/MethodHandle" ∧ yX4_init.cls ≠ "java/lang/invoke/VarHandle" ∧ (parseMethodDescriptor yX4_init.desc).map (fun d => d.parameters.length) = some 1 := by decide +kernel
theorem hd_yX4_isOn : yX4_isOn.cls = RX4 ∧ yX4_isOn.cls ≠ "java/lang/invoke/MethodHandle" ∧ yX4_isOn.cls ≠ "java/lang/invoke/VarHandle" ∧ (parseMethodDescriptor yX4_isOn.desc).map (fun d => d.parameters.length) = some 0 := by decide +kernel
theorem hd_yX4_size : yX4_size.cls = RX4 ∧ yX4_size.cls ≠ "java/lang/invoke/MethodHandle" ∧ yX4_size.cls ≠ "java/lang/invoke/VarHandle" ∧ (parseMethodDescriptor yX4_size.desc).map (fun d => d.parameters.length) = some 0 := by decide +kernel
theorem hd_yX4_take : yX4_take.cls = RX4 ∧ yX4_take.cls ≠ "java/lang/invoke/MethodHandle" ∧ yX4_take.cls ≠ "java/lang/invoke/VarHandle" ∧ (parseMethodDescriptor yX4_take.desc).map (fun d => d.parameters.length) = some 2 := by decide +kernel
theorem hd_yX4_join : yX4_join.cls = RX4 ∧ yX4_join.cls ≠ "java/lang/invoke/MethodHandle" ∧ yX4_join.cls ≠ "java/lang/invoke/VarHandle" ∧ (parseMethodDescriptor yX4_join.desc).map (fun d => d.parameters.length) = some 1 := by decide +kernel
theorem hd_yX4_noteSaving : yX4_noteSaving.cls = RX4 ∧ yX4_noteSaving.cls ≠ "java/lang/invoke/MethodHandle" ∧ yX4_noteSaving.cls ≠ "java/lang/invoke/VarHandle" ∧ (parseMethodDescriptor yX4_noteSaving.desc).map (fun d => d.parameters.length) = some 3 := by decide +kernel
theorem hd_yX4_savingOf : yX4_savingOf.cls = RX4 ∧ yX4_savingOf.cls ≠ "java/lang/invoke/MethodHandle" ∧ yX4_savingOf.cls ≠ "java/lang/invoke/VarHandle" ∧ (parseMethodDescriptor yX4_savingOf.desc).map (fun d => d.parameters.length) = some 2 := by decide +kernel
theorem hd_yX4_joinBestPair : yX4_joinBestPair.cls = RX4 ∧ yX4_joinBestPair.cls ≠ "java/lang/invoke/MethodHandle" ∧ yX4_joinBestPair.cls ≠ "java/lang/invoke/VarHandle" ∧ (parseMethodDescriptor yX4_joinBestPair.desc).map (fun d => d.parameters.length) = some 0 := by decide +kernel
theorem hd_yX4_drop : yX4_drop.cls = RX4 ∧ yX4_drop.cls ≠ "java/lang/invoke/MethodHandle" ∧ yX4_drop.cls ≠ "java/lang/invoke/VarHandle" ∧ (parseMethodDescriptor yX4_drop.desc).map (fun d => d.parameters.length) = some 1 := by decide +kernel
theorem hd_yX4_batchWith : yX4_batchWith.cls = RX4 ∧ yX4_batchWith.cls ≠ "java/lang/invoke/MethodHandle" ∧ yX4_batchWith.cls ≠ "java/lang/invoke/VarHandle" ∧ (parseMethodDescriptor yX4_batchWith.desc).map (fun d => d.parameters.length) = some 1 := by decide +kernel
theorem hd_yX4_countIn : yX4_countIn.cls = RX4 ∧ yX4_countIn.cls ≠ "java/lang/invoke/MethodHandle" ∧ yX4_countIn.cls ≠ "java/lang/invoke/VarHandle" ∧ (parseMethodDescriptor yX4_countIn.desc).map (fun d => d.parameters.length) = some 1 := by decide +kernel
theorem hd_yX5_init : yX5_init.cls = RX5 ∧ yX5_init.cls ≠ "java/lang/invoke/MethodHandle" ∧ yX5_init.cls ≠ "java/lang/invoke/VarHandle" ∧ (parseMethodDescriptor yX5_init.desc).map (fun d => d.parameters.length) = some 3 := by decide +kernel
theorem hd_yX5_put : yX5_put.cls = RX5 ∧ yX5_put.cls ≠ "java/lang/invoke/MethodHandle" ∧ yX5_put.cls ≠ "java/lang/invoke/VarHandle" ∧ (parseMethodDescriptor yX5_put.desc).map (fun d => d.parameters.length) = some 3 := by decide +kernel
theorem hd_yX5_layOut : yX5_layOut.cls = RX5 ∧ yX5_layOut.cls ≠ "java/lang/invoke/MethodHandle" ∧ yX5_layOut.cls ≠ "java/lang/invoke/VarHandle" ∧ (parseMethodDescriptor yX5_layOut.desc).map (fun d => d.parameters.length) = some 0 := by decide +kernel
theorem hd_yX5_placeOf : yX5_placeOf.cls = RX5 ∧ yX5_placeOf.cls ≠ "java/lang/invoke/MethodHandle" ∧ yX5_placeOf.cls ≠ "java/lang/invoke/VarHandle" ∧ (parseMethodDescriptor yX5_placeOf.desc).map (fun d => d.parameters.length) = some 1 := by decide +kernel
theorem hd_yX5_turnover : yX5_turnover.cls = RX5 ∧ yX5_turnover.cls ≠ "java/lang/invoke/MethodHandle" ∧ yX5_turnover.cls ≠ "java/lang/invoke/VarHandle" ∧ (parseMethodDescriptor yX5_turnover.desc).map (fun d => d.parameters.length) = some 1 := by decide +kernel
theorem hd_yX5_distance : yX5_distance.cls = RX5 ∧ yX5_distance.cls ≠ "java/lang/invoke/MethodHandle" ∧ yX5_distance.cls ≠ "java/lang/invoke/VarHandle" ∧ (parseMethodDescriptor yX5_distance.desc).map (fun d => d.parameters.length) = some 2 := by decide +kernel
theorem hd_yX5_order : yX5_order.cls = RX5 ∧ yX5_order.cls ≠ "java/lang/invoke/MethodHandle" ∧ yX5_order.cls ≠ "java/lang/invoke/VarHandle" ∧ (parseMethodDescriptor yX5_order.desc).map (fun d => d.parameters.length) = some 1 := by decide +kernel
theorem hd_yX5_line : yX5_line.cls = RX5 ∧ yX5_line.cls ≠ "java/lang/invoke/MethodHandle" ∧ yX5_line.cls ≠ "java/lang/invoke/VarHandle" ∧ (parseMethodDescriptor yX5_line.desc).map (fun d => d.parameters.length) = some 3 := by decide +kernel
theorem hd_yX5_orders : yX5_orders.cls = RX5 ∧ yX5_orders.cls ≠ "java/lang/invoke/MethodHandle" ∧ yX5_orders.cls ≠ "java/lang/invoke/VarHandle" ∧ (parseMethodDescriptor yX5_orders.desc).map (fun d => d.parameters.length) = some 0 := by decide +kernel
theorem hd_yX5_stateOf : yX5_stateOf.cls = RX5 ∧ yX5_stateOf.cls ≠ "java/lang/invoke/MethodHandle" ∧ yX5_stateOf.cls ≠ "java/lang/invoke/VarHandle" ∧ (parseMethodDescriptor yX5_stateOf.desc).map (fun d => d.parameters.length) = some 1 := by decide +kernel
theorem hd_yX5_lengthAlone : yX5_lengthAlone.cls = RX5 ∧ yX5_lengthAlone.cls ≠ "java/lang/invoke/MethodHandle" ∧ yX5_lengthAlone.cls ≠ "java/lang/invoke/VarHandle" ∧ (parseMethodDescriptor yX5_lengthAlone.desc).map (fun d => d.parameters.length) = some 1 := by decide +kernel
theorem hd_yX5_setCapacity : yX5_setCapacity.cls = RX5 ∧ yX5_setCapacity.cls ≠ "java/lang/invoke/MethodHandle" ∧ yX5_setCapacity.cls ≠ "java/lang/invoke/VarHandle" ∧ (parseMethodDescriptor yX5_setCapacity.desc).map (fun d => d.parameters.length) = some 1 := by decide +kernel
theorem hd_yX5_planWave : yX5_planWave.cls = RX5 ∧ yX5_planWave.cls ≠ "java/lang/invoke/MethodHandle" ∧ yX5_planWave.cls ≠ "java/lang/invoke/VarHandle" ∧ (parseMethodDescriptor yX5_planWave.desc).map (fun d => d.parameters.length) = some 1 := by decide +kernel
theorem hd_yX5_pick : yX5_pick.cls = RX5 ∧ yX5_pick.cls ≠ "java/lang/invoke/MethodHandle" ∧ yX5_pick.cls ≠ "java/lang/invoke/VarHandle" ∧ (parseMethodDescriptor yX5_pick.desc).map (fun d => d.parameters.length) = some 1 := by decide +kernel
theorem hd_yX5_batches : yX5_batches.cls = RX5 ∧ yX5_batches.cls ≠ "java/lang/invoke/MethodHandle" ∧ yX5_batches.cls ≠ "java/lang/invoke/VarHandle" ∧ (parseMethodDescriptor yX5_batches.desc).map (fun d => d.parameters.length) = some 0 := by decide +kernel
theorem hd_yX5_batchOf : yX5_batchOf.cls = RX5 ∧ yX5_batchOf.cls ≠ "java/lang/invoke/MethodHandle" ∧ yX5_batchOf.cls ≠ "java/lang/invoke/VarHandle" ∧ (parseMethodDescriptor yX5_batchOf.desc).map (fun d => d.parameters.length) = some 1 := by decide +kernel
theorem hd_yX5_linesOf : yX5_linesOf.cls = RX5 ∧ yX5_linesOf.cls ≠ "java/lang/invoke/MethodHandle" ∧ yX5_linesOf.cls ≠ "java/lang/invoke/VarHandle" ∧ (parseMethodDescriptor yX5_linesOf.desc).map (fun d => d.parameters.length) = some 1 := by decide +kernel
theorem hd_yX5_lengthOf : yX5_lengthOf.cls = RX5 ∧ yX5_lengthOf.cls ≠ "java/lang/invoke/MethodHandle" ∧ yX5_lengthOf.cls ≠ "java/lang/invoke/VarHandle" ∧ (parseMethodDescriptor yX5_lengthOf.desc).map (fun d => d.parameters.length) = some 1 := by decide +kernel
theorem hd_yX5_lengthByTrying : yX5_lengthByTrying.cls = RX5 ∧ yX5_lengthByTrying.cls ≠ "java/lang/invoke/MethodHandle" ∧ yX5_lengthByTrying.cls ≠ "java/lang/invoke/VarHandle" ∧ (parseMethodDescriptor yX5_lengthByTrying.desc).map (fun d => d.parameters.length) = some 1 := by decide +kernel
theorem hd_yX5_lengthThrough : yX5_lengthThrough.cls = RX5 ∧ yX5_lengthThrough.cls ≠ "java/lang/invoke/MethodHandle" ∧ yX5_lengthThrough.cls ≠ "java/lang/invoke/VarHandle" ∧ (parseMethodDescriptor yX5_lengthThrough.desc).map (fun d => d.parameters.length) = some 1 := by decide +kernel
theorem hd_yX5_stops : yX5_stops.cls = RX5 ∧ yX5_stops.cls ≠ "java/lang/invoke/MethodHandle" ∧ yX5_stops.cls ≠ "java/lang/invoke/VarHandle" ∧ (parseMethodDescriptor yX5_stops.desc).map (fun d => d.parameters.length) = some 1 := by decide +kernel
theorem hd_yX5_stopAt : yX5_stopAt.cls = RX5 ∧ yX5_stopAt.cls ≠ "java/lang/invoke/MethodHandle" ∧ yX5_stopAt.cls ≠ "java/lang/invoke/VarHandle" ∧ (parseMethodDescriptor yX5_stopAt.desc).map (fun d => d.parameters.length) = some 2 := by decide +kernel
theorem hd_yX5_inAisle : yX5_inAisle.cls = RX5 ∧ yX5_inAisle.cls ≠ "java/lang/invoke/MethodHandle" ∧ yX5_inAisle.cls ≠ "java/lang/invoke/VarHandle" ∧ (parseMethodDescriptor yX5_inAisle.desc).map (fun d => d.parameters.length) = some 1 := by decide +kernel
theorem hd_yX5_walked : yX5_walked.cls = RX5 ∧ yX5_walked.cls ≠ "java/lang/invoke/MethodHandle" ∧ yX5_walked.cls ≠ "java/lang/invoke/VarHandle" ∧ (parseMethodDescriptor yX5_walked.desc).map (fun d => d.parameters.length) = some 0 := by decide +kernel
theorem hd_yX5_share : yX5_share.cls = RX5 ∧ yX5_share.cls ≠ "java/lang/invoke/MethodHandle" ∧ yX5_share.cls ≠ "java/lang/invoke/VarHandle" ∧ (parseMethodDescriptor yX5_share.desc).map (fun d => d.parameters.length) = some 0 := by decide +kernel
theorem hd_yX5_within : yX5_within.cls = RX5 ∧ yX5_within.cls ≠ "java/lang/invoke/MethodHandle" ∧ yX5_within.cls ≠ "java/lang/invoke/VarHandle" ∧ (parseMethodDescriptor yX5_within.desc).map (fun d => d.parameters.length) = some 2 := by decide +kernel
theorem hd_yX5_isIn : yX5_isIn.cls = RX5 ∧ yX5_isIn.cls ≠ "java/lang/invoke/MethodHandle" ∧ yX5_isIn.cls ≠ "java/lang/invoke/VarHandle" ∧ (parseMethodDescriptor yX5_isIn.desc).map (fun d => d.parameters.length) = some 2 := by decide +kernel
theorem hd_yX5_checkProduct : yX5_checkProduct.cls = RX5 ∧ yX5_checkProduct.cls ≠ "java/lang/invoke/MethodHandle" ∧ yX5_checkProduct.cls ≠ "java/lang/invoke/VarHandle" ∧ (parseMethodDescriptor yX5_checkProduct.desc).map (fun d => d.parameters.length) = some 1 := by decide +kernel
theorem hd_yX5_checkTime : yX5_checkTime.cls = RX5 ∧ yX5_checkTime.cls ≠ "java/lang/invoke/MethodHandle" ∧ yX5_checkTime.cls ≠ "java/lang/invoke/VarHandle" ∧ (parseMethodDescriptor yX5_checkTime.desc).map (fun d => d.parameters.length) = some 1 := by decide +kernel
theorem hd_yX5_orderNumbered : yX5_orderNumbered.cls = RX5 ∧ yX5_orderNumbered.cls ≠ "java/lang/invoke/MethodHandle" ∧ yX5_orderNumbered.cls ≠ "java/lang/invoke/VarHandle" ∧ (parseMethodDescriptor yX5_orderNumbered.desc).map (fun d => d.parameters.length) = some 1 := by decide +kernel
theorem hd_yX5_batchNumbered : yX5_batchNumbered.cls = RX5 ∧ yX5_batchNumbered.cls ≠ "java/lang/invoke/MethodHandle" ∧ yX5_batchNumbered.cls ≠ "java/lang/invoke/VarHandle" ∧ (parseMethodDescriptor yX5_batchNumbered.desc).map (fun d => d.parameters.length) = some 1 := by decide +kernel
theorem hd_yX5_takesLine : yX5_takesLine.cls = RX5 ∧ yX5_takesLine.cls ≠ "java/lang/invoke/MethodHandle" ∧ yX5_takesLine.cls ≠ "java/lang/invoke/VarHandle" ∧ (parseMethodDescriptor yX5_takesLine.desc).map (fun d => d.parameters.length) = some 1 := by decide +kernel
theorem hd_yX5_mostLinesToDo : yX5_mostLinesToDo.cls = RX5 ∧ yX5_mostLinesToDo.cls ≠ "java/lang/invoke/MethodHandle" ∧ yX5_mostLinesToDo.cls ≠ "java/lang/invoke/VarHandle" ∧ (parseMethodDescriptor yX5_mostLinesToDo.desc).map (fun d => d.parameters.length) = some 0 := by decide +kernel
theorem hd_yX5_takesAnyOrder : yX5_takesAnyOrder.cls = RX5 ∧ yX5_takesAnyOrder.cls ≠ "java/lang/invoke/MethodHandle" ∧ yX5_takesAnyOrder.cls ≠ "java/lang/invoke/VarHandle" ∧ (parseMethodDescriptor yX5_takesAnyOrder.desc).map (fun d => d.parameters.length) = some 1 := by decide +kernel
theorem hd_yX5_finish : yX5_finish.cls = RX5 ∧ yX5_finish.cls ≠ "java/lang/invoke/MethodHandle" ∧ yX5_finish.cls ≠ "java/lang/invoke/VarHandle" ∧ (parseMethodDescriptor yX5_finish.desc).map (fun d => d.parameters.length) = some 1 := by decide +kernel
theorem hd_yX6_init : yX6_init.cls = RX6 ∧ yX6_init.cls ≠ "java/lang/invoke/MethodHandle" ∧ yX6_init.cls ≠ "java/lang/invoke/VarHandle" ∧ (parseMethodDescriptor yX6_init.desc).map (fun d => d.parameters.length) = some 3 := by decide +kernel
theorem hd_yX6_thrown : yX6_thrown.cls = RX6 ∧ yX6_thrown.cls ≠ "java/lang/invoke/MethodHandle" ∧ yX6_thrown.cls ≠ "java/lang/invoke/VarHandle" ∧ (parseMethodDescriptor yX6_thrown.desc).map (fun d => d.parameters.length) = some 0 := by decide +kernel
theorem hd_yX6_fails : yX6_fails.cls = RX6 ∧ yX6_fails.cls ≠ "java/lang/invoke/MethodHandle" ∧ yX6_fails.cls ≠ "java/lang/invoke/VarHandle" ∧ (parseMethodDescriptor yX6_fails.desc).map (fun d => d.parameters.length) = some 1 := by decide +kernel
theorem hd_yX6_in : yX6_in.cls = RX6 ∧ yX6_in.cls ≠ "java/lang/invoke/MethodHandle" ∧ yX6_in.cls ≠ "java/lang/invoke/VarHandle" ∧ (parseMethodDescriptor yX6_in.desc).map (fun d => d.parameters.length) = some 3 := by decide +kernel
theorem hd_yX6_isProduct : yX6_isProduct.cls = RX6 ∧ yX6_isProduct.cls ≠ "java/lang/invoke/MethodHandle" ∧ yX6_isProduct.cls ≠ "java/lang/invoke/VarHandle" ∧ (parseMethodDescriptor yX6_isProduct.desc).map (fun d => d.parameters.length) = some 1 := by decide +kernel
theorem hd_yX6_isOrder : yX6_isOrder.cls = RX6 ∧ yX6_isOrder.cls ≠ "java/lang/invoke/MethodHandle" ∧ yX6_isOrder.cls ≠ "java/lang/invoke/VarHandle" ∧ (parseMethodDescriptor yX6_isOrder.desc).map (fun d => d.parameters.length) = some 1 := by decide +kernel
theorem hd_yX6_isBatch : yX6_isBatch.cls = RX6 ∧ yX6_isBatch.cls ≠ "java/lang/invoke/MethodHandle" ∧ yX6_isBatch.cls ≠ "java/lang/invoke/VarHandle" ∧ (parseMethodDescriptor yX6_isBatch.desc).map (fun d => d.parameters.length) = some 1 := by decide +kernel
theorem hd_yX6_way : yX6_way.cls = RX6 ∧ yX6_way.cls ≠ "java/lang/invoke/MethodHandle" ∧ yX6_way.cls ≠ "java/lang/invoke/VarHandle" ∧ (parseMethodDescriptor yX6_way.desc).map (fun d => d.parameters.length) = some 2 := by decide +kernel
theorem hd_yX6_step : yX6_step.cls = RX6 ∧ yX6_step.cls ≠ "java/lang/invoke/MethodHandle" ∧ yX6_step.cls ≠ "java/lang/invoke/VarHandle" ∧ (parseMethodDescriptor yX6_step.desc).map (fun d => d.parameters.length) = some 2 := by decide +kernel
theorem hd_yX6_layRoute : yX6_layRoute.cls = RX6 ∧ yX6_layRoute.cls ≠ "java/lang/invoke/MethodHandle" ∧ yX6_layRoute.cls ≠ "java/lang/invoke/VarHandle" ∧ (parseMethodDescriptor yX6_layRoute.desc).map (fun d => d.parameters.length) = some 1 := by decide +kernel
theorem hd_yX6_wayOn : yX6_wayOn.cls = RX6 ∧ yX6_wayOn.cls ≠ "java/lang/invoke/MethodHandle" ∧ yX6_wayOn.cls ≠ "java/lang/invoke/VarHandle" ∧ (parseMethodDescriptor yX6_wayOn.desc).map (fun d => d.parameters.length) = some 2 := by decide +kernel
theorem hd_yX6_length : yX6_length.cls = RX6 ∧ yX6_length.cls ≠ "java/lang/invoke/MethodHandle" ∧ yX6_length.cls ≠ "java/lang/invoke/VarHandle" ∧ (parseMethodDescriptor yX6_length.desc).map (fun d => d.parameters.length) = some 1 := by decide +kernel
theorem hd_yX6_layPath : yX6_layPath.cls = RX6 ∧ yX6_layPath.cls ≠ "java/lang/invoke/MethodHandle" ∧ yX6_layPath.cls ≠ "java/lang/invoke/VarHandle" ∧ (parseMethodDescriptor yX6_layPath.desc).map (fun d => d.parameters.length) = some 1 := by decide +kernel
theorem hd_yX6_put : yX6_put.cls = RX6 ∧ yX6_put.cls ≠ "java/lang/invoke/MethodHandle" ∧ yX6_put.cls ≠ "java/lang/invoke/VarHandle" ∧ (parseMethodDescriptor yX6_put.desc).map (fun d => d.parameters.length) = some 3 := by decide +kernel
theorem hd_yX6_turnoverOf : yX6_turnoverOf.cls = RX6 ∧ yX6_turnoverOf.cls ≠ "java/lang/invoke/MethodHandle" ∧ yX6_turnoverOf.cls ≠ "java/lang/invoke/VarHandle" ∧ (parseMethodDescriptor yX6_turnoverOf.desc).map (fun d => d.parameters.length) = some 1 := by decide +kernel
theorem hd_yX6_ranks : yX6_ranks.cls = RX6 ∧ yX6_ranks.cls ≠ "java/lang/invoke/MethodHandle" ∧ yX6_ranks.cls ≠ "java/lang/invoke/VarHandle" ∧ (parseMethodDescriptor yX6_ranks.desc).map (fun d => d.parameters.length) = some 2 := by decide +kernel
theorem hd_yX6_spreads : yX6_spreads.cls = RX6 ∧ yX6_spreads.cls ≠ "java/lang/invoke/MethodHandle" ∧ yX6_spreads.cls ≠ "java/lang/invoke/VarHandle" ∧ (parseMethodDescriptor yX6_spreads.desc).map (fun d => d.parameters.length) = some 2 := by decide +kernel
theorem hd_yX6_layOut : yX6_layOut.cls = RX6 ∧ yX6_layOut.cls ≠ "java/lang/invoke/MethodHandle" ∧ yX6_layOut.cls ≠ "java/lang/invoke/VarHandle" ∧ (parseMethodDescriptor yX6_layOut.desc).map (fun d => d.parameters.length) = some 0 := by decide +kernel
theorem hd_yX6_placeOf : yX6_placeOf.cls = RX6 ∧ yX6_placeOf.cls ≠ "java/lang/invoke/MethodHandle" ∧ yX6_placeOf.cls ≠ "java/lang/invoke/VarHandle" ∧ (parseMethodDescriptor yX6_placeOf.desc).map (fun d => d.parameters.length) = some 1 := by decide +kernel
theorem hd_yX6_turnover : yX6_turnover.cls = RX6 ∧ yX6_turnover.cls ≠ "java/lang/invoke/MethodHandle" ∧ yX6_turnover.cls ≠ "java/lang/invoke/VarHandle" ∧ (parseMethodDescriptor yX6_turnover.desc).map (fun d => d.parameters.length) = some 1 := by decide +kernel
theorem hd_yX6_distance : yX6_distance.cls = RX6 ∧ yX6_distance.cls ≠ "java/lang/invoke/MethodHandle" ∧ yX6_distance.cls ≠ "java/lang/invoke/VarHandle" ∧ (parseMethodDescriptor yX6_distance.desc).map (fun d => d.parameters.length) = some 2 := by decide +kernel
theorem hd_yX6_order : yX6_order.cls = RX6 ∧ yX6_order.cls ≠ "java/lang/invoke/MethodHandle" ∧ yX6_order.cls ≠ "java/lang/invoke/VarHandle" ∧ (parseMethodDescriptor yX6_order.desc).map (fun d => d.parameters.length) = some 1 := by decide +kernel
theorem hd_yX6_wanted : yX6_wanted.cls = RX6 ∧ yX6_wanted.cls ≠ "java/lang/invoke/MethodHandle" ∧ yX6_wanted.cls ≠ "java/lang/invoke/VarHandle" ∧ (parseMethodDescriptor yX6_wanted.desc).map (fun d => d.parameters.length) = some 1 := by decide +kernel
theorem hd_yX6_line : yX6_line.cls = RX6 ∧ yX6_line.cls ≠ "java/lang/invoke/MethodHandle" ∧ yX6_line.cls ≠ "java/lang/invoke/VarHandle" ∧ (parseMethodDescriptor yX6_line.desc).map (fun d => d.parameters.length) = some 3 := by decide +kernel
theorem hd_yX6_orders : yX6_orders.cls = RX6 ∧ yX6_orders.cls ≠ "java/lang/invoke/MethodHandle" ∧ yX6_orders.cls ≠ "java/lang/invoke/VarHandle" ∧ (parseMethodDescriptor yX6_orders.desc).map (fun d => d.parameters.length) = some 0 := by decide +kernel
theorem hd_yX6_stateOf : yX6_stateOf.cls = RX6 ∧ yX6_stateOf.cls ≠ "java/lang/invoke/MethodHandle" ∧ yX6_stateOf.cls ≠ "java/lang/invoke/VarHandle" ∧ (parseMethodDescriptor yX6_stateOf.desc).map (fun d => d.parameters.length) = some 1 := by decide +kernel
theorem hd_yX6_lengthAlone : yX6_lengthAlone.cls = RX6 ∧ yX6_lengthAlone.cls ≠ "java/lang/invoke/MethodHandle" ∧ yX6_lengthAlone.cls ≠ "java/lang/invoke/VarHandle" ∧ (parseMethodDescriptor yX6_lengthAlone.desc).map (fun d => d.parameters.length) = some 1 := by decide +kernel
theorem hd_yX6_setCapacity : yX6_setCapacity.cls = RX6 ∧ yX6_setCapacity.cls ≠ "java/lang/invoke/MethodHandle" ∧ yX6_setCapacity.cls ≠ "java/lang/invoke/VarHandle" ∧ (parseMethodDescriptor yX6_setCapacity.desc).map (fun d => d.parameters.length) = some 1 := by decide +kernel
theorem hd_yX6_productsOf : yX6_productsOf.cls = RX6 ∧ yX6_productsOf.cls ≠ "java/lang/invoke/MethodHandle" ∧ yX6_productsOf.cls ≠ "java/lang/invoke/VarHandle" ∧ (parseMethodDescriptor yX6_productsOf.desc).map (fun d => d.parameters.length) = some 1 := by decide +kernel
theorem hd_yX6_countLines : yX6_countLines.cls = RX6 ∧ yX6_countLines.cls ≠ "java/lang/invoke/MethodHandle" ∧ yX6_countLines.cls ≠ "java/lang/invoke/VarHandle" ∧ (parseMethodDescriptor yX6_countLines.desc).map (fun d => d.parameters.length) = some 1 := by decide +kernel
theorem hd_yX6_closeUp : yX6_closeUp.cls = RX6 ∧ yX6_closeUp.cls ≠ "java/lang/invoke/MethodHandle" ∧ yX6_closeUp.cls ≠ "java/lang/invoke/VarHandle" ∧ (parseMethodDescriptor yX6_closeUp.desc).map (fun d => d.parameters.length) = some 1 := by decide +kernel
theorem hd_yX6_joins : yX6_joins.cls = RX6 ∧ yX6_joins.cls ≠ "java/lang/invoke/MethodHandle" ∧ yX6_joins.cls ≠ "java/lang/invoke/VarHandle" ∧ (parseMethodDescriptor yX6_joins.desc).map (fun d => d.parameters.length) = some 0 := by decide +kernel
theorem hd_yX6_planWave : yX6_planWave.cls = RX6 ∧ yX6_planWave.cls ≠ "java/lang/invoke/MethodHandle" ∧ yX6_planWave.cls ≠ "java/lang/invoke/VarHandle" ∧ (parseMethodDescriptor yX6_planWave.desc).map (fun d => d.parameters.length) = some 1 := by decide +kernel
theorem hd_yX6_pick : yX6_pick.cls = RX6 ∧ yX6_pick.cls ≠ "java/lang/invoke/MethodHandle" ∧ yX6_pick.cls ≠ "java/lang/invoke/VarHandle" ∧ (parseMethodDescriptor yX6_pick.desc).map (fun d => d.parameters.length) = some 1 := by decide +kernel
theorem hd_yX6_batches : yX6_batches.cls = RX6 ∧ yX6_batches.cls ≠ "java/lang/invoke/MethodHandle" ∧ yX6_batches.cls ≠ "java/lang/invoke/VarHandle" ∧ (parseMethodDescriptor yX6_batches.desc).map (fun d => d.parameters.length) = some 0 := by decide +kernel
theorem hd_yX6_batchOf : yX6_batchOf.cls = RX6 ∧ yX6_batchOf.cls ≠ "java/lang/invoke/MethodHandle" ∧ yX6_batchOf.cls ≠ "java/lang/invoke/VarHandle" ∧ (parseMethodDescriptor yX6_batchOf.desc).map (fun d => d.parameters.length) = some 1 := by decide +kernel
theorem hd_yX6_linesOf : yX6_linesOf.cls = RX6 ∧ yX6_linesOf.cls ≠ "java/lang/invoke/MethodHandle" ∧ yX6_linesOf.cls ≠ "java/lang/invoke/VarHandle" ∧ (parseMethodDescriptor yX6_linesOf.desc).map (fun d => d.parameters.length) = some 1 := by decide +kernel
theorem hd_yX6_lengthOf : yX6_lengthOf.cls = RX6 ∧ yX6_lengthOf.cls ≠ "java/lang/invoke/MethodHandle" ∧ yX6_lengthOf.cls ≠ "java/lang/invoke/VarHandle" ∧ (parseMethodDescriptor yX6_lengthOf.desc).map (fun d => d.parameters.length) = some 1 := by decide +kernel
theorem hd_yX6_lengthByTrying : yX6_lengthByTrying.cls = RX6 ∧ yX6_lengthByTrying.cls ≠ "java/lang/invoke/MethodHandle" ∧ yX6_lengthByTrying.cls ≠ "java/lang/invoke/VarHandle" ∧ (parseMethodDescriptor yX6_lengthByTrying.desc).map (fun d => d.parameters.length) = some 1 := by decide +kernel
theorem hd_yX6_farthest : yX6_farthest.cls = RX6 ∧ yX6_farthest.cls ≠ "java/lang/invoke/MethodHandle" ∧ yX6_farthest.cls ≠ "java/lang/invoke/VarHandle" ∧ (parseMethodDescriptor yX6_farthest.desc).map (fun d => d.parameters.length) = some 2 := by decide +kernel
theorem hd_yX6_lengthThrough : yX6_lengthThrough.cls = RX6 ∧ yX6_lengthThrough.cls ≠ "java/lang/invoke/MethodHandle" ∧ yX6_lengthThrough.cls ≠ "java/lang/invoke/VarHandle" ∧ (parseMethodDescriptor yX6_lengthThrough.desc).map (fun d => d.parameters.length) = some 1 := by decide +kernel
theorem hd_yX6_stops : yX6_stops.cls = RX6 ∧ yX6_stops.cls ≠ "java/lang/invoke/MethodHandle" ∧ yX6_stops.cls ≠ "java/lang/invoke/VarHandle" ∧ (parseMethodDescriptor yX6_stops.desc).map (fun d => d.parameters.length) = some 1 := by decide +kernel
theorem hd_yX6_stopAt : yX6_stopAt.cls = RX6 ∧ yX6_stopAt.cls ≠ "java/lang/invoke/MethodHandle" ∧ yX6_stopAt.cls ≠ "java/lang/invoke/VarHandle" ∧ (parseMethodDescriptor yX6_stopAt.desc).map (fun d => d.parameters.length) = some 2 := by decide +kernel
theorem hd_yX6_inAisle : yX6_inAisle.cls = RX6 ∧ yX6_inAisle.cls ≠ "java/lang/invoke/MethodHandle" ∧ yX6_inAisle.cls ≠ "java/lang/invoke/VarHandle" ∧ (parseMethodDescriptor yX6_inAisle.desc).map (fun d => d.parameters.length) = some 1 := by decide +kernel
theorem hd_yX6_walked : yX6_walked.cls = RX6 ∧ yX6_walked.cls ≠ "java/lang/invoke/MethodHandle" ∧ yX6_walked.cls ≠ "java/lang/invoke/VarHandle" ∧ (parseMethodDescriptor yX6_walked.desc).map (fun d => d.parameters.length) = some 0 := by decide +kernel
theorem hd_yX6_share : yX6_share.cls = RX6 ∧ yX6_share.cls ≠ "java/lang/invoke/MethodHandle" ∧ yX6_share.cls ≠ "java/lang/invoke/VarHandle" ∧ (parseMethodDescriptor yX6_share.desc).map (fun d => d.parameters.length) = some 0 := by decide +kernel
theorem hd_yJ6_bitCount_0f7a4 : yJ6_bitCount_0f7a4.cls = RJ6 ∧ yJ6_bitCount_0f7a4.cls ≠ "java/lang/invoke/MethodHandle" ∧ yJ6_bitCount_0f7a4.cls ≠ "java/lang/invoke/VarHandle" ∧ (parseMethodDescriptor yJ6_bitCount_0f7a4.desc).map (fun d => d.parameters.length) = some 1 := by decide +kernel
theorem hd_yJ9_abs_0f7a4 : yJ9_abs_0f7a4.cls = RJ9 ∧ yJ9_abs_0f7a4.cls ≠ "java/lang/invoke/MethodHandle" ∧ yJ9_abs_0f7a4.cls ≠ "java/lang/invoke/VarHandle" ∧ (parseMethodDescriptor yJ9_abs_0f7a4.desc).map (fun d => d.parameters.length) = some 1 := by decide +kernel
theorem hd_yJ9_max_7cf53 : yJ9_max_7cf53.cls = RJ9 ∧ yJ9_max_7cf53.cls ≠ "java/lang/invoke/MethodHandle" ∧ yJ9_max_7cf53.cls ≠ "java/lang/invoke/VarHandle" ∧ (parseMethodDescriptor yJ9_max_7cf53.desc).map (fun d => d.parameters.length) = some 2 := by decide +kernel
theorem hd_yJ9_min_7cf53 : yJ9_min_7cf53.cls = RJ9 ∧ yJ9_min_7cf53.cls ≠ "java/lang/invoke/MethodHandle" ∧ yJ9_min_7cf53.cls ≠ "java/lang/invoke/VarHandle" ∧ (parseMethodDescriptor yJ9_min_7cf53.desc).map (fun d => d.parameters.length) = some 2 := by decide +kernel
theorem hd_yJxa1e45_init_da8c8 : yJxa1e45_init_da8c8.cls = RJxa1e45 ∧ yJxa1e45_init_da8c8.cls ≠ "java/lang/invoke/MethodHandle" ∧ yJxa1e45_init_da8c8.cls ≠ "java/lang/invoke/VarHandle" ∧ (parseMethodDescriptor yJxa1e45_init_da8c8.desc).map (fun d => d.parameters.length) = some 0 := by decide +kernel
theorem hd_yJxc12de_init_da8c8 : yJxc12de_init_da8c8.cls = RJxc12de ∧ yJxc12de_init_da8c8.cls ≠ "java/lang/invoke/MethodHandle" ∧ yJxc12de_init_da8c8.cls ≠ "java/lang/invoke/VarHandle" ∧ (parseMethodDescriptor yJxc12de_init_da8c8.desc).map (fun d => d.parameters.length) = some 0 := by decide +kernel
theorem hd_yJx4a65c_init_da8c8 : yJx4a65c_init_da8c8.cls = RJx4a65c ∧ yJx4a65c_init_da8c8.cls ≠ "java/lang/invoke/MethodHandle" ∧ yJx4a65c_init_da8c8.cls ≠ "java/lang/invoke/VarHandle" ∧ (parseMethodDescriptor yJx4a65c_init_da8c8.desc).map (fun d => d.parameters.length) = some 0 := by decide +kernel
theorem hd_yJx4a65c_grow_92f84 : yJx4a65c_grow_92f84.cls = RJx4a65c ∧ yJx4a65c_grow_92f84.cls ≠ "java/lang/invoke/MethodHandle" ∧ yJx4a65c_grow_92f84.cls ≠ "java/lang/invoke/VarHandle" ∧ (parseMethodDescriptor yJx4a65c_grow_92f84.desc).map (fun d => d.parameters.length) = some 1 := by decide +kernel
theorem hd_yJx4a65c_grow_d5877 : yJx4a65c_grow_d5877.cls = RJx4a65c ∧ yJx4a65c_grow_d5877.cls ≠ "java/lang/invoke/MethodHandle" ∧ yJx4a65c_grow_d5877.cls ≠ "java/lang/invoke/VarHandle" ∧ (parseMethodDescriptor yJx4a65c_grow_d5877.desc).map (fun d => d.parameters.length) = some 0 := by decide +kernel
theorem hd_yJx4a65c_size_8abf5 : yJx4a65c_size_8abf5.cls = RJx4a65c ∧ yJx4a65c_size_8abf5.cls ≠ "java/lang/invoke/MethodHandle" ∧ yJx4a65c_size_8abf5.cls ≠ "java/lang/invoke/VarHandle" ∧ (parseMethodDescriptor yJx4a65c_size_8abf5.desc).map (fun d => d.parameters.length) = some 0 := by decide +kernel
theorem hd_yJx4a65c_isEmpty_aae02 : yJx4a65c_isEmpty_aae02.cls = RJx4a65c ∧ yJx4a65c_isEmpty_aae02.cls ≠ "java/lang/invoke/MethodHandle" ∧ yJx4a65c_isEmpty_aae02.cls ≠ "java/lang/invoke/VarHandle" ∧ (parseMethodDescriptor yJx4a65c_isEmpty_aae02.desc).map (fun d => d.parameters.length) = some 0 := by decide +kernel
theorem hd_yJx4a65c_elementData_915e3 : yJx4a65c_elementData_915e3.cls = RJx4a65c ∧ yJx4a65c_elementData_915e3.cls ≠ "java/lang/invoke/MethodHandle" ∧ yJx4a65c_elementData_915e3.cls ≠ "java/lang/invoke/VarHandle" ∧ (parseMethodDescriptor yJx4a65c_elementData_915e3.desc).map (fun d => d.parameters.length) = some 1 := by decide +kernel
theorem hd_yJx4a65c_get_915e3 : yJx4a65c_get_915e3.cls = RJx4a65c ∧ yJx4a65c_get_915e3.cls ≠ "java/lang/invoke/MethodHandle" ∧ yJx4a65c_get_915e3.cls ≠ "java/lang/invoke/VarHandle" ∧ (parseMethodDescriptor yJx4a65c_get_915e3.desc).map (fun d => d.parameters.length) = some 1 := by decide +kernel
theorem hd_yJx4a65c_add_72be8 : yJx4a65c_add_72be8.cls = RJx4a65c ∧ yJx4a65c_add_72be8.cls ≠ "java/lang/invoke/MethodHandle" ∧ yJx4a65c_add_72be8.cls ≠ "java/lang/invoke/VarHandle" ∧ (parseMethodDescriptor yJx4a65c_add_72be8.desc).map (fun d => d.parameters.length) = some 3 := by decide +kernel
theorem hd_yJx4a65c_add_9ea2d : yJx4a65c_add_9ea2d.cls = RJx4a65c ∧ yJx4a65c_add_9ea2d.cls ≠ "java/lang/invoke/MethodHandle" ∧ yJx4a65c_add_9ea2d.cls ≠ "java/lang/invoke/VarHandle" ∧ (parseMethodDescriptor yJx4a65c_add_9ea2d.desc).map (fun d => d.parameters.length) = some 1 := by decide +kernel
theorem hd_yJx4a65c_remove_915e3 : yJx4a65c_remove_915e3.cls = RJx4a65c ∧ yJx4a65c_remove_915e3.cls ≠ "java/lang/invoke/MethodHandle" ∧ yJx4a65c_remove_915e3.cls ≠ "java/lang/invoke/VarHandle" ∧ (parseMethodDescriptor yJx4a65c_remove_915e3.desc).map (fun d => d.parameters.length) = some 1 := by decide +kernel
theorem hd_yJx4a65c_fastRemove_b59b0 : yJx4a65c_fastRemove_b59b0.cls = RJx4a65c ∧ yJx4a65c_fastRemove_b59b0.cls ≠ "java/lang/invoke/MethodHandle" ∧ yJx4a65c_fastRemove_b59b0.cls ≠ "java/lang/invoke/VarHandle" ∧ (parseMethodDescriptor yJx4a65c_fastRemove_b59b0.desc).map (fun d => d.parameters.length) = some 2 := by decide +kernel
theorem hd_yJ7_copyOf_1904c : yJ7_copyOf_1904c.cls = RJ7 ∧ yJ7_copyOf_1904c.cls ≠ "java/lang/invoke/MethodHandle" ∧ yJ7_copyOf_1904c.cls ≠ "java/lang/invoke/VarHandle" ∧ (parseMethodDescriptor yJ7_copyOf_1904c.desc).map (fun d => d.parameters.length) = some 2 := by decide +kernel
theorem hd_yJ7_copyOf_6403c : yJ7_copyOf_6403c.cls = RJ7 ∧ yJ7_copyOf_6403c.cls ≠ "java/lang/invoke/MethodHandle" ∧ yJ7_copyOf_6403c.cls ≠ "java/lang/invoke/VarHandle" ∧ (parseMethodDescriptor yJ7_copyOf_6403c.desc).map (fun d => d.parameters.length) = some 3 := by decide +kernel
theorem hd_yJ15_checkIndex_7cf53 : yJ15_checkIndex_7cf53.cls = RJ15 ∧ yJ15_checkIndex_7cf53.cls ≠ "java/lang/invoke/MethodHandle" ∧ yJ15_checkIndex_7cf53.cls ≠ "java/lang/invoke/VarHandle" ∧ (parseMethodDescriptor yJ15_checkIndex_7cf53.desc).map (fun d => d.parameters.length) = some 2 := by decide +kernel
theorem hd_yJ8_newLength_cabcc : yJ8_newLength_cabcc.cls = RJ8 ∧ yJ8_newLength_cabcc.cls ≠ "java/lang/invoke/MethodHandle" ∧ yJ8_newLength_cabcc.cls ≠ "java/lang/invoke/VarHandle" ∧ (parseMethodDescriptor yJ8_newLength_cabcc.desc).map (fun d => d.parameters.length) = some 3 := by decide +kernel
theorem hd_yJ8_hugeLength_7cf53 : yJ8_hugeLength_7cf53.cls = RJ8 ∧ yJ8_hugeLength_7cf53.cls ≠ "java/lang/invoke/MethodHandle" ∧ yJ8_hugeLength_7cf53.cls ≠ "java/lang/invoke/VarHandle" ∧ (parseMethodDescriptor yJ8_hugeLength_7cf53.desc).map (fun d => d.parameters.length) = some 2 := by decide +kernel
theorem hd_yJ3_checkIndex_8e157 : yJ3_checkIndex_8e157.cls = RJ3 ∧ yJ3_checkIndex_8e157.cls ≠ "java/lang/invoke/MethodHandle" ∧ yJ3_checkIndex_8e157.cls ≠ "java/lang/invoke/VarHandle" ∧ (parseMethodDescriptor yJ3_checkIndex_8e157.desc).map (fun d => d.parameters.length) = some 3 := by decide +kernel
theorem hd_yL_cell : yL_cell.cls = RL ∧ yL_cell.cls ≠ "java/lang/invoke/MethodHandle" ∧ yL_cell.cls ≠ "java/lang/invoke/VarHandle" ∧ (parseMethodDescriptor yL_cell.desc).map (fun d => d.parameters.length) = some 2 := by decide +kernel
theorem hd_yL_put : yL_put.cls = RL ∧ yL_put.cls ≠ "java/lang/invoke/MethodHandle" ∧ yL_put.cls ≠ "java/lang/invoke/VarHandle" ∧ (parseMethodDescriptor yL_put.desc).map (fun d => d.parameters.length) = some 5 := by decide +kernel
theorem hd_yL_layOut : yL_layOut.cls = RL ∧ yL_layOut.cls ≠ "java/lang/invoke/MethodHandle" ∧ yL_layOut.cls ≠ "java/lang/invoke/VarHandle" ∧ (parseMethodDescriptor yL_layOut.desc).map (fun d => d.parameters.length) = some 2 := by decide +kernel
theorem hd_yL_placeOf : yL_placeOf.cls = RL ∧ yL_placeOf.cls ≠ "java/lang/invoke/MethodHandle" ∧ yL_placeOf.cls ≠ "java/lang/invoke/VarHandle" ∧ (parseMethodDescriptor yL_placeOf.desc).map (fun d => d.parameters.length) = some 3 := by decide +kernel
theorem hd_yL_turnover : yL_turnover.cls = RL ∧ yL_turnover.cls ≠ "java/lang/invoke/MethodHandle" ∧ yL_turnover.cls ≠ "java/lang/invoke/VarHandle" ∧ (parseMethodDescriptor yL_turnover.desc).map (fun d => d.parameters.length) = some 3 := by decide +kernel
theorem hd_yL_distance : yL_distance.cls = RL ∧ yL_distance.cls ≠ "java/lang/invoke/MethodHandle" ∧ yL_distance.cls ≠ "java/lang/invoke/VarHandle" ∧ (parseMethodDescriptor yL_distance.desc).map (fun d => d.parameters.length) = some 4 := by decide +kernel
theorem hd_yL_order : yL_order.cls = RL ∧ yL_order.cls ≠ "java/lang/invoke/MethodHandle" ∧ yL_order.cls ≠ "java/lang/invoke/VarHandle" ∧ (parseMethodDescriptor yL_order.desc).map (fun d => d.parameters.length) = some 3 := by decide +kernel
theorem hd_yL_line : yL_line.cls = RL ∧ yL_line.cls ≠ "java/lang/invoke/MethodHandle" ∧ yL_line.cls ≠ "java/lang/invoke/VarHandle" ∧ (parseMethodDescriptor yL_line.desc).map (fun d => d.parameters.length) = some 5 := by decide +kernel
theorem hd_yL_stateOf : yL_stateOf.cls = RL ∧ yL_stateOf.cls ≠ "java/lang/invoke/MethodHandle" ∧ yL_stateOf.cls ≠ "java/lang/invoke/VarHandle" ∧ (parseMethodDescriptor yL_stateOf.desc).map (fun d => d.parameters.length) = some 3 := by decide +kernel
theorem hd_yL_lengthAlone : yL_lengthAlone.cls = RL ∧ yL_lengthAlone.cls ≠ "java/lang/invoke/MethodHandle" ∧ yL_lengthAlone.cls ≠ "java/lang/invoke/VarHandle" ∧ (parseMethodDescriptor yL_lengthAlone.desc).map (fun d => d.parameters.length) = some 3 := by decide +kernel
theorem hd_yL_setCapacity : yL_setCapacity.cls = RL ∧ yL_setCapacity.cls ≠ "java/lang/invoke/MethodHandle" ∧ yL_setCapacity.cls ≠ "java/lang/invoke/VarHandle" ∧ (parseMethodDescriptor yL_setCapacity.desc).map (fun d => d.parameters.length) = some 3 := by decide +kernel
theorem hd_yL_planWave : yL_planWave.cls = RL ∧ yL_planWave.cls ≠ "java/lang/invoke/MethodHandle" ∧ yL_planWave.cls ≠ "java/lang/invoke/VarHandle" ∧ (parseMethodDescriptor yL_planWave.desc).map (fun d => d.parameters.length) = some 3 := by decide +kernel
theorem hd_yL_pick : yL_pick.cls = RL ∧ yL_pick.cls ≠ "java/lang/invoke/MethodHandle" ∧ yL_pick.cls ≠ "java/lang/invoke/VarHandle" ∧ (parseMethodDescriptor yL_pick.desc).map (fun d => d.parameters.length) = some 3 := by decide +kernel
theorem hd_yL_batchOf : yL_batchOf.cls = RL ∧ yL_batchOf.cls ≠ "java/lang/invoke/MethodHandle" ∧ yL_batchOf.cls ≠ "java/lang/invoke/VarHandle" ∧ (parseMethodDescriptor yL_batchOf.desc).map (fun d => d.parameters.length) = some 3 := by decide +kernel
theorem hd_yL_linesOf : yL_linesOf.cls = RL ∧ yL_linesOf.cls ≠ "java/lang/invoke/MethodHandle" ∧ yL_linesOf.cls ≠ "java/lang/invoke/VarHandle" ∧ (parseMethodDescriptor yL_linesOf.desc).map (fun d => d.parameters.length) = some 3 := by decide +kernel
theorem hd_yL_lengthOf : yL_lengthOf.cls = RL ∧ yL_lengthOf.cls ≠ "java/lang/invoke/MethodHandle" ∧ yL_lengthOf.cls ≠ "java/lang/invoke/VarHandle" ∧ (parseMethodDescriptor yL_lengthOf.desc).map (fun d => d.parameters.length) = some 3 := by decide +kernel
theorem hd_yL_lengthByTrying : yL_lengthByTrying.cls = RL ∧ yL_lengthByTrying.cls ≠ "java/lang/invoke/MethodHandle" ∧ yL_lengthByTrying.cls ≠ "java/lang/invoke/VarHandle" ∧ (parseMethodDescriptor yL_lengthByTrying.desc).map (fun d => d.parameters.length) = some 3 := by decide +kernel
theorem hd_yL_lengthThrough : yL_lengthThrough.cls = RL ∧ yL_lengthThrough.cls ≠ "java/lang/invoke/MethodHandle" ∧ yL_lengthThrough.cls ≠ "java/lang/invoke/VarHandle" ∧ (parseMethodDescriptor yL_lengthThrough.desc).map (fun d => d.parameters.length) = some 3 := by decide +kernel
theorem hd_yL_stops : yL_stops.cls = RL ∧ yL_stops.cls ≠ "java/lang/invoke/MethodHandle" ∧ yL_stops.cls ≠ "java/lang/invoke/VarHandle" ∧ (parseMethodDescriptor yL_stops.desc).map (fun d => d.parameters.length) = some 3 := by decide +kernel
theorem hd_yL_stopAt : yL_stopAt.cls = RL ∧ yL_stopAt.cls ≠ "java/lang/invoke/MethodHandle" ∧ yL_stopAt.cls ≠ "java/lang/invoke/VarHandle" ∧ (parseMethodDescriptor yL_stopAt.desc).map (fun d => d.parameters.length) = some 4 := by decide +kernel
theorem hd_yL_inAisle : yL_inAisle.cls = RL ∧ yL_inAisle.cls ≠ "java/lang/invoke/MethodHandle" ∧ yL_inAisle.cls ≠ "java/lang/invoke/VarHandle" ∧ (parseMethodDescriptor yL_inAisle.desc).map (fun d => d.parameters.length) = some 3 := by decide +kernel
theorem hd_yL_law : yL_law.cls = RL ∧ yL_law.cls ≠ "java/lang/invoke/MethodHandle" ∧ yL_law.cls ≠ "java/lang/invoke/VarHandle" ∧ (parseMethodDescriptor yL_law.desc).map (fun d => d.parameters.length) = some 1 := by decide +kernel
def StrL : List (String × Nat × String) := [(RX5, 238, "no such product"), (RX5, 64, "no such place"), (RX5, 79, "another product is there, or there is a wave"), (RX5, 85, "there is a wave"), (RX5, 98, "a product is at no place"), (RX5, 240, "the time is out of range"), (RX5, 109, "there are as many orders as there may be"), (RX5, 242, "no such order"), (RX5, 125, "quantity is out of range"), (RX5, 135, "the order can't have this line"), (RX5, 153, "lines is out of range"), (RX5, 158, "an order has more lines, or there is a wave"), (RX5, 163, "there is a wave, or it would take no order"), (RX5, 244, "no such batch"), (RX5, 211, "too many places to try"), (RX5, 220, "no such stop"), (RX5, 222, "no such aisle")]
theorem s_RX5_238 : (RX5, 238, "no such product") ∈ StrL := by decide +kernel
theorem s_RX5_64 : (RX5, 64, "no such place") ∈ StrL := by decide +kernel
theorem s_RX5_79 : (RX5, 79, "another product is there, or there is a wave") ∈ StrL := by decide +kernel
theorem s_RX5_85 : (RX5, 85, "there is a wave") ∈ StrL := by decide +kernel
theorem s_RX5_98 : (RX5, 98, "a product is at no place") ∈ StrL := by decide +kernel
theorem s_RX5_240 : (RX5, 240, "the time is out of range") ∈ StrL := by decide +kernel
theorem s_RX5_109 : (RX5, 109, "there are as many orders as there may be") ∈ StrL := by decide +kernel
theorem s_RX5_242 : (RX5, 242, "no such order") ∈ StrL := by decide +kernel
theorem s_RX5_125 : (RX5, 125, "quantity is out of range") ∈ StrL := by decide +kernel
theorem s_RX5_135 : (RX5, 135, "the order can't have this line") ∈ StrL := by decide +kernel
theorem s_RX5_153 : (RX5, 153, "lines is out of range") ∈ StrL := by decide +kernel
theorem s_RX5_158 : (RX5, 158, "an order has more lines, or there is a wave") ∈ StrL := by decide +kernel
theorem s_RX5_163 : (RX5, 163, "there is a wave, or it would take no order") ∈ StrL := by decide +kernel
theorem s_RX5_244 : (RX5, 244, "no such batch") ∈ StrL := by decide +kernel
theorem s_RX5_211 : (RX5, 211, "too many places to try") ∈ StrL := by decide +kernel
theorem s_RX5_220 : (RX5, 220, "no such stop") ∈ StrL := by decide +kernel
theorem s_RX5_222 : (RX5, 222, "no such aisle") ∈ StrL := by decide +kernel
theorem ul_X0 : ∀ w ∈ wsX00, w ∈ UW := by decide +kernel
theorem ul_X1 : ∀ w ∈ wsX10, w ∈ UW := by decide +kernel
theorem ul_X2 : ∀ w ∈ wsX20, w ∈ UW := by decide +kernel
theorem ul_X3 : ∀ w ∈ wsX30, w ∈ UW := by decide +kernel
theorem ul_X4 : ∀ w ∈ wsX40, w ∈ UW := by decide +kernel
theorem ul_X5 : ∀ w ∈ wsX50, w ∈ UW := by decide +kernel
theorem ul_X6 : ∀ w ∈ wsX60, w ∈ UW := by decide +kernel
theorem ul_Jx4a65c : ∀ w ∈ wsJx4a65c0, w ∈ UW := by decide +kernel
end
section
theorem dX0_init_0 : decode cX0_init 0 = .ok (.aload_n 0, 1) := by decide +kernel
theorem dX0_init_1 : decode cX0_init 1 = .ok (.invokespecial 3, 3) := by decide +kernel
theorem dX0_init_4 : decode cX0_init 4 = .ok (.aload_n 0, 1) := by decide +kernel
theorem dX0_init_5 : decode cX0_init 5 = .ok (.iconst 0, 1) := by decide +kernel
theorem dX0_init_6 : decode cX0_init 6 = .ok (.newarray .int, 2) := by decide +kernel
theorem dX0_init_8 : decode cX0_init 8 = .ok (.putfield 9, 3) := by decide +kernel
theorem dX0_init_11 : decode cX0_init 11 = .ok (.aload_n 0, 1) := by decide +kernel
theorem dX0_init_12 : decode cX0_init 12 = .ok (.iload_n 1, 1) := by decide +kernel
theorem dX0_init_13 : decode cX0_init 13 = .ok (.putfield 15, 3) := by decide +kernel
theorem dX0_init_16 : decode cX0_init 16 = .ok (.aload_n 0, 1) := by decide +kernel
theorem dX0_init_17 : decode cX0_init 17 = .ok (.lconst 1, 1) := by decide +kernel
theorem dX0_init_18 : decode cX0_init 18 = .ok (.iload_n 2, 1) := by decide +kernel
theorem dX0_init_19 : decode cX0_init 19 = .ok (.lshl, 1) := by decide +kernel
theorem dX0_init_20 : decode cX0_init 20 = .ok (.putfield 19, 3) := by decide +kernel
theorem dX0_init_23 : decode cX0_init 23 = .ok (.aload_n 0, 1) := by decide +kernel
theorem dX0_init_24 : decode cX0_init 24 = .ok (.aload_n 3, 1) := by decide +kernel
theorem dX0_init_25 : decode cX0_init 25 = .ok (.getfield 23, 3) := by decide +kernel
theorem dX0_init_28 : decode cX0_init 28 = .ok (.putfield 28, 3) := by decide +kernel
theorem dX0_init_31 : decode cX0_init 31 = .ok (.aload_n 0, 1) := by decide +kernel
theorem dX0_init_32 : decode cX0_init 32 = .ok (.aload_n 3, 1) := by decide +kernel
theorem dX0_init_33 : decode cX0_init 33 = .ok (.invokevirtual 29, 3) := by decide +kernel
theorem dX0_init_36 : decode cX0_init 36 = .ok (.putfield 33, 3) := by decide +kernel
theorem dX0_init_39 : decode cX0_init 39 = .ok (.aload_n 0, 1) := by decide +kernel
theorem dX0_init_40 : decode cX0_init 40 = .ok (.iload 4, 2) := by decide +kernel
theorem dX0_init_42 : decode cX0_init 42 = .ok (.putfield 36, 3) := by decide +kernel
theorem dX0_init_45 : decode cX0_init 45 = .ok (.return_, 1) := by decide +kernel
theorem dX0_holds_0 : decode cX0_holds 0 = .ok (.aload_n 0, 1) := by decide +kernel
theorem dX0_holds_1 : decode cX0_holds 1 = .ok (.getfield 19, 3) := by decide +kernel
theorem dX0_holds_4 : decode cX0_holds 4 = .ok (.iload_n 1, 1) := by decide +kernel
theorem dX0_holds_5 : decode cX0_holds 5 = .ok (.lshr, 1) := by decide +kernel
theorem dX0_holds_6 : decode cX0_holds 6 = .ok (.lconst 1, 1) := by decide +kernel
theorem dX0_holds_7 : decode cX0_holds 7 = .ok (.land, 1) := by decide +kernel
theorem dX0_holds_8 : decode cX0_holds 8 = .ok (.lconst 0, 1) := by decide +kernel
theorem dX0_holds_9 : decode cX0_holds 9 = .ok (.lcmp, 1) := by decide +kernel
theorem dX0_holds_10 : decode cX0_holds 10 = .ok (.ifCond .eq 7, 3) := by decide +kernel
theorem dX0_holds_13 : decode cX0_holds 13 = .ok (.iconst 1, 1) := by decide +kernel
theorem dX0_holds_14 : decode cX0_holds 14 = .ok (.goto 4, 3) := by decide +kernel
theorem dX0_holds_17 : decode cX0_holds 17 = .ok (.iconst 0, 1) := by decide +kernel
theorem dX0_holds_18 : decode cX0_holds 18 = .ok (.ireturn, 1) := by decide +kernel
theorem dX0_comesInto_0 : decode cX0_comesInto 0 = .ok (.iconst 0, 1) := by decide +kernel
theorem dX0_comesInto_1 : decode cX0_comesInto 1 = .ok (.istore_n 2, 1) := by decide +kernel
theorem dX0_comesInto_2 : decode cX0_comesInto 2 = .ok (.iload_n 2, 1) := by decide +kernel
theorem dX0_comesInto_3 : decode cX0_comesInto 3 = .ok (.aload_n 0, 1) := by decide +kernel
theorem dX0_comesInto_4 : decode cX0_comesInto 4 = .ok (.getfield 9, 3) := by decide +kernel
theorem dX0_comesInto_7 : decode cX0_comesInto 7 = .ok (.arraylength, 1) := by decide +kernel
theorem dX0_comesInto_8 : decode cX0_comesInto 8 = .ok (.if_icmp .ge 24, 3) := by decide +kernel
theorem dX0_comesInto_11 : decode cX0_comesInto 11 = .ok (.aload_n 0, 1) := by decide +kernel
theorem dX0_comesInto_12 : decode cX0_comesInto 12 = .ok (.getfield 9, 3) := by decide +kernel
theorem dX0_comesInto_15 : decode cX0_comesInto 15 = .ok (.iload_n 2, 1) := by decide +kernel
theorem dX0_comesInto_16 : decode cX0_comesInto 16 = .ok (.iaload, 1) := by decide +kernel
theorem dX0_comesInto_17 : decode cX0_comesInto 17 = .ok (.bipush 100, 2) := by decide +kernel
theorem dX0_comesInto_19 : decode cX0_comesInto 19 = .ok (.idiv, 1) := by decide +kernel
theorem dX0_comesInto_20 : decode cX0_comesInto 20 = .ok (.iload_n 1, 1) := by decide +kernel
theorem dX0_comesInto_21 : decode cX0_comesInto 21 = .ok (.if_icmp .ne 5, 3) := by decide +kernel
theorem dX0_comesInto_24 : decode cX0_comesInto 24 = .ok (.iconst 1, 1) := by decide +kernel
theorem dX0_comesInto_25 : decode cX0_comesInto 25 = .ok (.ireturn, 1) := by decide +kernel
theorem dX0_comesInto_26 : decode cX0_comesInto 26 = .ok (.iinc 2 1, 3) := by decide +kernel
theorem dX0_comesInto_29 : decode cX0_comesInto 29 = .ok (.goto (-27), 3) := by decide +kernel
theorem dX0_comesInto_32 : decode cX0_comesInto 32 = .ok (.iconst 0, 1) := by decide +kernel
theorem dX0_comesInto_33 : decode cX0_comesInto 33 = .ok (.ireturn, 1) := by decide +kernel
theorem dX0_absorb_0 : decode cX0_absorb 0 = .ok (.aload_n 0, 1) := by decide +kernel
theorem dX0_absorb_1 : decode cX0_absorb 1 = .ok (.dup, 1) := by decide +kernel
theorem dX0_absorb_2 : decode cX0_absorb 2 = .ok (.getfield 19, 3) := by decide +kernel
theorem dX0_absorb_5 : decode cX0_absorb 5 = .ok (.aload_n 1, 1) := by decide +kernel
theorem dX0_absorb_6 : decode cX0_absorb 6 = .ok (.getfield 19, 3) := by decide +kernel
theorem dX0_absorb_9 : decode cX0_absorb 9 = .ok (.lor, 1) := by decide +kernel
theorem dX0_absorb_10 : decode cX0_absorb 10 = .ok (.putfield 19, 3) := by decide +kernel
theorem dX0_absorb_13 : decode cX0_absorb 13 = .ok (.aload_n 0, 1) := by decide +kernel
theorem dX0_absorb_14 : decode cX0_absorb 14 = .ok (.dup, 1) := by decide +kernel
theorem dX0_absorb_15 : decode cX0_absorb 15 = .ok (.getfield 28, 3) := by decide +kernel
theorem dX0_absorb_18 : decode cX0_absorb 18 = .ok (.aload_n 1, 1) := by decide +kernel
theorem dX0_absorb_19 : decode cX0_absorb 19 = .ok (.getfield 28, 3) := by decide +kernel
theorem dX0_absorb_22 : decode cX0_absorb 22 = .ok (.ior, 1) := by decide +kernel
theorem dX0_absorb_23 : decode cX0_absorb 23 = .ok (.putfield 28, 3) := by decide +kernel
theorem dX0_absorb_26 : decode cX0_absorb 26 = .ok (.aload_n 0, 1) := by decide +kernel
theorem dX0_absorb_27 : decode cX0_absorb 27 = .ok (.dup, 1) := by decide +kernel
theorem dX0_absorb_28 : decode cX0_absorb 28 = .ok (.getfield 33, 3) := by decide +kernel
theorem dX0_absorb_31 : decode cX0_absorb 31 = .ok (.aload_n 1, 1) := by decide +kernel
theorem dX0_absorb_32 : decode cX0_absorb 32 = .ok (.getfield 33, 3) := by decide +kernel
theorem dX0_absorb_35 : decode cX0_absorb 35 = .ok (.iadd, 1) := by decide +kernel
theorem dX0_absorb_36 : decode cX0_absorb 36 = .ok (.putfield 33, 3) := by decide +kernel
theorem dX0_absorb_39 : decode cX0_absorb 39 = .ok (.aload_n 0, 1) := by decide +kernel
theorem dX0_absorb_40 : decode cX0_absorb 40 = .ok (.dup, 1) := by decide +kernel
theorem dX0_absorb_41 : decode cX0_absorb 41 = .ok (.getfield 36, 3) := by decide +kernel
theorem dX0_absorb_44 : decode cX0_absorb 44 = .ok (.aload_n 1, 1) := by decide +kernel
theorem dX0_absorb_45 : decode cX0_absorb 45 = .ok (.getfield 36, 3) := by decide +kernel
theorem dX0_absorb_48 : decode cX0_absorb 48 = .ok (.iload_n 2, 1) := by decide +kernel
theorem dX0_absorb_49 : decode cX0_absorb 49 = .ok (.isub, 1) := by decide +kernel
theorem dX0_absorb_50 : decode cX0_absorb 50 = .ok (.iadd, 1) := by decide +kernel
theorem dX0_absorb_51 : decode cX0_absorb 51 = .ok (.putfield 36, 3) := by decide +kernel
theorem dX0_absorb_54 : decode cX0_absorb 54 = .ok (.return_, 1) := by decide +kernel
theorem dX1_init_0 : decode cX1_init 0 = .ok (.aload_n 0, 1) := by decide +kernel
theorem dX1_init_1 : decode cX1_init 1 = .ok (.invokespecial 3, 3) := by decide +kernel
theorem dX1_init_4 : decode cX1_init 4 = .ok (.aload_n 0, 1) := by decide +kernel
theorem dX1_init_5 : decode cX1_init 5 = .ok (.bipush 20, 2) := by decide +kernel
theorem dX1_init_7 : decode cX1_init 7 = .ok (.newarray .int, 2) := by decide +kernel
theorem dX1_init_9 : decode cX1_init 9 = .ok (.putfield 9, 3) := by decide +kernel
theorem dX1_init_12 : decode cX1_init 12 = .ok (.aload_n 0, 1) := by decide +kernel
theorem dX1_init_13 : decode cX1_init 13 = .ok (.iconst 0, 1) := by decide +kernel
theorem dX1_init_14 : decode cX1_init 14 = .ok (.putfield 15, 3) := by decide +kernel
theorem dX1_init_17 : decode cX1_init 17 = .ok (.aload_n 0, 1) := by decide +kernel
theorem dX1_init_18 : decode cX1_init 18 = .ok (.iload_n 1, 1) := by decide +kernel
theorem dX1_init_19 : decode cX1_init 19 = .ok (.putfield 19, 3) := by decide +kernel
theorem dX1_init_22 : decode cX1_init 22 = .ok (.return_, 1) := by decide +kernel
theorem dX1_asksFor_0 : decode cX1_asksFor 0 = .ok (.aload_n 0, 1) := by decide +kernel
theorem dX1_asksFor_1 : decode cX1_asksFor 1 = .ok (.getfield 22, 3) := by decide +kernel
theorem dX1_asksFor_4 : decode cX1_asksFor 4 = .ok (.iload_n 1, 1) := by decide +kernel
theorem dX1_asksFor_5 : decode cX1_asksFor 5 = .ok (.invokestatic 25, 3) := by decide +kernel
theorem dX1_asksFor_8 : decode cX1_asksFor 8 = .ok (.ireturn, 1) := by decide +kernel
theorem dX1_countLines_0 : decode cX1_countLines 0 = .ok (.aload_n 0, 1) := by decide +kernel
theorem dX1_countLines_1 : decode cX1_countLines 1 = .ok (.getfield 22, 3) := by decide +kernel
theorem dX1_countLines_4 : decode cX1_countLines 4 = .ok (.invokestatic 29, 3) := by decide +kernel
theorem dX1_countLines_7 : decode cX1_countLines 7 = .ok (.ireturn, 1) := by decide +kernel
theorem dX1_addLine_0 : decode cX1_addLine 0 = .ok (.aload_n 0, 1) := by decide +kernel
theorem dX1_addLine_1 : decode cX1_addLine 1 = .ok (.dup, 1) := by decide +kernel
theorem dX1_addLine_2 : decode cX1_addLine 2 = .ok (.getfield 22, 3) := by decide +kernel
theorem dX1_addLine_5 : decode cX1_addLine 5 = .ok (.iconst 1, 1) := by decide +kernel
theorem dX1_addLine_6 : decode cX1_addLine 6 = .ok (.iload_n 1, 1) := by decide +kernel
theorem dX1_addLine_7 : decode cX1_addLine 7 = .ok (.ishl, 1) := by decide +kernel
theorem dX1_addLine_8 : decode cX1_addLine 8 = .ok (.ior, 1) := by decide +kernel
theorem dX1_addLine_9 : decode cX1_addLine 9 = .ok (.putfield 22, 3) := by decide +kernel
theorem dX1_addLine_12 : decode cX1_addLine 12 = .ok (.aload_n 0, 1) := by decide +kernel
theorem dX1_addLine_13 : decode cX1_addLine 13 = .ok (.getfield 9, 3) := by decide +kernel
theorem dX1_addLine_16 : decode cX1_addLine 16 = .ok (.iload_n 1, 1) := by decide +kernel
theorem dX1_addLine_17 : decode cX1_addLine 17 = .ok (.iload_n 2, 1) := by decide +kernel
theorem dX1_addLine_18 : decode cX1_addLine 18 = .ok (.iastore, 1) := by decide +kernel
theorem dX1_addLine_19 : decode cX1_addLine 19 = .ok (.return_, 1) := by decide +kernel
theorem dX1_isTakenAt_0 : decode cX1_isTakenAt 0 = .ok (.aload_n 0, 1) := by decide +kernel
theorem dX1_isTakenAt_1 : decode cX1_isTakenAt 1 = .ok (.getfield 15, 3) := by decide +kernel
theorem dX1_isTakenAt_4 : decode cX1_isTakenAt 4 = .ok (.ifCond .ne 22, 3) := by decide +kernel
theorem dX1_isTakenAt_7 : decode cX1_isTakenAt 7 = .ok (.aload_n 0, 1) := by decide +kernel
theorem dX1_isTakenAt_8 : decode cX1_isTakenAt 8 = .ok (.getfield 22, 3) := by decide +kernel
theorem dX1_isTakenAt_11 : decode cX1_isTakenAt 11 = .ok (.ifCond .eq 15, 3) := by decide +kernel
theorem dX1_isTakenAt_14 : decode cX1_isTakenAt 14 = .ok (.aload_n 0, 1) := by decide +kernel
theorem dX1_isTakenAt_15 : decode cX1_isTakenAt 15 = .ok (.getfield 19, 3) := by decide +kernel
theorem dX1_isTakenAt_18 : decode cX1_isTakenAt 18 = .ok (.iload_n 1, 1) := by decide +kernel
theorem dX1_isTakenAt_19 : decode cX1_isTakenAt 19 = .ok (.if_icmp .gt 7, 3) := by decide +kernel
theorem dX1_isTakenAt_22 : decode cX1_isTakenAt 22 = .ok (.iconst 1, 1) := by decide +kernel
theorem dX1_isTakenAt_23 : decode cX1_isTakenAt 23 = .ok (.goto 4, 3) := by decide +kernel
theorem dX1_isTakenAt_26 : decode cX1_isTakenAt 26 = .ok (.iconst 0, 1) := by decide +kernel
theorem dX1_isTakenAt_27 : decode cX1_isTakenAt 27 = .ok (.ireturn, 1) := by decide +kernel
theorem dX2_init_0 : decode cX2_init 0 = .ok (.aload_n 0, 1) := by decide +kernel
theorem dX2_init_1 : decode cX2_init 1 = .ok (.invokespecial 3, 3) := by decide +kernel
theorem dX2_init_4 : decode cX2_init 4 = .ok (.aload_n 0, 1) := by decide +kernel
theorem dX2_init_5 : decode cX2_init 5 = .ok (.bipush 9, 2) := by decide +kernel
theorem dX2_init_7 : decode cX2_init 7 = .ok (.newarray .int, 2) := by decide +kernel
theorem dX2_init_9 : decode cX2_init 9 = .ok (.putfield 9, 3) := by decide +kernel
theorem dX2_init_12 : decode cX2_init 12 = .ok (.aload_n 0, 1) := by decide +kernel
theorem dX2_init_13 : decode cX2_init 13 = .ok (.bipush 10, 2) := by decide +kernel
theorem dX2_init_15 : decode cX2_init 15 = .ok (.bipush 10, 2) := by decide +kernel
theorem dX2_init_17 : decode cX2_init 17 = .ok (.multianewarray 15 2, 4) := by decide +kernel
theorem dX2_init_21 : decode cX2_init 21 = .ok (.putfield 17, 3) := by decide +kernel
theorem dX2_init_24 : decode cX2_init 24 = .ok (.aload_n 0, 1) := by decide +kernel
theorem dX2_init_25 : decode cX2_init 25 = .ok (.sipush 4608, 3) := by decide +kernel
theorem dX2_init_28 : decode cX2_init 28 = .ok (.newarray .int, 2) := by decide +kernel
theorem dX2_init_30 : decode cX2_init 30 = .ok (.putfield 20, 3) := by decide +kernel
theorem dX2_init_33 : decode cX2_init 33 = .ok (.aload_n 0, 1) := by decide +kernel
theorem dX2_init_34 : decode cX2_init 34 = .ok (.aload_n 1, 1) := by decide +kernel
theorem dX2_init_35 : decode cX2_init 35 = .ok (.putfield 23, 3) := by decide +kernel
theorem dX2_init_38 : decode cX2_init 38 = .ok (.return_, 1) := by decide +kernel
theorem dX2_leastLength_0 : decode cX2_leastLength 0 = .ok (.aload_n 0, 1) := by decide +kernel
theorem dX2_leastLength_1 : decode cX2_leastLength 1 = .ok (.iload_n 1, 1) := by decide +kernel
theorem dX2_leastLength_2 : decode cX2_leastLength 2 = .ok (.invokevirtual 27, 3) := by decide +kernel
theorem dX2_leastLength_5 : decode cX2_leastLength 5 = .ok (.aload_n 0, 1) := by decide +kernel
theorem dX2_leastLength_6 : decode cX2_leastLength 6 = .ok (.invokevirtual 31, 3) := by decide +kernel
theorem dX2_leastLength_9 : decode cX2_leastLength 9 = .ok (.aload_n 0, 1) := by decide +kernel
theorem dX2_leastLength_10 : decode cX2_leastLength 10 = .ok (.bipush 9, 2) := by decide +kernel
theorem dX2_leastLength_12 : decode cX2_leastLength 12 = .ok (.aload_n 0, 1) := by decide +kernel
theorem dX2_leastLength_13 : decode cX2_leastLength 13 = .ok (.invokevirtual 34, 3) := by decide +kernel
theorem dX2_leastLength_16 : decode cX2_leastLength 16 = .ok (.invokevirtual 38, 3) := by decide +kernel
theorem dX2_leastLength_19 : decode cX2_leastLength 19 = .ok (.ireturn, 1) := by decide +kernel
theorem dX2_bestRoute_0 : decode cX2_bestRoute 0 = .ok (.aload_n 0, 1) := by decide +kernel
theorem dX2_bestRoute_1 : decode cX2_bestRoute 1 = .ok (.iload_n 1, 1) := by decide +kernel
theorem dX2_bestRoute_2 : decode cX2_bestRoute 2 = .ok (.invokevirtual 27, 3) := by decide +kernel
theorem dX2_bestRoute_5 : decode cX2_bestRoute 5 = .ok (.aload_n 0, 1) := by decide +kernel
theorem dX2_bestRoute_6 : decode cX2_bestRoute 6 = .ok (.invokevirtual 31, 3) := by decide +kernel
theorem dX2_bestRoute_9 : decode cX2_bestRoute 9 = .ok (.aload_n 0, 1) := by decide +kernel
theorem dX2_bestRoute_10 : decode cX2_bestRoute 10 = .ok (.getfield 42, 3) := by decide +kernel
theorem dX2_bestRoute_13 : decode cX2_bestRoute 13 = .ok (.newarray .int, 2) := by decide +kernel
theorem dX2_bestRoute_15 : decode cX2_bestRoute 15 = .ok (.astore_n 2, 1) := by decide +kernel
theorem dX2_bestRoute_16 : decode cX2_bestRoute 16 = .ok (.bipush 9, 2) := by decide +kernel
theorem dX2_bestRoute_18 : decode cX2_bestRoute 18 = .ok (.istore_n 3, 1) := by decide +kernel
theorem dX2_bestRoute_19 : decode cX2_bestRoute 19 = .ok (.aload_n 0, 1) := by decide +kernel
theorem dX2_bestRoute_20 : decode cX2_bestRoute 20 = .ok (.invokevirtual 34, 3) := by decide +kernel
theorem dX2_bestRoute_23 : decode cX2_bestRoute 23 = .ok (.istore 4, 2) := by decide +kernel
theorem dX2_bestRoute_25 : decode cX2_bestRoute 25 = .ok (.iconst 0, 1) := by decide +kernel
theorem dX2_bestRoute_26 : decode cX2_bestRoute 26 = .ok (.istore 5, 2) := by decide +kernel
theorem dX2_bestRoute_28 : decode cX2_bestRoute 28 = .ok (.iload 5, 2) := by decide +kernel
theorem dX2_bestRoute_30 : decode cX2_bestRoute 30 = .ok (.aload_n 0, 1) := by decide +kernel
theorem dX2_bestRoute_31 : decode cX2_bestRoute 31 = .ok (.getfield 42, 3) := by decide +kernel
theorem dX2_bestRoute_34 : decode cX2_bestRoute 34 = .ok (.if_icmp .ge 35, 3) := by decide +kernel
theorem dX2_bestRoute_37 : decode cX2_bestRoute 37 = .ok (.aload_n 0, 1) := by decide +kernel
theorem dX2_bestRoute_38 : decode cX2_bestRoute 38 = .ok (.iload_n 3, 1) := by decide +kernel
theorem dX2_bestRoute_39 : decode cX2_bestRoute 39 = .ok (.iload 4, 2) := by decide +kernel
theorem dX2_bestRoute_41 : decode cX2_bestRoute 41 = .ok (.invokevirtual 46, 3) := by decide +kernel
theorem dX2_bestRoute_44 : decode cX2_bestRoute 44 = .ok (.istore_n 3, 1) := by decide +kernel
theorem dX2_bestRoute_45 : decode cX2_bestRoute 45 = .ok (.iload 4, 2) := by decide +kernel
theorem dX2_bestRoute_47 : decode cX2_bestRoute 47 = .ok (.iconst 1, 1) := by decide +kernel
theorem dX2_bestRoute_48 : decode cX2_bestRoute 48 = .ok (.iload_n 3, 1) := by decide +kernel
theorem dX2_bestRoute_49 : decode cX2_bestRoute 49 = .ok (.ishl, 1) := by decide +kernel
theorem dX2_bestRoute_50 : decode cX2_bestRoute 50 = .ok (.ixor, 1) := by decide +kernel
theorem dX2_bestRoute_51 : decode cX2_bestRoute 51 = .ok (.istore 4, 2) := by decide +kernel
theorem dX2_bestRoute_53 : decode cX2_bestRoute 53 = .ok (.aload_n 2, 1) := by decide +kernel
theorem dX2_bestRoute_54 : decode cX2_bestRoute 54 = .ok (.iload 5, 2) := by decide +kernel
theorem dX2_bestRoute_56 : decode cX2_bestRoute 56 = .ok (.aload_n 0, 1) := by decide +kernel
theorem dX2_bestRoute_57 : decode cX2_bestRoute 57 = .ok (.getfield 9, 3) := by decide +kernel
theorem dX2_bestRoute_60 : decode cX2_bestRoute 60 = .ok (.iload_n 3, 1) := by decide +kernel
theorem dX2_bestRoute_61 : decode cX2_bestRoute 61 = .ok (.iaload, 1) := by decide +kernel
theorem dX2_bestRoute_62 : decode cX2_bestRoute 62 = .ok (.iastore, 1) := by decide +kernel
theorem dX2_bestRoute_63 : decode cX2_bestRoute 63 = .ok (.iinc 5 1, 3) := by decide +kernel
theorem dX2_bestRoute_66 : decode cX2_bestRoute 66 = .ok (.goto (-38), 3) := by decide +kernel
theorem dX2_bestRoute_69 : decode cX2_bestRoute 69 = .ok (.aload_n 2, 1) := by decide +kernel
theorem dX2_bestRoute_70 : decode cX2_bestRoute 70 = .ok (.areturn, 1) := by decide +kernel
theorem dX2_leastByTrying_0 : decode cX2_leastByTrying 0 = .ok (.aload_n 0, 1) := by decide +kernel
theorem dX2_leastByTrying_1 : decode cX2_leastByTrying 1 = .ok (.iload_n 1, 1) := by decide +kernel
theorem dX2_leastByTrying_2 : decode cX2_leastByTrying 2 = .ok (.invokevirtual 27, 3) := by decide +kernel
theorem dX2_leastByTrying_5 : decode cX2_leastByTrying 5 = .ok (.aload_n 0, 1) := by decide +kernel
theorem dX2_leastByTrying_6 : decode cX2_leastByTrying 6 = .ok (.bipush 9, 2) := by decide +kernel
theorem dX2_leastByTrying_8 : decode cX2_leastByTrying 8 = .ok (.aload_n 0, 1) := by decide +kernel
theorem dX2_leastByTrying_9 : decode cX2_leastByTrying 9 = .ok (.invokevirtual 34, 3) := by decide +kernel
theorem dX2_leastByTrying_12 : decode cX2_leastByTrying 12 = .ok (.iconst 0, 1) := by decide +kernel
theorem dX2_leastByTrying_13 : decode cX2_leastByTrying 13 = .ok (.ldc 49, 2) := by decide +kernel
theorem dX2_leastByTrying_15 : decode cX2_leastByTrying 15 = .ok (.iconst 0, 1) := by decide +kernel
theorem dX2_leastByTrying_16 : decode cX2_leastByTrying 16 = .ok (.invokevirtual 50, 3) := by decide +kernel
theorem dX2_leastByTrying_19 : decode cX2_leastByTrying 19 = .ok (.ireturn, 1) := by decide +kernel
theorem dX2_throughAisles_0 : decode cX2_throughAisles 0 = .ok (.aload_n 0, 1) := by decide +kernel
theorem dX2_throughAisles_1 : decode cX2_throughAisles 1 = .ok (.iload_n 1, 1) := by decide +kernel
theorem dX2_throughAisles_2 : decode cX2_throughAisles 2 = .ok (.invokevirtual 27, 3) := by decide +kernel
theorem dX2_throughAisles_5 : decode cX2_throughAisles 5 = .ok (.aload_n 0, 1) := by decide +kernel
theorem dX2_throughAisles_6 : decode cX2_throughAisles 6 = .ok (.getfield 42, 3) := by decide +kernel
theorem dX2_throughAisles_9 : decode cX2_throughAisles 9 = .ok (.ifCond .ne 5, 3) := by decide +kernel
theorem dX2_throughAisles_12 : decode cX2_throughAisles 12 = .ok (.iconst 0, 1) := by decide +kernel
theorem dX2_throughAisles_13 : decode cX2_throughAisles 13 = .ok (.ireturn, 1) := by decide +kernel
theorem dX2_throughAisles_14 : decode cX2_throughAisles 14 = .ok (.aload_n 0, 1) := by decide +kernel
theorem dX2_throughAisles_15 : decode cX2_throughAisles 15 = .ok (.getfield 9, 3) := by decide +kernel
theorem dX2_throughAisles_18 : decode cX2_throughAisles 18 = .ok (.aload_n 0, 1) := by decide +kernel
theorem dX2_throughAisles_19 : decode cX2_throughAisles 19 = .ok (.getfield 42, 3) := by decide +kernel
theorem dX2_throughAisles_22 : decode cX2_throughAisles 22 = .ok (.iconst 1, 1) := by decide +kernel
theorem dX2_throughAisles_23 : decode cX2_throughAisles 23 = .ok (.isub, 1) := by decide +kernel
theorem dX2_throughAisles_24 : decode cX2_throughAisles 24 = .ok (.iaload, 1) := by decide +kernel
theorem dX2_throughAisles_25 : decode cX2_throughAisles 25 = .ok (.istore_n 2, 1) := by decide +kernel
theorem dX2_throughAisles_26 : decode cX2_throughAisles 26 = .ok (.aload_n 0, 1) := by decide +kernel
theorem dX2_throughAisles_27 : decode cX2_throughAisles 27 = .ok (.invokevirtual 54, 3) := by decide +kernel
theorem dX2_throughAisles_30 : decode cX2_throughAisles 30 = .ok (.iconst 1, 1) := by decide +kernel
theorem dX2_throughAisles_31 : decode cX2_throughAisles 31 = .ok (.isub, 1) := by decide +kernel
theorem dX2_throughAisles_32 : decode cX2_throughAisles 32 = .ok (.istore_n 3, 1) := by decide +kernel
theorem dX2_throughAisles_33 : decode cX2_throughAisles 33 = .ok (.iload_n 3, 1) := by decide +kernel
theorem dX2_throughAisles_34 : decode cX2_throughAisles 34 = .ok (.iconst 2, 1) := by decide +kernel
theorem dX2_throughAisles_35 : decode cX2_throughAisles 35 = .ok (.irem, 1) := by decide +kernel
theorem dX2_throughAisles_36 : decode cX2_throughAisles 36 = .ok (.ifCond .ne 12, 3) := by decide +kernel
theorem dX2_throughAisles_39 : decode cX2_throughAisles 39 = .ok (.iconst 2, 1) := by decide +kernel
theorem dX2_throughAisles_40 : decode cX2_throughAisles 40 = .ok (.iload_n 2, 1) := by decide +kernel
theorem dX2_throughAisles_41 : decode cX2_throughAisles 41 = .ok (.bipush 100, 2) := by decide +kernel
theorem dX2_throughAisles_43 : decode cX2_throughAisles 43 = .ok (.irem, 1) := by decide +kernel
theorem dX2_throughAisles_44 : decode cX2_throughAisles 44 = .ok (.imul, 1) := by decide +kernel
theorem dX2_throughAisles_45 : decode cX2_throughAisles 45 = .ok (.goto 10, 3) := by decide +kernel
theorem dX2_throughAisles_48 : decode cX2_throughAisles 48 = .ok (.aload_n 0, 1) := by decide +kernel
theorem dX2_throughAisles_49 : decode cX2_throughAisles 49 = .ok (.getfield 23, 3) := by decide +kernel
theorem dX2_throughAisles_52 : decode cX2_throughAisles 52 = .ok (.invokevirtual 57, 3) := by decide +kernel
theorem dX2_throughAisles_55 : decode cX2_throughAisles 55 = .ok (.istore 4, 2) := by decide +kernel
theorem dX2_throughAisles_57 : decode cX2_throughAisles 57 = .ok (.iconst 2, 1) := by decide +kernel
theorem dX2_throughAisles_58 : decode cX2_throughAisles 58 = .ok (.aload_n 0, 1) := by decide +kernel
theorem dX2_throughAisles_59 : decode cX2_throughAisles 59 = .ok (.getfield 23, 3) := by decide +kernel
theorem dX2_throughAisles_62 : decode cX2_throughAisles 62 = .ok (.getfield 62, 3) := by decide +kernel
theorem dX2_throughAisles_65 : decode cX2_throughAisles 65 = .ok (.imul, 1) := by decide +kernel
theorem dX2_throughAisles_66 : decode cX2_throughAisles 66 = .ok (.iload_n 2, 1) := by decide +kernel
theorem dX2_throughAisles_67 : decode cX2_throughAisles 67 = .ok (.bipush 100, 2) := by decide +kernel
theorem dX2_throughAisles_69 : decode cX2_throughAisles 69 = .ok (.idiv, 1) := by decide +kernel
theorem dX2_throughAisles_70 : decode cX2_throughAisles 70 = .ok (.imul, 1) := by decide +kernel
theorem dX2_throughAisles_71 : decode cX2_throughAisles 71 = .ok (.istore 5, 2) := by decide +kernel
theorem dX2_throughAisles_73 : decode cX2_throughAisles 73 = .ok (.iload 5, 2) := by decide +kernel
theorem dX2_throughAisles_75 : decode cX2_throughAisles 75 = .ok (.iload_n 3, 1) := by decide +kernel
theorem dX2_throughAisles_76 : decode cX2_throughAisles 76 = .ok (.aload_n 0, 1) := by decide +kernel
theorem dX2_throughAisles_77 : decode cX2_throughAisles 77 = .ok (.getfield 23, 3) := by decide +kernel
theorem dX2_throughAisles_80 : decode cX2_throughAisles 80 = .ok (.invokevirtual 57, 3) := by decide +kernel
theorem dX2_throughAisles_83 : decode cX2_throughAisles 83 = .ok (.imul, 1) := by decide +kernel
theorem dX2_throughAisles_84 : decode cX2_throughAisles 84 = .ok (.iadd, 1) := by decide +kernel
theorem dX2_throughAisles_85 : decode cX2_throughAisles 85 = .ok (.iload 4, 2) := by decide +kernel
theorem dX2_throughAisles_87 : decode cX2_throughAisles 87 = .ok (.iadd, 1) := by decide +kernel
theorem dX2_throughAisles_88 : decode cX2_throughAisles 88 = .ok (.ireturn, 1) := by decide +kernel
theorem dX2_everyPlace_0 : decode cX2_everyPlace 0 = .ok (.iconst 1, 1) := by decide +kernel
theorem dX2_everyPlace_1 : decode cX2_everyPlace 1 = .ok (.aload_n 0, 1) := by decide +kernel
theorem dX2_everyPlace_2 : decode cX2_everyPlace 2 = .ok (.getfield 42, 3) := by decide +kernel
theorem dX2_everyPlace_5 : decode cX2_everyPlace 5 = .ok (.ishl, 1) := by decide +kernel
theorem dX2_everyPlace_6 : decode cX2_everyPlace 6 = .ok (.iconst 1, 1) := by decide +kernel
theorem dX2_everyPlace_7 : decode cX2_everyPlace 7 = .ok (.isub, 1) := by decide +kernel
theorem dX2_everyPlace_8 : decode cX2_everyPlace 8 = .ok (.ireturn, 1) := by decide +kernel
theorem dX2_countAisles_0 : decode cX2_countAisles 0 = .ok (.iconst 0, 1) := by decide +kernel
theorem dX2_countAisles_1 : decode cX2_countAisles 1 = .ok (.istore_n 1, 1) := by decide +kernel
theorem dX2_countAisles_2 : decode cX2_countAisles 2 = .ok (.iconst (-1), 1) := by decide +kernel
theorem dX2_countAisles_3 : decode cX2_countAisles 3 = .ok (.istore_n 2, 1) := by decide +kernel
theorem dX2_countAisles_4 : decode cX2_countAisles 4 = .ok (.iconst 0, 1) := by decide +kernel
theorem dX2_countAisles_5 : decode cX2_countAisles 5 = .ok (.istore_n 3, 1) := by decide +kernel
theorem dX2_countAisles_6 : decode cX2_countAisles 6 = .ok (.iload_n 3, 1) := by decide +kernel
theorem dX2_countAisles_7 : decode cX2_countAisles 7 = .ok (.aload_n 0, 1) := by decide +kernel
theorem dX2_countAisles_8 : decode cX2_countAisles 8 = .ok (.getfield 42, 3) := by decide +kernel
theorem dX2_countAisles_11 : decode cX2_countAisles 11 = .ok (.if_icmp .ge 32, 3) := by decide +kernel
theorem dX2_countAisles_14 : decode cX2_countAisles 14 = .ok (.aload_n 0, 1) := by decide +kernel
theorem dX2_countAisles_15 : decode cX2_countAisles 15 = .ok (.getfield 9, 3) := by decide +kernel
theorem dX2_countAisles_18 : decode cX2_countAisles 18 = .ok (.iload_n 3, 1) := by decide +kernel
theorem dX2_countAisles_19 : decode cX2_countAisles 19 = .ok (.iaload, 1) := by decide +kernel
theorem dX2_countAisles_20 : decode cX2_countAisles 20 = .ok (.bipush 100, 2) := by decide +kernel
theorem dX2_countAisles_22 : decode cX2_countAisles 22 = .ok (.idiv, 1) := by decide +kernel
theorem dX2_countAisles_23 : decode cX2_countAisles 23 = .ok (.istore 4, 2) := by decide +kernel
theorem dX2_countAisles_25 : decode cX2_countAisles 25 = .ok (.iload 4, 2) := by decide +kernel
theorem dX2_countAisles_27 : decode cX2_countAisles 27 = .ok (.iload_n 2, 1) := by decide +kernel
theorem dX2_countAisles_28 : decode cX2_countAisles 28 = .ok (.if_icmp .eq 6, 3) := by decide +kernel
theorem dX2_countAisles_31 : decode cX2_countAisles 31 = .ok (.iinc 1 1, 3) := by decide +kernel
theorem dX2_countAisles_34 : decode cX2_countAisles 34 = .ok (.iload 4, 2) := by decide +kernel
theorem dX2_countAisles_36 : decode cX2_countAisles 36 = .ok (.istore_n 2, 1) := by decide +kernel
theorem dX2_countAisles_37 : decode cX2_countAisles 37 = .ok (.iinc 3 1, 3) := by decide +kernel
theorem dX2_countAisles_40 : decode cX2_countAisles 40 = .ok (.goto (-34), 3) := by decide +kernel
theorem dX2_countAisles_43 : decode cX2_countAisles 43 = .ok (.iload_n 1, 1) := by decide +kernel
theorem dX2_countAisles_44 : decode cX2_countAisles 44 = .ok (.ireturn, 1) := by decide +kernel
theorem dX2_gather_0 : decode cX2_gather 0 = .ok (.aload_n 0, 1) := by decide +kernel
theorem dX2_gather_1 : decode cX2_gather 1 = .ok (.iconst 0, 1) := by decide +kernel
theorem dX2_gather_2 : decode cX2_gather 2 = .ok (.putfield 42, 3) := by decide +kernel
theorem dX2_gather_5 : decode cX2_gather 5 = .ok (.iconst 0, 1) := by decide +kernel
theorem dX2_gather_6 : decode cX2_gather 6 = .ok (.istore_n 2, 1) := by decide +kernel
theorem dX2_gather_7 : decode cX2_gather 7 = .ok (.iload_n 2, 1) := by decide +kernel
theorem dX2_gather_8 : decode cX2_gather 8 = .ok (.bipush 20, 2) := by decide +kernel
theorem dX2_gather_10 : decode cX2_gather 10 = .ok (.if_icmp .ge 39, 3) := by decide +kernel
theorem dX2_gather_13 : decode cX2_gather 13 = .ok (.aload_n 0, 1) := by decide +kernel
theorem dX2_gather_14 : decode cX2_gather 14 = .ok (.getfield 42, 3) := by decide +kernel
theorem dX2_gather_17 : decode cX2_gather 17 = .ok (.bipush 9, 2) := by decide +kernel
theorem dX2_gather_19 : decode cX2_gather 19 = .ok (.if_icmp .ge 30, 3) := by decide +kernel
theorem dX2_gather_22 : decode cX2_gather 22 = .ok (.iload_n 1, 1) := by decide +kernel
theorem dX2_gather_23 : decode cX2_gather 23 = .ok (.iload_n 2, 1) := by decide +kernel
theorem dX2_gather_24 : decode cX2_gather 24 = .ok (.invokestatic 65, 3) := by decide +kernel
theorem dX2_gather_27 : decode cX2_gather 27 = .ok (.ifCond .eq 16, 3) := by decide +kernel
theorem dX2_gather_30 : decode cX2_gather 30 = .ok (.aload_n 0, 1) := by decide +kernel
theorem dX2_gather_31 : decode cX2_gather 31 = .ok (.aload_n 0, 1) := by decide +kernel
theorem dX2_gather_32 : decode cX2_gather 32 = .ok (.getfield 23, 3) := by decide +kernel
theorem dX2_gather_35 : decode cX2_gather 35 = .ok (.getfield 69, 3) := by decide +kernel
theorem dX2_gather_38 : decode cX2_gather 38 = .ok (.iload_n 2, 1) := by decide +kernel
theorem dX2_gather_39 : decode cX2_gather 39 = .ok (.iaload, 1) := by decide +kernel
theorem dX2_gather_40 : decode cX2_gather 40 = .ok (.invokevirtual 70, 3) := by decide +kernel
theorem dX2_gather_43 : decode cX2_gather 43 = .ok (.iinc 2 1, 3) := by decide +kernel
theorem dX2_gather_46 : decode cX2_gather 46 = .ok (.goto (-39), 3) := by decide +kernel
theorem dX2_gather_49 : decode cX2_gather 49 = .ok (.iconst 0, 1) := by decide +kernel
theorem dX2_gather_50 : decode cX2_gather 50 = .ok (.istore_n 2, 1) := by decide +kernel
theorem dX2_gather_51 : decode cX2_gather 51 = .ok (.iload_n 2, 1) := by decide +kernel
theorem dX2_gather_52 : decode cX2_gather 52 = .ok (.aload_n 0, 1) := by decide +kernel
theorem dX2_gather_53 : decode cX2_gather 53 = .ok (.getfield 42, 3) := by decide +kernel
theorem dX2_gather_56 : decode cX2_gather 56 = .ok (.if_icmp .ge 91, 3) := by decide +kernel
theorem dX2_gather_59 : decode cX2_gather 59 = .ok (.aload_n 0, 1) := by decide +kernel
theorem dX2_gather_60 : decode cX2_gather 60 = .ok (.getfield 23, 3) := by decide +kernel
theorem dX2_gather_63 : decode cX2_gather 63 = .ok (.iconst 0, 1) := by decide +kernel
theorem dX2_gather_64 : decode cX2_gather 64 = .ok (.aload_n 0, 1) := by decide +kernel
theorem dX2_gather_65 : decode cX2_gather 65 = .ok (.getfield 9, 3) := by decide +kernel
theorem dX2_gather_68 : decode cX2_gather 68 = .ok (.iload_n 2, 1) := by decide +kernel
theorem dX2_gather_69 : decode cX2_gather 69 = .ok (.iaload, 1) := by decide +kernel
theorem dX2_gather_70 : decode cX2_gather 70 = .ok (.invokevirtual 73, 3) := by decide +kernel
theorem dX2_gather_73 : decode cX2_gather 73 = .ok (.istore_n 3, 1) := by decide +kernel
theorem dX2_gather_74 : decode cX2_gather 74 = .ok (.aload_n 0, 1) := by decide +kernel
theorem dX2_gather_75 : decode cX2_gather 75 = .ok (.getfield 17, 3) := by decide +kernel
theorem dX2_gather_78 : decode cX2_gather 78 = .ok (.iload_n 2, 1) := by decide +kernel
theorem dX2_gather_79 : decode cX2_gather 79 = .ok (.aaload, 1) := by decide +kernel
theorem dX2_gather_80 : decode cX2_gather 80 = .ok (.bipush 9, 2) := by decide +kernel
theorem dX2_gather_82 : decode cX2_gather 82 = .ok (.iload_n 3, 1) := by decide +kernel
theorem dX2_gather_83 : decode cX2_gather 83 = .ok (.iastore, 1) := by decide +kernel
theorem dX2_gather_84 : decode cX2_gather 84 = .ok (.aload_n 0, 1) := by decide +kernel
theorem dX2_gather_85 : decode cX2_gather 85 = .ok (.getfield 17, 3) := by decide +kernel
theorem dX2_gather_88 : decode cX2_gather 88 = .ok (.bipush 9, 2) := by decide +kernel
theorem dX2_gather_90 : decode cX2_gather 90 = .ok (.aaload, 1) := by decide +kernel
theorem dX2_gather_91 : decode cX2_gather 91 = .ok (.iload_n 2, 1) := by decide +kernel
theorem dX2_gather_92 : decode cX2_gather 92 = .ok (.iload_n 3, 1) := by decide +kernel
theorem dX2_gather_93 : decode cX2_gather 93 = .ok (.iastore, 1) := by decide +kernel
theorem dX2_gather_94 : decode cX2_gather 94 = .ok (.iconst 0, 1) := by decide +kernel
theorem dX2_gather_95 : decode cX2_gather 95 = .ok (.istore 4, 2) := by decide +kernel
theorem dX2_gather_97 : decode cX2_gather 97 = .ok (.iload 4, 2) := by decide +kernel
theorem dX2_gather_99 : decode cX2_gather 99 = .ok (.aload_n 0, 1) := by decide +kernel
theorem dX2_gather_100 : decode cX2_gather 100 = .ok (.getfield 42, 3) := by decide +kernel
theorem dX2_gather_103 : decode cX2_gather 103 = .ok (.if_icmp .ge 38, 3) := by decide +kernel
theorem dX2_gather_106 : decode cX2_gather 106 = .ok (.aload_n 0, 1) := by decide +kernel
theorem dX2_gather_107 : decode cX2_gather 107 = .ok (.getfield 17, 3) := by decide +kernel
theorem dX2_gather_110 : decode cX2_gather 110 = .ok (.iload_n 2, 1) := by decide +kernel
theorem dX2_gather_111 : decode cX2_gather 111 = .ok (.aaload, 1) := by decide +kernel
theorem dX2_gather_112 : decode cX2_gather 112 = .ok (.iload 4, 2) := by decide +kernel
theorem dX2_gather_114 : decode cX2_gather 114 = .ok (.aload_n 0, 1) := by decide +kernel
theorem dX2_gather_115 : decode cX2_gather 115 = .ok (.getfield 23, 3) := by decide +kernel
theorem dX2_gather_118 : decode cX2_gather 118 = .ok (.aload_n 0, 1) := by decide +kernel
theorem dX2_gather_119 : decode cX2_gather 119 = .ok (.getfield 9, 3) := by decide +kernel
theorem dX2_gather_122 : decode cX2_gather 122 = .ok (.iload_n 2, 1) := by decide +kernel
theorem dX2_gather_123 : decode cX2_gather 123 = .ok (.iaload, 1) := by decide +kernel
theorem dX2_gather_124 : decode cX2_gather 124 = .ok (.aload_n 0, 1) := by decide +kernel
theorem dX2_gather_125 : decode cX2_gather 125 = .ok (.getfield 9, 3) := by decide +kernel
theorem dX2_gather_128 : decode cX2_gather 128 = .ok (.iload 4, 2) := by decide +kernel
theorem dX2_gather_130 : decode cX2_gather 130 = .ok (.iaload, 1) := by decide +kernel
theorem dX2_gather_131 : decode cX2_gather 131 = .ok (.invokevirtual 73, 3) := by decide +kernel
theorem dX2_gather_134 : decode cX2_gather 134 = .ok (.iastore, 1) := by decide +kernel
theorem dX2_gather_135 : decode cX2_gather 135 = .ok (.iinc 4 1, 3) := by decide +kernel
theorem dX2_gather_138 : decode cX2_gather 138 = .ok (.goto (-41), 3) := by decide +kernel
theorem dX2_gather_141 : decode cX2_gather 141 = .ok (.iinc 2 1, 3) := by decide +kernel
theorem dX2_gather_144 : decode cX2_gather 144 = .ok (.goto (-93), 3) := by decide +kernel
theorem dX2_gather_147 : decode cX2_gather 147 = .ok (.return_, 1) := by decide +kernel
theorem dX2_insertPlace_0 : decode cX2_insertPlace 0 = .ok (.aload_n 0, 1) := by decide +kernel
theorem dX2_insertPlace_1 : decode cX2_insertPlace 1 = .ok (.getfield 42, 3) := by decide +kernel
theorem dX2_insertPlace_4 : decode cX2_insertPlace 4 = .ok (.istore_n 2, 1) := by decide +kernel
theorem dX2_insertPlace_5 : decode cX2_insertPlace 5 = .ok (.iload_n 2, 1) := by decide +kernel
theorem dX2_insertPlace_6 : decode cX2_insertPlace 6 = .ok (.ifCond .le 35, 3) := by decide +kernel
theorem dX2_insertPlace_9 : decode cX2_insertPlace 9 = .ok (.aload_n 0, 1) := by decide +kernel
theorem dX2_insertPlace_10 : decode cX2_insertPlace 10 = .ok (.getfield 9, 3) := by decide +kernel
theorem dX2_insertPlace_13 : decode cX2_insertPlace 13 = .ok (.iload_n 2, 1) := by decide +kernel
theorem dX2_insertPlace_14 : decode cX2_insertPlace 14 = .ok (.iconst 1, 1) := by decide +kernel
theorem dX2_insertPlace_15 : decode cX2_insertPlace 15 = .ok (.isub, 1) := by decide +kernel
theorem dX2_insertPlace_16 : decode cX2_insertPlace 16 = .ok (.iaload, 1) := by decide +kernel
theorem dX2_insertPlace_17 : decode cX2_insertPlace 17 = .ok (.iload_n 1, 1) := by decide +kernel
theorem dX2_insertPlace_18 : decode cX2_insertPlace 18 = .ok (.if_icmp .le 23, 3) := by decide +kernel
theorem dX2_insertPlace_21 : decode cX2_insertPlace 21 = .ok (.aload_n 0, 1) := by decide +kernel
theorem dX2_insertPlace_22 : decode cX2_insertPlace 22 = .ok (.getfield 9, 3) := by decide +kernel
theorem dX2_insertPlace_25 : decode cX2_insertPlace 25 = .ok (.iload_n 2, 1) := by decide +kernel
theorem dX2_insertPlace_26 : decode cX2_insertPlace 26 = .ok (.aload_n 0, 1) := by decide +kernel
theorem dX2_insertPlace_27 : decode cX2_insertPlace 27 = .ok (.getfield 9, 3) := by decide +kernel
theorem dX2_insertPlace_30 : decode cX2_insertPlace 30 = .ok (.iload_n 2, 1) := by decide +kernel
theorem dX2_insertPlace_31 : decode cX2_insertPlace 31 = .ok (.iconst 1, 1) := by decide +kernel
theorem dX2_insertPlace_32 : decode cX2_insertPlace 32 = .ok (.isub, 1) := by decide +kernel
theorem dX2_insertPlace_33 : decode cX2_insertPlace 33 = .ok (.iaload, 1) := by decide +kernel
theorem dX2_insertPlace_34 : decode cX2_insertPlace 34 = .ok (.iastore, 1) := by decide +kernel
theorem dX2_insertPlace_35 : decode cX2_insertPlace 35 = .ok (.iinc 2 (-1), 3) := by decide +kernel
theorem dX2_insertPlace_38 : decode cX2_insertPlace 38 = .ok (.goto (-33), 3) := by decide +kernel
theorem dX2_insertPlace_41 : decode cX2_insertPlace 41 = .ok (.aload_n 0, 1) := by decide +kernel
theorem dX2_insertPlace_42 : decode cX2_insertPlace 42 = .ok (.getfield 9, 3) := by decide +kernel
theorem dX2_insertPlace_45 : decode cX2_insertPlace 45 = .ok (.iload_n 2, 1) := by decide +kernel
theorem dX2_insertPlace_46 : decode cX2_insertPlace 46 = .ok (.iload_n 1, 1) := by decide +kernel
theorem dX2_insertPlace_47 : decode cX2_insertPlace 47 = .ok (.iastore, 1) := by decide +kernel
theorem dX2_insertPlace_48 : decode cX2_insertPlace 48 = .ok (.aload_n 0, 1) := by decide +kernel
theorem dX2_insertPlace_49 : decode cX2_insertPlace 49 = .ok (.dup, 1) := by decide +kernel
theorem dX2_insertPlace_50 : decode cX2_insertPlace 50 = .ok (.getfield 42, 3) := by decide +kernel
theorem dX2_insertPlace_53 : decode cX2_insertPlace 53 = .ok (.iconst 1, 1) := by decide +kernel
theorem dX2_insertPlace_54 : decode cX2_insertPlace 54 = .ok (.iadd, 1) := by decide +kernel
theorem dX2_insertPlace_55 : decode cX2_insertPlace 55 = .ok (.putfield 42, 3) := by decide +kernel
theorem dX2_insertPlace_58 : decode cX2_insertPlace 58 = .ok (.return_, 1) := by decide +kernel
theorem dX2_fillOnward_0 : decode cX2_fillOnward 0 = .ok (.iconst 1, 1) := by decide +kernel
theorem dX2_fillOnward_1 : decode cX2_fillOnward 1 = .ok (.aload_n 0, 1) := by decide +kernel
theorem dX2_fillOnward_2 : decode cX2_fillOnward 2 = .ok (.getfield 42, 3) := by decide +kernel
theorem dX2_fillOnward_5 : decode cX2_fillOnward 5 = .ok (.ishl, 1) := by decide +kernel
theorem dX2_fillOnward_6 : decode cX2_fillOnward 6 = .ok (.istore_n 1, 1) := by decide +kernel
theorem dX2_fillOnward_7 : decode cX2_fillOnward 7 = .ok (.iconst 0, 1) := by decide +kernel
theorem dX2_fillOnward_8 : decode cX2_fillOnward 8 = .ok (.istore_n 2, 1) := by decide +kernel
theorem dX2_fillOnward_9 : decode cX2_fillOnward 9 = .ok (.iload_n 2, 1) := by decide +kernel
theorem dX2_fillOnward_10 : decode cX2_fillOnward 10 = .ok (.iload_n 1, 1) := by decide +kernel
theorem dX2_fillOnward_11 : decode cX2_fillOnward 11 = .ok (.if_icmp .ge 50, 3) := by decide +kernel
theorem dX2_fillOnward_14 : decode cX2_fillOnward 14 = .ok (.iconst 0, 1) := by decide +kernel
theorem dX2_fillOnward_15 : decode cX2_fillOnward 15 = .ok (.istore_n 3, 1) := by decide +kernel
theorem dX2_fillOnward_16 : decode cX2_fillOnward 16 = .ok (.iload_n 3, 1) := by decide +kernel
theorem dX2_fillOnward_17 : decode cX2_fillOnward 17 = .ok (.aload_n 0, 1) := by decide +kernel
theorem dX2_fillOnward_18 : decode cX2_fillOnward 18 = .ok (.getfield 42, 3) := by decide +kernel
theorem dX2_fillOnward_21 : decode cX2_fillOnward 21 = .ok (.if_icmp .ge 34, 3) := by decide +kernel
theorem dX2_fillOnward_24 : decode cX2_fillOnward 24 = .ok (.iload_n 2, 1) := by decide +kernel
theorem dX2_fillOnward_25 : decode cX2_fillOnward 25 = .ok (.iload_n 3, 1) := by decide +kernel
theorem dX2_fillOnward_26 : decode cX2_fillOnward 26 = .ok (.invokestatic 65, 3) := by decide +kernel
theorem dX2_fillOnward_29 : decode cX2_fillOnward 29 = .ok (.ifCond .ne 20, 3) := by decide +kernel
theorem dX2_fillOnward_32 : decode cX2_fillOnward 32 = .ok (.aload_n 0, 1) := by decide +kernel
theorem dX2_fillOnward_33 : decode cX2_fillOnward 33 = .ok (.getfield 20, 3) := by decide +kernel
theorem dX2_fillOnward_36 : decode cX2_fillOnward 36 = .ok (.iload_n 2, 1) := by decide +kernel
theorem dX2_fillOnward_37 : decode cX2_fillOnward 37 = .ok (.bipush 9, 2) := by decide +kernel
theorem dX2_fillOnward_39 : decode cX2_fillOnward 39 = .ok (.imul, 1) := by decide +kernel
theorem dX2_fillOnward_40 : decode cX2_fillOnward 40 = .ok (.iload_n 3, 1) := by decide +kernel
theorem dX2_fillOnward_41 : decode cX2_fillOnward 41 = .ok (.iadd, 1) := by decide +kernel
theorem dX2_fillOnward_42 : decode cX2_fillOnward 42 = .ok (.aload_n 0, 1) := by decide +kernel
theorem dX2_fillOnward_43 : decode cX2_fillOnward 43 = .ok (.iload_n 3, 1) := by decide +kernel
theorem dX2_fillOnward_44 : decode cX2_fillOnward 44 = .ok (.iload_n 2, 1) := by decide +kernel
theorem dX2_fillOnward_45 : decode cX2_fillOnward 45 = .ok (.invokevirtual 38, 3) := by decide +kernel
theorem dX2_fillOnward_48 : decode cX2_fillOnward 48 = .ok (.iastore, 1) := by decide +kernel
theorem dX2_fillOnward_49 : decode cX2_fillOnward 49 = .ok (.iinc 3 1, 3) := by decide +kernel
theorem dX2_fillOnward_52 : decode cX2_fillOnward 52 = .ok (.goto (-36), 3) := by decide +kernel
theorem dX2_fillOnward_55 : decode cX2_fillOnward 55 = .ok (.iinc 2 1, 3) := by decide +kernel
theorem dX2_fillOnward_58 : decode cX2_fillOnward 58 = .ok (.goto (-49), 3) := by decide +kernel
theorem dX2_fillOnward_61 : decode cX2_fillOnward 61 = .ok (.return_, 1) := by decide +kernel
theorem dX2_leastOnward_0 : decode cX2_leastOnward 0 = .ok (.iload_n 2, 1) := by decide +kernel
theorem dX2_leastOnward_1 : decode cX2_leastOnward 1 = .ok (.ifCond .ne 13, 3) := by decide +kernel
theorem dX2_leastOnward_4 : decode cX2_leastOnward 4 = .ok (.aload_n 0, 1) := by decide +kernel
theorem dX2_leastOnward_5 : decode cX2_leastOnward 5 = .ok (.getfield 17, 3) := by decide +kernel
theorem dX2_leastOnward_8 : decode cX2_leastOnward 8 = .ok (.iload_n 1, 1) := by decide +kernel
theorem dX2_leastOnward_9 : decode cX2_leastOnward 9 = .ok (.aaload, 1) := by decide +kernel
theorem dX2_leastOnward_10 : decode cX2_leastOnward 10 = .ok (.bipush 9, 2) := by decide +kernel
theorem dX2_leastOnward_12 : decode cX2_leastOnward 12 = .ok (.iaload, 1) := by decide +kernel
theorem dX2_leastOnward_13 : decode cX2_leastOnward 13 = .ok (.ireturn, 1) := by decide +kernel
theorem dX2_leastOnward_14 : decode cX2_leastOnward 14 = .ok (.ldc 49, 2) := by decide +kernel
theorem dX2_leastOnward_16 : decode cX2_leastOnward 16 = .ok (.istore_n 3, 1) := by decide +kernel
theorem dX2_leastOnward_17 : decode cX2_leastOnward 17 = .ok (.iconst 0, 1) := by decide +kernel
theorem dX2_leastOnward_18 : decode cX2_leastOnward 18 = .ok (.istore 4, 2) := by decide +kernel
theorem dX2_leastOnward_20 : decode cX2_leastOnward 20 = .ok (.iload 4, 2) := by decide +kernel
theorem dX2_leastOnward_22 : decode cX2_leastOnward 22 = .ok (.aload_n 0, 1) := by decide +kernel
theorem dX2_leastOnward_23 : decode cX2_leastOnward 23 = .ok (.getfield 42, 3) := by decide +kernel
theorem dX2_leastOnward_26 : decode cX2_leastOnward 26 = .ok (.if_icmp .ge 31, 3) := by decide +kernel
theorem dX2_leastOnward_29 : decode cX2_leastOnward 29 = .ok (.iload_n 2, 1) := by decide +kernel
theorem dX2_leastOnward_30 : decode cX2_leastOnward 30 = .ok (.iload 4, 2) := by decide +kernel
theorem dX2_leastOnward_32 : decode cX2_leastOnward 32 = .ok (.invokestatic 65, 3) := by decide +kernel
theorem dX2_leastOnward_35 : decode cX2_leastOnward 35 = .ok (.ifCond .eq 16, 3) := by decide +kernel
theorem dX2_leastOnward_38 : decode cX2_leastOnward 38 = .ok (.iload_n 3, 1) := by decide +kernel
theorem dX2_leastOnward_39 : decode cX2_leastOnward 39 = .ok (.aload_n 0, 1) := by decide +kernel
theorem dX2_leastOnward_40 : decode cX2_leastOnward 40 = .ok (.iload_n 1, 1) := by decide +kernel
theorem dX2_leastOnward_41 : decode cX2_leastOnward 41 = .ok (.iload 4, 2) := by decide +kernel
theorem dX2_leastOnward_43 : decode cX2_leastOnward 43 = .ok (.iload_n 2, 1) := by decide +kernel
theorem dX2_leastOnward_44 : decode cX2_leastOnward 44 = .ok (.invokevirtual 76, 3) := by decide +kernel
theorem dX2_leastOnward_47 : decode cX2_leastOnward 47 = .ok (.invokestatic 80, 3) := by decide +kernel
theorem dX2_leastOnward_50 : decode cX2_leastOnward 50 = .ok (.istore_n 3, 1) := by decide +kernel
theorem dX2_leastOnward_51 : decode cX2_leastOnward 51 = .ok (.iinc 4 1, 3) := by decide +kernel
theorem dX2_leastOnward_54 : decode cX2_leastOnward 54 = .ok (.goto (-34), 3) := by decide +kernel
theorem dX2_leastOnward_57 : decode cX2_leastOnward 57 = .ok (.iload_n 3, 1) := by decide +kernel
theorem dX2_leastOnward_58 : decode cX2_leastOnward 58 = .ok (.ireturn, 1) := by decide +kernel
theorem dX2_lengthBy_0 : decode cX2_lengthBy 0 = .ok (.iload_n 3, 1) := by decide +kernel
theorem dX2_lengthBy_1 : decode cX2_lengthBy 1 = .ok (.iconst 1, 1) := by decide +kernel
theorem dX2_lengthBy_2 : decode cX2_lengthBy 2 = .ok (.iload_n 2, 1) := by decide +kernel
theorem dX2_lengthBy_3 : decode cX2_lengthBy 3 = .ok (.ishl, 1) := by decide +kernel
theorem dX2_lengthBy_4 : decode cX2_lengthBy 4 = .ok (.ixor, 1) := by decide +kernel
theorem dX2_lengthBy_5 : decode cX2_lengthBy 5 = .ok (.istore 4, 2) := by decide +kernel
theorem dX2_lengthBy_7 : decode cX2_lengthBy 7 = .ok (.aload_n 0, 1) := by decide +kernel
theorem dX2_lengthBy_8 : decode cX2_lengthBy 8 = .ok (.getfield 17, 3) := by decide +kernel
theorem dX2_lengthBy_11 : decode cX2_lengthBy 11 = .ok (.iload_n 1, 1) := by decide +kernel
theorem dX2_lengthBy_12 : decode cX2_lengthBy 12 = .ok (.aaload, 1) := by decide +kernel
theorem dX2_lengthBy_13 : decode cX2_lengthBy 13 = .ok (.iload_n 2, 1) := by decide +kernel
theorem dX2_lengthBy_14 : decode cX2_lengthBy 14 = .ok (.iaload, 1) := by decide +kernel
theorem dX2_lengthBy_15 : decode cX2_lengthBy 15 = .ok (.aload_n 0, 1) := by decide +kernel
theorem dX2_lengthBy_16 : decode cX2_lengthBy 16 = .ok (.getfield 20, 3) := by decide +kernel
theorem dX2_lengthBy_19 : decode cX2_lengthBy 19 = .ok (.iload 4, 2) := by decide +kernel
theorem dX2_lengthBy_21 : decode cX2_lengthBy 21 = .ok (.bipush 9, 2) := by decide +kernel
theorem dX2_lengthBy_23 : decode cX2_lengthBy 23 = .ok (.imul, 1) := by decide +kernel
theorem dX2_lengthBy_24 : decode cX2_lengthBy 24 = .ok (.iload_n 2, 1) := by decide +kernel
theorem dX2_lengthBy_25 : decode cX2_lengthBy 25 = .ok (.iadd, 1) := by decide +kernel
theorem dX2_lengthBy_26 : decode cX2_lengthBy 26 = .ok (.iaload, 1) := by decide +kernel
theorem dX2_lengthBy_27 : decode cX2_lengthBy 27 = .ok (.iadd, 1) := by decide +kernel
theorem dX2_lengthBy_28 : decode cX2_lengthBy 28 = .ok (.ireturn, 1) := by decide +kernel
theorem dX2_bestNext_0 : decode cX2_bestNext 0 = .ok (.ldc 49, 2) := by decide +kernel
theorem dX2_bestNext_2 : decode cX2_bestNext 2 = .ok (.istore_n 3, 1) := by decide +kernel
theorem dX2_bestNext_3 : decode cX2_bestNext 3 = .ok (.iconst 0, 1) := by decide +kernel
theorem dX2_bestNext_4 : decode cX2_bestNext 4 = .ok (.istore 4, 2) := by decide +kernel
theorem dX2_bestNext_6 : decode cX2_bestNext 6 = .ok (.iconst 0, 1) := by decide +kernel
theorem dX2_bestNext_7 : decode cX2_bestNext 7 = .ok (.istore 5, 2) := by decide +kernel
theorem dX2_bestNext_9 : decode cX2_bestNext 9 = .ok (.iload 5, 2) := by decide +kernel
theorem dX2_bestNext_11 : decode cX2_bestNext 11 = .ok (.aload_n 0, 1) := by decide +kernel
theorem dX2_bestNext_12 : decode cX2_bestNext 12 = .ok (.getfield 42, 3) := by decide +kernel
theorem dX2_bestNext_15 : decode cX2_bestNext 15 = .ok (.if_icmp .ge 43, 3) := by decide +kernel
theorem dX2_bestNext_18 : decode cX2_bestNext 18 = .ok (.iload_n 2, 1) := by decide +kernel
theorem dX2_bestNext_19 : decode cX2_bestNext 19 = .ok (.iload 5, 2) := by decide +kernel
theorem dX2_bestNext_21 : decode cX2_bestNext 21 = .ok (.invokestatic 65, 3) := by decide +kernel
theorem dX2_bestNext_24 : decode cX2_bestNext 24 = .ok (.ifCond .eq 28, 3) := by decide +kernel
theorem dX2_bestNext_27 : decode cX2_bestNext 27 = .ok (.aload_n 0, 1) := by decide +kernel
theorem dX2_bestNext_28 : decode cX2_bestNext 28 = .ok (.iload_n 1, 1) := by decide +kernel
theorem dX2_bestNext_29 : decode cX2_bestNext 29 = .ok (.iload 5, 2) := by decide +kernel
theorem dX2_bestNext_31 : decode cX2_bestNext 31 = .ok (.iload_n 2, 1) := by decide +kernel
theorem dX2_bestNext_32 : decode cX2_bestNext 32 = .ok (.invokevirtual 76, 3) := by decide +kernel
theorem dX2_bestNext_35 : decode cX2_bestNext 35 = .ok (.iload_n 3, 1) := by decide +kernel
theorem dX2_bestNext_36 : decode cX2_bestNext 36 = .ok (.if_icmp .ge 16, 3) := by decide +kernel
theorem dX2_bestNext_39 : decode cX2_bestNext 39 = .ok (.aload_n 0, 1) := by decide +kernel
theorem dX2_bestNext_40 : decode cX2_bestNext 40 = .ok (.iload_n 1, 1) := by decide +kernel
theorem dX2_bestNext_41 : decode cX2_bestNext 41 = .ok (.iload 5, 2) := by decide +kernel
theorem dX2_bestNext_43 : decode cX2_bestNext 43 = .ok (.iload_n 2, 1) := by decide +kernel
theorem dX2_bestNext_44 : decode cX2_bestNext 44 = .ok (.invokevirtual 76, 3) := by decide +kernel
theorem dX2_bestNext_47 : decode cX2_bestNext 47 = .ok (.istore_n 3, 1) := by decide +kernel
theorem dX2_bestNext_48 : decode cX2_bestNext 48 = .ok (.iload 5, 2) := by decide +kernel
theorem dX2_bestNext_50 : decode cX2_bestNext 50 = .ok (.istore 4, 2) := by decide +kernel
theorem dX2_bestNext_52 : decode cX2_bestNext 52 = .ok (.iinc 5 1, 3) := by decide +kernel
theorem dX2_bestNext_55 : decode cX2_bestNext 55 = .ok (.goto (-46), 3) := by decide +kernel
theorem dX2_bestNext_58 : decode cX2_bestNext 58 = .ok (.iload 4, 2) := by decide +kernel
theorem dX2_bestNext_60 : decode cX2_bestNext 60 = .ok (.ireturn, 1) := by decide +kernel
theorem dX2_tryFrom_0 : decode cX2_tryFrom 0 = .ok (.iload_n 2, 1) := by decide +kernel
theorem dX2_tryFrom_1 : decode cX2_tryFrom 1 = .ok (.ifCond .eq 10, 3) := by decide +kernel
theorem dX2_tryFrom_4 : decode cX2_tryFrom 4 = .ok (.iload 5, 2) := by decide +kernel
theorem dX2_tryFrom_6 : decode cX2_tryFrom 6 = .ok (.bipush 9, 2) := by decide +kernel
theorem dX2_tryFrom_8 : decode cX2_tryFrom 8 = .ok (.if_icmp .lt 20, 3) := by decide +kernel
theorem dX2_tryFrom_11 : decode cX2_tryFrom 11 = .ok (.iload 4, 2) := by decide +kernel
theorem dX2_tryFrom_13 : decode cX2_tryFrom 13 = .ok (.iload_n 3, 1) := by decide +kernel
theorem dX2_tryFrom_14 : decode cX2_tryFrom 14 = .ok (.aload_n 0, 1) := by decide +kernel
theorem dX2_tryFrom_15 : decode cX2_tryFrom 15 = .ok (.getfield 17, 3) := by decide +kernel
theorem dX2_tryFrom_18 : decode cX2_tryFrom 18 = .ok (.iload_n 1, 1) := by decide +kernel
theorem dX2_tryFrom_19 : decode cX2_tryFrom 19 = .ok (.aaload, 1) := by decide +kernel
theorem dX2_tryFrom_20 : decode cX2_tryFrom 20 = .ok (.bipush 9, 2) := by decide +kernel
theorem dX2_tryFrom_22 : decode cX2_tryFrom 22 = .ok (.iaload, 1) := by decide +kernel
theorem dX2_tryFrom_23 : decode cX2_tryFrom 23 = .ok (.iadd, 1) := by decide +kernel
theorem dX2_tryFrom_24 : decode cX2_tryFrom 24 = .ok (.invokestatic 80, 3) := by decide +kernel
theorem dX2_tryFrom_27 : decode cX2_tryFrom 27 = .ok (.ireturn, 1) := by decide +kernel
theorem dX2_tryFrom_28 : decode cX2_tryFrom 28 = .ok (.iload 4, 2) := by decide +kernel
theorem dX2_tryFrom_30 : decode cX2_tryFrom 30 = .ok (.istore 6, 2) := by decide +kernel
theorem dX2_tryFrom_32 : decode cX2_tryFrom 32 = .ok (.iconst 0, 1) := by decide +kernel
theorem dX2_tryFrom_33 : decode cX2_tryFrom 33 = .ok (.istore 7, 2) := by decide +kernel
theorem dX2_tryFrom_35 : decode cX2_tryFrom 35 = .ok (.iload 7, 2) := by decide +kernel
theorem dX2_tryFrom_37 : decode cX2_tryFrom 37 = .ok (.aload_n 0, 1) := by decide +kernel
theorem dX2_tryFrom_38 : decode cX2_tryFrom 38 = .ok (.getfield 42, 3) := by decide +kernel
theorem dX2_tryFrom_41 : decode cX2_tryFrom 41 = .ok (.if_icmp .ge 60, 3) := by decide +kernel
theorem dX2_tryFrom_44 : decode cX2_tryFrom 44 = .ok (.iload_n 3, 1) := by decide +kernel
theorem dX2_tryFrom_45 : decode cX2_tryFrom 45 = .ok (.aload_n 0, 1) := by decide +kernel
theorem dX2_tryFrom_46 : decode cX2_tryFrom 46 = .ok (.getfield 17, 3) := by decide +kernel
theorem dX2_tryFrom_49 : decode cX2_tryFrom 49 = .ok (.iload_n 1, 1) := by decide +kernel
theorem dX2_tryFrom_50 : decode cX2_tryFrom 50 = .ok (.aaload, 1) := by decide +kernel
theorem dX2_tryFrom_51 : decode cX2_tryFrom 51 = .ok (.iload 7, 2) := by decide +kernel
theorem dX2_tryFrom_53 : decode cX2_tryFrom 53 = .ok (.iaload, 1) := by decide +kernel
theorem dX2_tryFrom_54 : decode cX2_tryFrom 54 = .ok (.iadd, 1) := by decide +kernel
theorem dX2_tryFrom_55 : decode cX2_tryFrom 55 = .ok (.istore 8, 2) := by decide +kernel
theorem dX2_tryFrom_57 : decode cX2_tryFrom 57 = .ok (.iload_n 2, 1) := by decide +kernel
theorem dX2_tryFrom_58 : decode cX2_tryFrom 58 = .ok (.iload 7, 2) := by decide +kernel
theorem dX2_tryFrom_60 : decode cX2_tryFrom 60 = .ok (.invokestatic 65, 3) := by decide +kernel
theorem dX2_tryFrom_63 : decode cX2_tryFrom 63 = .ok (.ifCond .eq 32, 3) := by decide +kernel
theorem dX2_tryFrom_66 : decode cX2_tryFrom 66 = .ok (.iload 8, 2) := by decide +kernel
theorem dX2_tryFrom_68 : decode cX2_tryFrom 68 = .ok (.iload 6, 2) := by decide +kernel
theorem dX2_tryFrom_70 : decode cX2_tryFrom 70 = .ok (.if_icmp .ge 25, 3) := by decide +kernel
theorem dX2_tryFrom_73 : decode cX2_tryFrom 73 = .ok (.aload_n 0, 1) := by decide +kernel
theorem dX2_tryFrom_74 : decode cX2_tryFrom 74 = .ok (.iload 7, 2) := by decide +kernel
theorem dX2_tryFrom_76 : decode cX2_tryFrom 76 = .ok (.iload_n 2, 1) := by decide +kernel
theorem dX2_tryFrom_77 : decode cX2_tryFrom 77 = .ok (.iconst 1, 1) := by decide +kernel
theorem dX2_tryFrom_78 : decode cX2_tryFrom 78 = .ok (.iload 7, 2) := by decide +kernel
theorem dX2_tryFrom_80 : decode cX2_tryFrom 80 = .ok (.ishl, 1) := by decide +kernel
theorem dX2_tryFrom_81 : decode cX2_tryFrom 81 = .ok (.ixor, 1) := by decide +kernel
theorem dX2_tryFrom_82 : decode cX2_tryFrom 82 = .ok (.iload 8, 2) := by decide +kernel
theorem dX2_tryFrom_84 : decode cX2_tryFrom 84 = .ok (.iload 6, 2) := by decide +kernel
theorem dX2_tryFrom_86 : decode cX2_tryFrom 86 = .ok (.iload 5, 2) := by decide +kernel
theorem dX2_tryFrom_88 : decode cX2_tryFrom 88 = .ok (.iconst 1, 1) := by decide +kernel
theorem dX2_tryFrom_89 : decode cX2_tryFrom 89 = .ok (.iadd, 1) := by decide +kernel
theorem dX2_tryFrom_90 : decode cX2_tryFrom 90 = .ok (.invokevirtual 50, 3) := by decide +kernel
theorem dX2_tryFrom_93 : decode cX2_tryFrom 93 = .ok (.istore 6, 2) := by decide +kernel
theorem dX2_tryFrom_95 : decode cX2_tryFrom 95 = .ok (.iinc 7 1, 3) := by decide +kernel
theorem dX2_tryFrom_98 : decode cX2_tryFrom 98 = .ok (.goto (-63), 3) := by decide +kernel
theorem dX2_tryFrom_101 : decode cX2_tryFrom 101 = .ok (.iload 6, 2) := by decide +kernel
theorem dX2_tryFrom_103 : decode cX2_tryFrom 103 = .ok (.ireturn, 1) := by decide +kernel
theorem dX3_init_0 : decode cX3_init 0 = .ok (.aload_n 0, 1) := by decide +kernel
theorem dX3_init_1 : decode cX3_init 1 = .ok (.invokespecial 3, 3) := by decide +kernel
theorem dX3_init_4 : decode cX3_init 4 = .ok (.aload_n 0, 1) := by decide +kernel
theorem dX3_init_5 : decode cX3_init 5 = .ok (.bipush 20, 2) := by decide +kernel
theorem dX3_init_7 : decode cX3_init 7 = .ok (.newarray .int, 2) := by decide +kernel
theorem dX3_init_9 : decode cX3_init 9 = .ok (.putfield 9, 3) := by decide +kernel
theorem dX3_init_12 : decode cX3_init 12 = .ok (.aload_n 0, 1) := by decide +kernel
theorem dX3_init_13 : decode cX3_init 13 = .ok (.bipush 20, 2) := by decide +kernel
theorem dX3_init_15 : decode cX3_init 15 = .ok (.newarray .int, 2) := by decide +kernel
theorem dX3_init_17 : decode cX3_init 17 = .ok (.putfield 15, 3) := by decide +kernel
theorem dX3_init_20 : decode cX3_init 20 = .ok (.aload_n 0, 1) := by decide +kernel
theorem dX3_init_21 : decode cX3_init 21 = .ok (.bipush 20, 2) := by decide +kernel
theorem dX3_init_23 : decode cX3_init 23 = .ok (.newarray .int, 2) := by decide +kernel
theorem dX3_init_25 : decode cX3_init 25 = .ok (.putfield 18, 3) := by decide +kernel
theorem dX3_init_28 : decode cX3_init 28 = .ok (.aload_n 0, 1) := by decide +kernel
theorem dX3_init_29 : decode cX3_init 29 = .ok (.bipush 20, 2) := by decide +kernel
theorem dX3_init_31 : decode cX3_init 31 = .ok (.newarray .int, 2) := by decide +kernel
theorem dX3_init_33 : decode cX3_init 33 = .ok (.putfield 21, 3) := by decide +kernel
theorem dX3_init_36 : decode cX3_init 36 = .ok (.aload_n 0, 1) := by decide +kernel
theorem dX3_init_37 : decode cX3_init 37 = .ok (.iload_n 1, 1) := by decide +kernel
theorem dX3_init_38 : decode cX3_init 38 = .ok (.putfield 24, 3) := by decide +kernel
theorem dX3_init_41 : decode cX3_init 41 = .ok (.aload_n 0, 1) := by decide +kernel
theorem dX3_init_42 : decode cX3_init 42 = .ok (.iload_n 2, 1) := by decide +kernel
theorem dX3_init_43 : decode cX3_init 43 = .ok (.putfield 28, 3) := by decide +kernel
theorem dX3_init_46 : decode cX3_init 46 = .ok (.aload_n 0, 1) := by decide +kernel
theorem dX3_init_47 : decode cX3_init 47 = .ok (.iload_n 3, 1) := by decide +kernel
theorem dX3_init_48 : decode cX3_init 48 = .ok (.putfield 31, 3) := by decide +kernel
theorem dX3_init_51 : decode cX3_init 51 = .ok (.iconst 0, 1) := by decide +kernel
theorem dX3_init_52 : decode cX3_init 52 = .ok (.istore 4, 2) := by decide +kernel
theorem dX3_init_54 : decode cX3_init 54 = .ok (.iload 4, 2) := by decide +kernel
theorem dX3_init_56 : decode cX3_init 56 = .ok (.bipush 20, 2) := by decide +kernel
theorem dX3_init_58 : decode cX3_init 58 = .ok (.if_icmp .ge 17, 3) := by decide +kernel
theorem dX3_init_61 : decode cX3_init 61 = .ok (.aload_n 0, 1) := by decide +kernel
theorem dX3_init_62 : decode cX3_init 62 = .ok (.getfield 9, 3) := by decide +kernel
theorem dX3_init_65 : decode cX3_init 65 = .ok (.iload 4, 2) := by decide +kernel
theorem dX3_init_67 : decode cX3_init 67 = .ok (.iconst (-1), 1) := by decide +kernel
theorem dX3_init_68 : decode cX3_init 68 = .ok (.iastore, 1) := by decide +kernel
theorem dX3_init_69 : decode cX3_init 69 = .ok (.iinc 4 1, 3) := by decide +kernel
theorem dX3_init_72 : decode cX3_init 72 = .ok (.goto (-18), 3) := by decide +kernel
theorem dX3_init_75 : decode cX3_init 75 = .ok (.return_, 1) := by decide +kernel
theorem dX3_hasAisle_0 : decode cX3_hasAisle 0 = .ok (.iload_n 1, 1) := by decide +kernel
theorem dX3_hasAisle_1 : decode cX3_hasAisle 1 = .ok (.ifCond .lt 15, 3) := by decide +kernel
theorem dX3_hasAisle_4 : decode cX3_hasAisle 4 = .ok (.iload_n 1, 1) := by decide +kernel
theorem dX3_hasAisle_5 : decode cX3_hasAisle 5 = .ok (.aload_n 0, 1) := by decide +kernel
theorem dX3_hasAisle_6 : decode cX3_hasAisle 6 = .ok (.getfield 24, 3) := by decide +kernel
theorem dX3_hasAisle_9 : decode cX3_hasAisle 9 = .ok (.if_icmp .ge 7, 3) := by decide +kernel
theorem dX3_hasAisle_12 : decode cX3_hasAisle 12 = .ok (.iconst 1, 1) := by decide +kernel
theorem dX3_hasAisle_13 : decode cX3_hasAisle 13 = .ok (.goto 4, 3) := by decide +kernel
theorem dX3_hasAisle_16 : decode cX3_hasAisle 16 = .ok (.iconst 0, 1) := by decide +kernel
theorem dX3_hasAisle_17 : decode cX3_hasAisle 17 = .ok (.ireturn, 1) := by decide +kernel
theorem dX3_hasPosition_0 : decode cX3_hasPosition 0 = .ok (.iload_n 1, 1) := by decide +kernel
theorem dX3_hasPosition_1 : decode cX3_hasPosition 1 = .ok (.iconst 1, 1) := by decide +kernel
theorem dX3_hasPosition_2 : decode cX3_hasPosition 2 = .ok (.if_icmp .lt 15, 3) := by decide +kernel
theorem dX3_hasPosition_5 : decode cX3_hasPosition 5 = .ok (.iload_n 1, 1) := by decide +kernel
theorem dX3_hasPosition_6 : decode cX3_hasPosition 6 = .ok (.aload_n 0, 1) := by decide +kernel
theorem dX3_hasPosition_7 : decode cX3_hasPosition 7 = .ok (.getfield 28, 3) := by decide +kernel
theorem dX3_hasPosition_10 : decode cX3_hasPosition 10 = .ok (.if_icmp .gt 7, 3) := by decide +kernel
theorem dX3_hasPosition_13 : decode cX3_hasPosition 13 = .ok (.iconst 1, 1) := by decide +kernel
theorem dX3_hasPosition_14 : decode cX3_hasPosition 14 = .ok (.goto 4, 3) := by decide +kernel
theorem dX3_hasPosition_17 : decode cX3_hasPosition 17 = .ok (.iconst 0, 1) := by decide +kernel
theorem dX3_hasPosition_18 : decode cX3_hasPosition 18 = .ok (.ireturn, 1) := by decide +kernel
theorem dX3_depth_0 : decode cX3_depth 0 = .ok (.aload_n 0, 1) := by decide +kernel
theorem dX3_depth_1 : decode cX3_depth 1 = .ok (.getfield 28, 3) := by decide +kernel
theorem dX3_depth_4 : decode cX3_depth 4 = .ok (.iconst 1, 1) := by decide +kernel
theorem dX3_depth_5 : decode cX3_depth 5 = .ok (.iadd, 1) := by decide +kernel
theorem dX3_depth_6 : decode cX3_depth 6 = .ok (.ireturn, 1) := by decide +kernel
theorem dX3_productAt_0 : decode cX3_productAt 0 = .ok (.iconst 0, 1) := by decide +kernel
theorem dX3_productAt_1 : decode cX3_productAt 1 = .ok (.istore_n 2, 1) := by decide +kernel
theorem dX3_productAt_2 : decode cX3_productAt 2 = .ok (.iload_n 2, 1) := by decide +kernel
theorem dX3_productAt_3 : decode cX3_productAt 3 = .ok (.bipush 20, 2) := by decide +kernel
theorem dX3_productAt_5 : decode cX3_productAt 5 = .ok (.if_icmp .ge 21, 3) := by decide +kernel
theorem dX3_productAt_8 : decode cX3_productAt 8 = .ok (.aload_n 0, 1) := by decide +kernel
theorem dX3_productAt_9 : decode cX3_productAt 9 = .ok (.getfield 9, 3) := by decide +kernel
theorem dX3_productAt_12 : decode cX3_productAt 12 = .ok (.iload_n 2, 1) := by decide +kernel
theorem dX3_productAt_13 : decode cX3_productAt 13 = .ok (.iaload, 1) := by decide +kernel
theorem dX3_productAt_14 : decode cX3_productAt 14 = .ok (.iload_n 1, 1) := by decide +kernel
theorem dX3_productAt_15 : decode cX3_productAt 15 = .ok (.if_icmp .ne 5, 3) := by decide +kernel
theorem dX3_productAt_18 : decode cX3_productAt 18 = .ok (.iload_n 2, 1) := by decide +kernel
theorem dX3_productAt_19 : decode cX3_productAt 19 = .ok (.ireturn, 1) := by decide +kernel
theorem dX3_productAt_20 : decode cX3_productAt 20 = .ok (.iinc 2 1, 3) := by decide +kernel
theorem dX3_productAt_23 : decode cX3_productAt 23 = .ok (.goto (-21), 3) := by decide +kernel
theorem dX3_productAt_26 : decode cX3_productAt 26 = .ok (.iconst (-1), 1) := by decide +kernel
theorem dX3_productAt_27 : decode cX3_productAt 27 = .ok (.ireturn, 1) := by decide +kernel
theorem dX3_move_0 : decode cX3_move 0 = .ok (.aload_n 0, 1) := by decide +kernel
theorem dX3_move_1 : decode cX3_move 1 = .ok (.getfield 9, 3) := by decide +kernel
theorem dX3_move_4 : decode cX3_move 4 = .ok (.iload_n 1, 1) := by decide +kernel
theorem dX3_move_5 : decode cX3_move 5 = .ok (.iaload, 1) := by decide +kernel
theorem dX3_move_6 : decode cX3_move 6 = .ok (.istore_n 3, 1) := by decide +kernel
theorem dX3_move_7 : decode cX3_move 7 = .ok (.aload_n 0, 1) := by decide +kernel
theorem dX3_move_8 : decode cX3_move 8 = .ok (.getfield 9, 3) := by decide +kernel
theorem dX3_move_11 : decode cX3_move 11 = .ok (.iload_n 1, 1) := by decide +kernel
theorem dX3_move_12 : decode cX3_move 12 = .ok (.iload_n 2, 1) := by decide +kernel
theorem dX3_move_13 : decode cX3_move 13 = .ok (.iastore, 1) := by decide +kernel
theorem dX3_move_14 : decode cX3_move 14 = .ok (.iload_n 3, 1) := by decide +kernel
theorem dX3_move_15 : decode cX3_move 15 = .ok (.ireturn, 1) := by decide +kernel
theorem dX3_between_0 : decode cX3_between 0 = .ok (.iload_n 1, 1) := by decide +kernel
theorem dX3_between_1 : decode cX3_between 1 = .ok (.bipush 100, 2) := by decide +kernel
theorem dX3_between_3 : decode cX3_between 3 = .ok (.irem, 1) := by decide +kernel
theorem dX3_between_4 : decode cX3_between 4 = .ok (.istore_n 3, 1) := by decide +kernel
theorem dX3_between_5 : decode cX3_between 5 = .ok (.iload_n 2, 1) := by decide +kernel
theorem dX3_between_6 : decode cX3_between 6 = .ok (.bipush 100, 2) := by decide +kernel
theorem dX3_between_8 : decode cX3_between 8 = .ok (.irem, 1) := by decide +kernel
theorem dX3_between_9 : decode cX3_between 9 = .ok (.istore 4, 2) := by decide +kernel
theorem dX3_between_11 : decode cX3_between 11 = .ok (.iload_n 1, 1) := by decide +kernel
theorem dX3_between_12 : decode cX3_between 12 = .ok (.bipush 100, 2) := by decide +kernel
theorem dX3_between_14 : decode cX3_between 14 = .ok (.idiv, 1) := by decide +kernel
theorem dX3_between_15 : decode cX3_between 15 = .ok (.iload_n 2, 1) := by decide +kernel
theorem dX3_between_16 : decode cX3_between 16 = .ok (.bipush 100, 2) := by decide +kernel
theorem dX3_between_18 : decode cX3_between 18 = .ok (.idiv, 1) := by decide +kernel
theorem dX3_between_19 : decode cX3_between 19 = .ok (.isub, 1) := by decide +kernel
theorem dX3_between_20 : decode cX3_between 20 = .ok (.invokestatic 34, 3) := by decide +kernel
theorem dX3_between_23 : decode cX3_between 23 = .ok (.istore 5, 2) := by decide +kernel
theorem dX3_between_25 : decode cX3_between 25 = .ok (.iload 5, 2) := by decide +kernel
theorem dX3_between_27 : decode cX3_between 27 = .ok (.ifCond .ne 11, 3) := by decide +kernel
theorem dX3_between_30 : decode cX3_between 30 = .ok (.iload_n 3, 1) := by decide +kernel
theorem dX3_between_31 : decode cX3_between 31 = .ok (.iload 4, 2) := by decide +kernel
theorem dX3_between_33 : decode cX3_between 33 = .ok (.isub, 1) := by decide +kernel
theorem dX3_between_34 : decode cX3_between 34 = .ok (.invokestatic 34, 3) := by decide +kernel
theorem dX3_between_37 : decode cX3_between 37 = .ok (.ireturn, 1) := by decide +kernel
theorem dX3_between_38 : decode cX3_between 38 = .ok (.iload_n 3, 1) := by decide +kernel
theorem dX3_between_39 : decode cX3_between 39 = .ok (.iload 4, 2) := by decide +kernel
theorem dX3_between_41 : decode cX3_between 41 = .ok (.iadd, 1) := by decide +kernel
theorem dX3_between_42 : decode cX3_between 42 = .ok (.istore 6, 2) := by decide +kernel
theorem dX3_between_44 : decode cX3_between 44 = .ok (.iconst 2, 1) := by decide +kernel
theorem dX3_between_45 : decode cX3_between 45 = .ok (.aload_n 0, 1) := by decide +kernel
theorem dX3_between_46 : decode cX3_between 46 = .ok (.invokevirtual 40, 3) := by decide +kernel
theorem dX3_between_49 : decode cX3_between 49 = .ok (.imul, 1) := by decide +kernel
theorem dX3_between_50 : decode cX3_between 50 = .ok (.iload 6, 2) := by decide +kernel
theorem dX3_between_52 : decode cX3_between 52 = .ok (.isub, 1) := by decide +kernel
theorem dX3_between_53 : decode cX3_between 53 = .ok (.istore 7, 2) := by decide +kernel
theorem dX3_between_55 : decode cX3_between 55 = .ok (.iload 5, 2) := by decide +kernel
theorem dX3_between_57 : decode cX3_between 57 = .ok (.aload_n 0, 1) := by decide +kernel
theorem dX3_between_58 : decode cX3_between 58 = .ok (.getfield 31, 3) := by decide +kernel
theorem dX3_between_61 : decode cX3_between 61 = .ok (.imul, 1) := by decide +kernel
theorem dX3_between_62 : decode cX3_between 62 = .ok (.iload 6, 2) := by decide +kernel
theorem dX3_between_64 : decode cX3_between 64 = .ok (.iload 7, 2) := by decide +kernel
theorem dX3_between_66 : decode cX3_between 66 = .ok (.invokestatic 44, 3) := by decide +kernel
theorem dX3_between_69 : decode cX3_between 69 = .ok (.iadd, 1) := by decide +kernel
theorem dX3_between_70 : decode cX3_between 70 = .ok (.ireturn, 1) := by decide +kernel
theorem dX3_addTurnover_0 : decode cX3_addTurnover 0 = .ok (.iconst 0, 1) := by decide +kernel
theorem dX3_addTurnover_1 : decode cX3_addTurnover 1 = .ok (.istore_n 2, 1) := by decide +kernel
theorem dX3_addTurnover_2 : decode cX3_addTurnover 2 = .ok (.iload_n 2, 1) := by decide +kernel
theorem dX3_addTurnover_3 : decode cX3_addTurnover 3 = .ok (.bipush 20, 2) := by decide +kernel
theorem dX3_addTurnover_5 : decode cX3_addTurnover 5 = .ok (.if_icmp .ge 24, 3) := by decide +kernel
theorem dX3_addTurnover_8 : decode cX3_addTurnover 8 = .ok (.aload_n 0, 1) := by decide +kernel
theorem dX3_addTurnover_9 : decode cX3_addTurnover 9 = .ok (.getfield 15, 3) := by decide +kernel
theorem dX3_addTurnover_12 : decode cX3_addTurnover 12 = .ok (.iload_n 2, 1) := by decide +kernel
theorem dX3_addTurnover_13 : decode cX3_addTurnover 13 = .ok (.dup2, 1) := by decide +kernel
theorem dX3_addTurnover_14 : decode cX3_addTurnover 14 = .ok (.iaload, 1) := by decide +kernel
theorem dX3_addTurnover_15 : decode cX3_addTurnover 15 = .ok (.aload_n 1, 1) := by decide +kernel
theorem dX3_addTurnover_16 : decode cX3_addTurnover 16 = .ok (.getfield 48, 3) := by decide +kernel
theorem dX3_addTurnover_19 : decode cX3_addTurnover 19 = .ok (.iload_n 2, 1) := by decide +kernel
theorem dX3_addTurnover_20 : decode cX3_addTurnover 20 = .ok (.iaload, 1) := by decide +kernel
theorem dX3_addTurnover_21 : decode cX3_addTurnover 21 = .ok (.iadd, 1) := by decide +kernel
theorem dX3_addTurnover_22 : decode cX3_addTurnover 22 = .ok (.iastore, 1) := by decide +kernel
theorem dX3_addTurnover_23 : decode cX3_addTurnover 23 = .ok (.iinc 2 1, 3) := by decide +kernel
theorem dX3_addTurnover_26 : decode cX3_addTurnover 26 = .ok (.goto (-24), 3) := by decide +kernel
theorem dX3_addTurnover_29 : decode cX3_addTurnover 29 = .ok (.return_, 1) := by decide +kernel
theorem dX3_rearrange_0 : decode cX3_rearrange 0 = .ok (.iconst 0, 1) := by decide +kernel
theorem dX3_rearrange_1 : decode cX3_rearrange 1 = .ok (.istore_n 1, 1) := by decide +kernel
theorem dX3_rearrange_2 : decode cX3_rearrange 2 = .ok (.iconst 0, 1) := by decide +kernel
theorem dX3_rearrange_3 : decode cX3_rearrange 3 = .ok (.istore_n 2, 1) := by decide +kernel
theorem dX3_rearrange_4 : decode cX3_rearrange 4 = .ok (.iload_n 2, 1) := by decide +kernel
theorem dX3_rearrange_5 : decode cX3_rearrange 5 = .ok (.bipush 20, 2) := by decide +kernel
theorem dX3_rearrange_7 : decode cX3_rearrange 7 = .ok (.if_icmp .ge 39, 3) := by decide +kernel
theorem dX3_rearrange_10 : decode cX3_rearrange 10 = .ok (.aload_n 0, 1) := by decide +kernel
theorem dX3_rearrange_11 : decode cX3_rearrange 11 = .ok (.getfield 9, 3) := by decide +kernel
theorem dX3_rearrange_14 : decode cX3_rearrange 14 = .ok (.iload_n 2, 1) := by decide +kernel
theorem dX3_rearrange_15 : decode cX3_rearrange 15 = .ok (.iaload, 1) := by decide +kernel
theorem dX3_rearrange_16 : decode cX3_rearrange 16 = .ok (.iconst (-1), 1) := by decide +kernel
theorem dX3_rearrange_17 : decode cX3_rearrange 17 = .ok (.if_icmp .eq 23, 3) := by decide +kernel
theorem dX3_rearrange_20 : decode cX3_rearrange 20 = .ok (.aload_n 0, 1) := by decide +kernel
theorem dX3_rearrange_21 : decode cX3_rearrange 21 = .ok (.aload_n 0, 1) := by decide +kernel
theorem dX3_rearrange_22 : decode cX3_rearrange 22 = .ok (.getfield 9, 3) := by decide +kernel
theorem dX3_rearrange_25 : decode cX3_rearrange 25 = .ok (.iload_n 2, 1) := by decide +kernel
theorem dX3_rearrange_26 : decode cX3_rearrange 26 = .ok (.iaload, 1) := by decide +kernel
theorem dX3_rearrange_27 : decode cX3_rearrange 27 = .ok (.iload_n 1, 1) := by decide +kernel
theorem dX3_rearrange_28 : decode cX3_rearrange 28 = .ok (.invokevirtual 53, 3) := by decide +kernel
theorem dX3_rearrange_31 : decode cX3_rearrange 31 = .ok (.aload_n 0, 1) := by decide +kernel
theorem dX3_rearrange_32 : decode cX3_rearrange 32 = .ok (.iload_n 2, 1) := by decide +kernel
theorem dX3_rearrange_33 : decode cX3_rearrange 33 = .ok (.iload_n 1, 1) := by decide +kernel
theorem dX3_rearrange_34 : decode cX3_rearrange 34 = .ok (.invokevirtual 57, 3) := by decide +kernel
theorem dX3_rearrange_37 : decode cX3_rearrange 37 = .ok (.iinc 1 1, 3) := by decide +kernel
theorem dX3_rearrange_40 : decode cX3_rearrange 40 = .ok (.iinc 2 1, 3) := by decide +kernel
theorem dX3_rearrange_43 : decode cX3_rearrange 43 = .ok (.goto (-39), 3) := by decide +kernel
theorem dX3_rearrange_46 : decode cX3_rearrange 46 = .ok (.iconst 0, 1) := by decide +kernel
theorem dX3_rearrange_47 : decode cX3_rearrange 47 = .ok (.istore_n 2, 1) := by decide +kernel
theorem dX3_rearrange_48 : decode cX3_rearrange 48 = .ok (.iconst 0, 1) := by decide +kernel
theorem dX3_rearrange_49 : decode cX3_rearrange 49 = .ok (.istore_n 3, 1) := by decide +kernel
theorem dX3_rearrange_50 : decode cX3_rearrange 50 = .ok (.iload_n 3, 1) := by decide +kernel
theorem dX3_rearrange_51 : decode cX3_rearrange 51 = .ok (.iload_n 1, 1) := by decide +kernel
theorem dX3_rearrange_52 : decode cX3_rearrange 52 = .ok (.if_icmp .ge 37, 3) := by decide +kernel
theorem dX3_rearrange_55 : decode cX3_rearrange 55 = .ok (.aload_n 0, 1) := by decide +kernel
theorem dX3_rearrange_56 : decode cX3_rearrange 56 = .ok (.aload_n 0, 1) := by decide +kernel
theorem dX3_rearrange_57 : decode cX3_rearrange 57 = .ok (.getfield 21, 3) := by decide +kernel
theorem dX3_rearrange_60 : decode cX3_rearrange 60 = .ok (.iload_n 3, 1) := by decide +kernel
theorem dX3_rearrange_61 : decode cX3_rearrange 61 = .ok (.iaload, 1) := by decide +kernel
theorem dX3_rearrange_62 : decode cX3_rearrange 62 = .ok (.aload_n 0, 1) := by decide +kernel
theorem dX3_rearrange_63 : decode cX3_rearrange 63 = .ok (.getfield 18, 3) := by decide +kernel
theorem dX3_rearrange_66 : decode cX3_rearrange 66 = .ok (.iload_n 3, 1) := by decide +kernel
theorem dX3_rearrange_67 : decode cX3_rearrange 67 = .ok (.iaload, 1) := by decide +kernel
theorem dX3_rearrange_68 : decode cX3_rearrange 68 = .ok (.invokevirtual 60, 3) := by decide +kernel
theorem dX3_rearrange_71 : decode cX3_rearrange 71 = .ok (.aload_n 0, 1) := by decide +kernel
theorem dX3_rearrange_72 : decode cX3_rearrange 72 = .ok (.getfield 18, 3) := by decide +kernel
theorem dX3_rearrange_75 : decode cX3_rearrange 75 = .ok (.iload_n 3, 1) := by decide +kernel
theorem dX3_rearrange_76 : decode cX3_rearrange 76 = .ok (.iaload, 1) := by decide +kernel
theorem dX3_rearrange_77 : decode cX3_rearrange 77 = .ok (.if_icmp .eq 6, 3) := by decide +kernel
theorem dX3_rearrange_80 : decode cX3_rearrange 80 = .ok (.iinc 2 1, 3) := by decide +kernel
theorem dX3_rearrange_83 : decode cX3_rearrange 83 = .ok (.iinc 3 1, 3) := by decide +kernel
theorem dX3_rearrange_86 : decode cX3_rearrange 86 = .ok (.goto (-36), 3) := by decide +kernel
theorem dX3_rearrange_89 : decode cX3_rearrange 89 = .ok (.iload_n 2, 1) := by decide +kernel
theorem dX3_rearrange_90 : decode cX3_rearrange 90 = .ok (.ireturn, 1) := by decide +kernel
theorem dX3_insertPlace_0 : decode cX3_insertPlace 0 = .ok (.iload_n 2, 1) := by decide +kernel
theorem dX3_insertPlace_1 : decode cX3_insertPlace 1 = .ok (.istore_n 3, 1) := by decide +kernel
theorem dX3_insertPlace_2 : decode cX3_insertPlace 2 = .ok (.iload_n 3, 1) := by decide +kernel
theorem dX3_insertPlace_3 : decode cX3_insertPlace 3 = .ok (.ifCond .le 39, 3) := by decide +kernel
theorem dX3_insertPlace_6 : decode cX3_insertPlace 6 = .ok (.aload_n 0, 1) := by decide +kernel
theorem dX3_insertPlace_7 : decode cX3_insertPlace 7 = .ok (.iload_n 1, 1) := by decide +kernel
theorem dX3_insertPlace_8 : decode cX3_insertPlace 8 = .ok (.aload_n 0, 1) := by decide +kernel
theorem dX3_insertPlace_9 : decode cX3_insertPlace 9 = .ok (.getfield 18, 3) := by decide +kernel
theorem dX3_insertPlace_12 : decode cX3_insertPlace 12 = .ok (.iload_n 3, 1) := by decide +kernel
theorem dX3_insertPlace_13 : decode cX3_insertPlace 13 = .ok (.iconst 1, 1) := by decide +kernel
theorem dX3_insertPlace_14 : decode cX3_insertPlace 14 = .ok (.isub, 1) := by decide +kernel
theorem dX3_insertPlace_15 : decode cX3_insertPlace 15 = .ok (.iaload, 1) := by decide +kernel
theorem dX3_insertPlace_16 : decode cX3_insertPlace 16 = .ok (.invokevirtual 63, 3) := by decide +kernel
theorem dX3_insertPlace_19 : decode cX3_insertPlace 19 = .ok (.ifCond .eq 23, 3) := by decide +kernel
theorem dX3_insertPlace_22 : decode cX3_insertPlace 22 = .ok (.aload_n 0, 1) := by decide +kernel
theorem dX3_insertPlace_23 : decode cX3_insertPlace 23 = .ok (.getfield 18, 3) := by decide +kernel
theorem dX3_insertPlace_26 : decode cX3_insertPlace 26 = .ok (.iload_n 3, 1) := by decide +kernel
theorem dX3_insertPlace_27 : decode cX3_insertPlace 27 = .ok (.aload_n 0, 1) := by decide +kernel
theorem dX3_insertPlace_28 : decode cX3_insertPlace 28 = .ok (.getfield 18, 3) := by decide +kernel
theorem dX3_insertPlace_31 : decode cX3_insertPlace 31 = .ok (.iload_n 3, 1) := by decide +kernel
theorem dX3_insertPlace_32 : decode cX3_insertPlace 32 = .ok (.iconst 1, 1) := by decide +kernel
theorem dX3_insertPlace_33 : decode cX3_insertPlace 33 = .ok (.isub, 1) := by decide +kernel
theorem dX3_insertPlace_34 : decode cX3_insertPlace 34 = .ok (.iaload, 1) := by decide +kernel
theorem dX3_insertPlace_35 : decode cX3_insertPlace 35 = .ok (.iastore, 1) := by decide +kernel
theorem dX3_insertPlace_36 : decode cX3_insertPlace 36 = .ok (.iinc 3 (-1), 3) := by decide +kernel
theorem dX3_insertPlace_39 : decode cX3_insertPlace 39 = .ok (.goto (-37), 3) := by decide +kernel
theorem dX3_insertPlace_42 : decode cX3_insertPlace 42 = .ok (.aload_n 0, 1) := by decide +kernel
theorem dX3_insertPlace_43 : decode cX3_insertPlace 43 = .ok (.getfield 18, 3) := by decide +kernel
theorem dX3_insertPlace_46 : decode cX3_insertPlace 46 = .ok (.iload_n 3, 1) := by decide +kernel
theorem dX3_insertPlace_47 : decode cX3_insertPlace 47 = .ok (.iload_n 1, 1) := by decide +kernel
theorem dX3_insertPlace_48 : decode cX3_insertPlace 48 = .ok (.iastore, 1) := by decide +kernel
theorem dX3_insertPlace_49 : decode cX3_insertPlace 49 = .ok (.return_, 1) := by decide +kernel
theorem dX3_isNearer_0 : decode cX3_isNearer 0 = .ok (.aload_n 0, 1) := by decide +kernel
theorem dX3_isNearer_1 : decode cX3_isNearer 1 = .ok (.iconst 0, 1) := by decide +kernel
theorem dX3_isNearer_2 : decode cX3_isNearer 2 = .ok (.iload_n 1, 1) := by decide +kernel
theorem dX3_isNearer_3 : decode cX3_isNearer 3 = .ok (.invokevirtual 67, 3) := by decide +kernel
theorem dX3_isNearer_6 : decode cX3_isNearer 6 = .ok (.istore_n 3, 1) := by decide +kernel
theorem dX3_isNearer_7 : decode cX3_isNearer 7 = .ok (.aload_n 0, 1) := by decide +kernel
theorem dX3_isNearer_8 : decode cX3_isNearer 8 = .ok (.iconst 0, 1) := by decide +kernel
theorem dX3_isNearer_9 : decode cX3_isNearer 9 = .ok (.iload_n 2, 1) := by decide +kernel
theorem dX3_isNearer_10 : decode cX3_isNearer 10 = .ok (.invokevirtual 67, 3) := by decide +kernel
theorem dX3_isNearer_13 : decode cX3_isNearer 13 = .ok (.istore 4, 2) := by decide +kernel
theorem dX3_isNearer_15 : decode cX3_isNearer 15 = .ok (.iload_n 3, 1) := by decide +kernel
theorem dX3_isNearer_16 : decode cX3_isNearer 16 = .ok (.iload 4, 2) := by decide +kernel
theorem dX3_isNearer_18 : decode cX3_isNearer 18 = .ok (.if_icmp .lt 14, 3) := by decide +kernel
theorem dX3_isNearer_21 : decode cX3_isNearer 21 = .ok (.iload_n 3, 1) := by decide +kernel
theorem dX3_isNearer_22 : decode cX3_isNearer 22 = .ok (.iload 4, 2) := by decide +kernel
theorem dX3_isNearer_24 : decode cX3_isNearer 24 = .ok (.if_icmp .ne 12, 3) := by decide +kernel
theorem dX3_isNearer_27 : decode cX3_isNearer 27 = .ok (.iload_n 1, 1) := by decide +kernel
theorem dX3_isNearer_28 : decode cX3_isNearer 28 = .ok (.iload_n 2, 1) := by decide +kernel
theorem dX3_isNearer_29 : decode cX3_isNearer 29 = .ok (.if_icmp .ge 7, 3) := by decide +kernel
theorem dX3_isNearer_32 : decode cX3_isNearer 32 = .ok (.iconst 1, 1) := by decide +kernel
theorem dX3_isNearer_33 : decode cX3_isNearer 33 = .ok (.goto 4, 3) := by decide +kernel
theorem dX3_isNearer_36 : decode cX3_isNearer 36 = .ok (.iconst 0, 1) := by decide +kernel
theorem dX3_isNearer_37 : decode cX3_isNearer 37 = .ok (.ireturn, 1) := by decide +kernel
theorem dX3_insertProduct_0 : decode cX3_insertProduct 0 = .ok (.iload_n 2, 1) := by decide +kernel
theorem dX3_insertProduct_1 : decode cX3_insertProduct 1 = .ok (.istore_n 3, 1) := by decide +kernel
theorem dX3_insertProduct_2 : decode cX3_insertProduct 2 = .ok (.iload_n 3, 1) := by decide +kernel
theorem dX3_insertProduct_3 : decode cX3_insertProduct 3 = .ok (.ifCond .le 45, 3) := by decide +kernel
theorem dX3_insertProduct_6 : decode cX3_insertProduct 6 = .ok (.aload_n 0, 1) := by decide +kernel
theorem dX3_insertProduct_7 : decode cX3_insertProduct 7 = .ok (.getfield 15, 3) := by decide +kernel
theorem dX3_insertProduct_10 : decode cX3_insertProduct 10 = .ok (.iload_n 1, 1) := by decide +kernel
theorem dX3_insertProduct_11 : decode cX3_insertProduct 11 = .ok (.iaload, 1) := by decide +kernel
theorem dX3_insertProduct_12 : decode cX3_insertProduct 12 = .ok (.aload_n 0, 1) := by decide +kernel
theorem dX3_insertProduct_13 : decode cX3_insertProduct 13 = .ok (.getfield 15, 3) := by decide +kernel
theorem dX3_insertProduct_16 : decode cX3_insertProduct 16 = .ok (.aload_n 0, 1) := by decide +kernel
theorem dX3_insertProduct_17 : decode cX3_insertProduct 17 = .ok (.getfield 21, 3) := by decide +kernel
theorem dX3_insertProduct_20 : decode cX3_insertProduct 20 = .ok (.iload_n 3, 1) := by decide +kernel
theorem dX3_insertProduct_21 : decode cX3_insertProduct 21 = .ok (.iconst 1, 1) := by decide +kernel
theorem dX3_insertProduct_22 : decode cX3_insertProduct 22 = .ok (.isub, 1) := by decide +kernel
theorem dX3_insertProduct_23 : decode cX3_insertProduct 23 = .ok (.iaload, 1) := by decide +kernel
theorem dX3_insertProduct_24 : decode cX3_insertProduct 24 = .ok (.iaload, 1) := by decide +kernel
theorem dX3_insertProduct_25 : decode cX3_insertProduct 25 = .ok (.if_icmp .le 23, 3) := by decide +kernel
theorem dX3_insertProduct_28 : decode cX3_insertProduct 28 = .ok (.aload_n 0, 1) := by decide +kernel
theorem dX3_insertProduct_29 : decode cX3_insertProduct 29 = .ok (.getfield 21, 3) := by decide +kernel
theorem dX3_insertProduct_32 : decode cX3_insertProduct 32 = .ok (.iload_n 3, 1) := by decide +kernel
theorem dX3_insertProduct_33 : decode cX3_insertProduct 33 = .ok (.aload_n 0, 1) := by decide +kernel
theorem dX3_insertProduct_34 : decode cX3_insertProduct 34 = .ok (.getfield 21, 3) := by decide +kernel
theorem dX3_insertProduct_37 : decode cX3_insertProduct 37 = .ok (.iload_n 3, 1) := by decide +kernel
theorem dX3_insertProduct_38 : decode cX3_insertProduct 38 = .ok (.iconst 1, 1) := by decide +kernel
theorem dX3_insertProduct_39 : decode cX3_insertProduct 39 = .ok (.isub, 1) := by decide +kernel
theorem dX3_insertProduct_40 : decode cX3_insertProduct 40 = .ok (.iaload, 1) := by decide +kernel
theorem dX3_insertProduct_41 : decode cX3_insertProduct 41 = .ok (.iastore, 1) := by decide +kernel
theorem dX3_insertProduct_42 : decode cX3_insertProduct 42 = .ok (.iinc 3 (-1), 3) := by decide +kernel
theorem dX3_insertProduct_45 : decode cX3_insertProduct 45 = .ok (.goto (-43), 3) := by decide +kernel
theorem dX3_insertProduct_48 : decode cX3_insertProduct 48 = .ok (.aload_n 0, 1) := by decide +kernel
theorem dX3_insertProduct_49 : decode cX3_insertProduct 49 = .ok (.getfield 21, 3) := by decide +kernel
theorem dX3_insertProduct_52 : decode cX3_insertProduct 52 = .ok (.iload_n 3, 1) := by decide +kernel
theorem dX3_insertProduct_53 : decode cX3_insertProduct 53 = .ok (.iload_n 1, 1) := by decide +kernel
theorem dX3_insertProduct_54 : decode cX3_insertProduct 54 = .ok (.iastore, 1) := by decide +kernel
theorem dX3_insertProduct_55 : decode cX3_insertProduct 55 = .ok (.return_, 1) := by decide +kernel
theorem dX4_init_0 : decode cX4_init 0 = .ok (.aload_n 0, 1) := by decide +kernel
theorem dX4_init_1 : decode cX4_init 1 = .ok (.invokespecial 3, 3) := by decide +kernel
theorem dX4_init_4 : decode cX4_init 4 = .ok (.aload_n 0, 1) := by decide +kernel
theorem dX4_init_5 : decode cX4_init 5 = .ok (.new 9, 3) := by decide +kernel
theorem dX4_init_8 : decode cX4_init 8 = .ok (.dup, 1) := by decide +kernel
theorem dX4_init_9 : decode cX4_init 9 = .ok (.invokespecial 11, 3) := by decide +kernel
theorem dX4_init_12 : decode cX4_init 12 = .ok (.putfield 12, 3) := by decide +kernel
theorem dX4_init_15 : decode cX4_init 15 = .ok (.aload_n 0, 1) := by decide +kernel
theorem dX4_init_16 : decode cX4_init 16 = .ok (.bipush 40, 2) := by decide +kernel
theorem dX4_init_18 : decode cX4_init 18 = .ok (.bipush 40, 2) := by decide +kernel
theorem dX4_init_20 : decode cX4_init 20 = .ok (.multianewarray 18 2, 4) := by decide +kernel
theorem dX4_init_24 : decode cX4_init 24 = .ok (.putfield 20, 3) := by decide +kernel
theorem dX4_init_27 : decode cX4_init 27 = .ok (.aload_n 0, 1) := by decide +kernel
theorem dX4_init_28 : decode cX4_init 28 = .ok (.aload_n 1, 1) := by decide +kernel
theorem dX4_init_29 : decode cX4_init 29 = .ok (.putfield 23, 3) := by decide +kernel
theorem dX4_init_32 : decode cX4_init 32 = .ok (.return_, 1) := by decide +kernel
theorem dX4_isOn_0 : decode cX4_isOn 0 = .ok (.aload_n 0, 1) := by decide +kernel
theorem dX4_isOn_1 : decode cX4_isOn 1 = .ok (.getfield 12, 3) := by decide +kernel
theorem dX4_isOn_4 : decode cX4_isOn 4 = .ok (.invokevirtual 27, 3) := by decide +kernel
theorem dX4_isOn_7 : decode cX4_isOn 7 = .ok (.ifCond .ne 7, 3) := by decide +kernel
theorem dX4_isOn_10 : decode cX4_isOn 10 = .ok (.iconst 1, 1) := by decide +kernel
theorem dX4_isOn_11 : decode cX4_isOn 11 = .ok (.goto 4, 3) := by decide +kernel
theorem dX4_isOn_14 : decode cX4_isOn 14 = .ok (.iconst 0, 1) := by decide +kernel
theorem dX4_isOn_15 : decode cX4_isOn 15 = .ok (.ireturn, 1) := by decide +kernel
theorem dX4_size_0 : decode cX4_size 0 = .ok (.aload_n 0, 1) := by decide +kernel
theorem dX4_size_1 : decode cX4_size 1 = .ok (.getfield 12, 3) := by decide +kernel
theorem dX4_size_4 : decode cX4_size 4 = .ok (.invokevirtual 31, 3) := by decide +kernel
theorem dX4_size_7 : decode cX4_size 7 = .ok (.ireturn, 1) := by decide +kernel
theorem dX4_take_0 : decode cX4_take 0 = .ok (.aload_n 0, 1) := by decide +kernel
theorem dX4_take_1 : decode cX4_take 1 = .ok (.getfield 12, 3) := by decide +kernel
theorem dX4_take_4 : decode cX4_take 4 = .ok (.new 35, 3) := by decide +kernel
theorem dX4_take_7 : decode cX4_take 7 = .ok (.dup, 1) := by decide +kernel
theorem dX4_take_8 : decode cX4_take 8 = .ok (.aload_n 0, 1) := by decide +kernel
theorem dX4_take_9 : decode cX4_take 9 = .ok (.getfield 12, 3) := by decide +kernel
theorem dX4_take_12 : decode cX4_take 12 = .ok (.invokevirtual 31, 3) := by decide +kernel
theorem dX4_take_15 : decode cX4_take 15 = .ok (.iload_n 1, 1) := by decide +kernel
theorem dX4_take_16 : decode cX4_take 16 = .ok (.aload_n 2, 1) := by decide +kernel
theorem dX4_take_17 : decode cX4_take 17 = .ok (.aload_n 0, 1) := by decide +kernel
theorem dX4_take_18 : decode cX4_take 18 = .ok (.getfield 23, 3) := by decide +kernel
theorem dX4_take_21 : decode cX4_take 21 = .ok (.aload_n 2, 1) := by decide +kernel
theorem dX4_take_22 : decode cX4_take 22 = .ok (.getfield 37, 3) := by decide +kernel
theorem dX4_take_25 : decode cX4_take 25 = .ok (.invokevirtual 43, 3) := by decide +kernel
theorem dX4_take_28 : decode cX4_take 28 = .ok (.invokespecial 49, 3) := by decide +kernel
theorem dX4_take_31 : decode cX4_take 31 = .ok (.invokevirtual 52, 3) := by decide +kernel
theorem dX4_take_34 : decode cX4_take 34 = .ok (.pop, 1) := by decide +kernel
theorem dX4_take_35 : decode cX4_take 35 = .ok (.return_, 1) := by decide +kernel
theorem dX4_join_0 : decode cX4_join 0 = .ok (.iconst 0, 1) := by decide +kernel
theorem dX4_join_1 : decode cX4_join 1 = .ok (.istore_n 2, 1) := by decide +kernel
theorem dX4_join_2 : decode cX4_join 2 = .ok (.iload_n 2, 1) := by decide +kernel
theorem dX4_join_3 : decode cX4_join 3 = .ok (.aload_n 0, 1) := by decide +kernel
theorem dX4_join_4 : decode cX4_join 4 = .ok (.getfield 12, 3) := by decide +kernel
theorem dX4_join_7 : decode cX4_join 7 = .ok (.invokevirtual 31, 3) := by decide +kernel
theorem dX4_join_10 : decode cX4_join 10 = .ok (.if_icmp .ge 37, 3) := by decide +kernel
theorem dX4_join_13 : decode cX4_join 13 = .ok (.iload_n 2, 1) := by decide +kernel
theorem dX4_join_14 : decode cX4_join 14 = .ok (.iconst 1, 1) := by decide +kernel
theorem dX4_join_15 : decode cX4_join 15 = .ok (.iadd, 1) := by decide +kernel
theorem dX4_join_16 : decode cX4_join 16 = .ok (.istore_n 3, 1) := by decide +kernel
theorem dX4_join_17 : decode cX4_join 17 = .ok (.iload_n 3, 1) := by decide +kernel
theorem dX4_join_18 : decode cX4_join 18 = .ok (.aload_n 0, 1) := by decide +kernel
theorem dX4_join_19 : decode cX4_join 19 = .ok (.getfield 12, 3) := by decide +kernel
theorem dX4_join_22 : decode cX4_join 22 = .ok (.invokevirtual 31, 3) := by decide +kernel
theorem dX4_join_25 : decode cX4_join 25 = .ok (.if_icmp .ge 16, 3) := by decide +kernel
theorem dX4_join_28 : decode cX4_join 28 = .ok (.aload_n 0, 1) := by decide +kernel
theorem dX4_join_29 : decode cX4_join 29 = .ok (.iload_n 2, 1) := by decide +kernel
theorem dX4_join_30 : decode cX4_join 30 = .ok (.iload_n 3, 1) := by decide +kernel
theorem dX4_join_31 : decode cX4_join 31 = .ok (.iload_n 1, 1) := by decide +kernel
theorem dX4_join_32 : decode cX4_join 32 = .ok (.invokevirtual 56, 3) := by decide +kernel
theorem dX4_join_35 : decode cX4_join 35 = .ok (.iinc 3 1, 3) := by decide +kernel
theorem dX4_join_38 : decode cX4_join 38 = .ok (.goto (-21), 3) := by decide +kernel
theorem dX4_join_41 : decode cX4_join 41 = .ok (.iinc 2 1, 3) := by decide +kernel
theorem dX4_join_44 : decode cX4_join 44 = .ok (.goto (-42), 3) := by decide +kernel
theorem dX4_join_47 : decode cX4_join 47 = .ok (.iconst 0, 1) := by decide +kernel
theorem dX4_join_48 : decode cX4_join 48 = .ok (.istore_n 2, 1) := by decide +kernel
theorem dX4_join_49 : decode cX4_join 49 = .ok (.iload_n 2, 1) := by decide +kernel
theorem dX4_join_50 : decode cX4_join 50 = .ok (.bipush 40, 2) := by decide +kernel
theorem dX4_join_52 : decode cX4_join 52 = .ok (.if_icmp .ge 51, 3) := by decide +kernel
theorem dX4_join_55 : decode cX4_join 55 = .ok (.aload_n 0, 1) := by decide +kernel
theorem dX4_join_56 : decode cX4_join 56 = .ok (.invokevirtual 60, 3) := by decide +kernel
theorem dX4_join_59 : decode cX4_join 59 = .ok (.istore_n 3, 1) := by decide +kernel
theorem dX4_join_60 : decode cX4_join 60 = .ok (.iload_n 3, 1) := by decide +kernel
theorem dX4_join_61 : decode cX4_join 61 = .ok (.iconst (-1), 1) := by decide +kernel
theorem dX4_join_62 : decode cX4_join 62 = .ok (.if_icmp .ne 6, 3) := by decide +kernel
theorem dX4_join_65 : decode cX4_join 65 = .ok (.goto 38, 3) := by decide +kernel
theorem dX4_join_68 : decode cX4_join 68 = .ok (.iconst 0, 1) := by decide +kernel
theorem dX4_join_69 : decode cX4_join 69 = .ok (.istore 4, 2) := by decide +kernel
theorem dX4_join_71 : decode cX4_join 71 = .ok (.iload 4, 2) := by decide +kernel
theorem dX4_join_73 : decode cX4_join 73 = .ok (.aload_n 0, 1) := by decide +kernel
theorem dX4_join_74 : decode cX4_join 74 = .ok (.getfield 12, 3) := by decide +kernel
theorem dX4_join_77 : decode cX4_join 77 = .ok (.invokevirtual 31, 3) := by decide +kernel
theorem dX4_join_80 : decode cX4_join 80 = .ok (.if_icmp .ge 17, 3) := by decide +kernel
theorem dX4_join_83 : decode cX4_join 83 = .ok (.aload_n 0, 1) := by decide +kernel
theorem dX4_join_84 : decode cX4_join 84 = .ok (.iload_n 3, 1) := by decide +kernel
theorem dX4_join_85 : decode cX4_join 85 = .ok (.iload 4, 2) := by decide +kernel
theorem dX4_join_87 : decode cX4_join 87 = .ok (.iload_n 1, 1) := by decide +kernel
theorem dX4_join_88 : decode cX4_join 88 = .ok (.invokevirtual 56, 3) := by decide +kernel
theorem dX4_join_91 : decode cX4_join 91 = .ok (.iinc 4 1, 3) := by decide +kernel
theorem dX4_join_94 : decode cX4_join 94 = .ok (.goto (-23), 3) := by decide +kernel
theorem dX4_join_97 : decode cX4_join 97 = .ok (.iinc 2 1, 3) := by decide +kernel
theorem dX4_join_100 : decode cX4_join 100 = .ok (.goto (-51), 3) := by decide +kernel
theorem dX4_join_103 : decode cX4_join 103 = .ok (.iconst 0, 1) := by decide +kernel
theorem dX4_join_104 : decode cX4_join 104 = .ok (.istore_n 2, 1) := by decide +kernel
theorem dX4_join_105 : decode cX4_join 105 = .ok (.iload_n 2, 1) := by decide +kernel
theorem dX4_join_106 : decode cX4_join 106 = .ok (.aload_n 0, 1) := by decide +kernel
theorem dX4_join_107 : decode cX4_join 107 = .ok (.getfield 12, 3) := by decide +kernel
theorem dX4_join_110 : decode cX4_join 110 = .ok (.invokevirtual 31, 3) := by decide +kernel
theorem dX4_join_113 : decode cX4_join 113 = .ok (.if_icmp .ge 36, 3) := by decide +kernel
theorem dX4_join_116 : decode cX4_join 116 = .ok (.aload_n 0, 1) := by decide +kernel
theorem dX4_join_117 : decode cX4_join 117 = .ok (.getfield 12, 3) := by decide +kernel
theorem dX4_join_120 : decode cX4_join 120 = .ok (.iload_n 2, 1) := by decide +kernel
theorem dX4_join_121 : decode cX4_join 121 = .ok (.invokevirtual 63, 3) := by decide +kernel
theorem dX4_join_124 : decode cX4_join 124 = .ok (.checkcast 35, 3) := by decide +kernel
theorem dX4_join_127 : decode cX4_join 127 = .ok (.astore_n 3, 1) := by decide +kernel
theorem dX4_join_128 : decode cX4_join 128 = .ok (.aload_n 3, 1) := by decide +kernel
theorem dX4_join_129 : decode cX4_join 129 = .ok (.aload_n 0, 1) := by decide +kernel
theorem dX4_join_130 : decode cX4_join 130 = .ok (.getfield 23, 3) := by decide +kernel
theorem dX4_join_133 : decode cX4_join 133 = .ok (.aload_n 3, 1) := by decide +kernel
theorem dX4_join_134 : decode cX4_join 134 = .ok (.getfield 67, 3) := by decide +kernel
theorem dX4_join_137 : decode cX4_join 137 = .ok (.invokevirtual 68, 3) := by decide +kernel
theorem dX4_join_140 : decode cX4_join 140 = .ok (.putfield 72, 3) := by decide +kernel
theorem dX4_join_143 : decode cX4_join 143 = .ok (.iinc 2 1, 3) := by decide +kernel
theorem dX4_join_146 : decode cX4_join 146 = .ok (.goto (-41), 3) := by decide +kernel
theorem dX4_join_149 : decode cX4_join 149 = .ok (.return_, 1) := by decide +kernel
theorem dX4_noteSaving_0 : decode cX4_noteSaving 0 = .ok (.aload_n 0, 1) := by decide +kernel
theorem dX4_noteSaving_1 : decode cX4_noteSaving 1 = .ok (.getfield 12, 3) := by decide +kernel
theorem dX4_noteSaving_4 : decode cX4_noteSaving 4 = .ok (.iload_n 1, 1) := by decide +kernel
theorem dX4_noteSaving_5 : decode cX4_noteSaving 5 = .ok (.invokevirtual 63, 3) := by decide +kernel
theorem dX4_noteSaving_8 : decode cX4_noteSaving 8 = .ok (.checkcast 35, 3) := by decide +kernel
theorem dX4_noteSaving_11 : decode cX4_noteSaving 11 = .ok (.astore 4, 2) := by decide +kernel
theorem dX4_noteSaving_13 : decode cX4_noteSaving 13 = .ok (.aload_n 0, 1) := by decide +kernel
theorem dX4_noteSaving_14 : decode cX4_noteSaving 14 = .ok (.getfield 12, 3) := by decide +kernel
theorem dX4_noteSaving_17 : decode cX4_noteSaving 17 = .ok (.iload_n 2, 1) := by decide +kernel
theorem dX4_noteSaving_18 : decode cX4_noteSaving 18 = .ok (.invokevirtual 63, 3) := by decide +kernel
theorem dX4_noteSaving_21 : decode cX4_noteSaving 21 = .ok (.checkcast 35, 3) := by decide +kernel
theorem dX4_noteSaving_24 : decode cX4_noteSaving 24 = .ok (.astore 5, 2) := by decide +kernel
theorem dX4_noteSaving_26 : decode cX4_noteSaving 26 = .ok (.iconst 0, 1) := by decide +kernel
theorem dX4_noteSaving_27 : decode cX4_noteSaving 27 = .ok (.istore 6, 2) := by decide +kernel
theorem dX4_noteSaving_29 : decode cX4_noteSaving 29 = .ok (.aload 4, 2) := by decide +kernel
theorem dX4_noteSaving_31 : decode cX4_noteSaving 31 = .ok (.aload 5, 2) := by decide +kernel
theorem dX4_noteSaving_33 : decode cX4_noteSaving 33 = .ok (.if_acmp .eq 50, 3) := by decide +kernel
theorem dX4_noteSaving_36 : decode cX4_noteSaving 36 = .ok (.aload 4, 2) := by decide +kernel
theorem dX4_noteSaving_38 : decode cX4_noteSaving 38 = .ok (.getfield 76, 3) := by decide +kernel
theorem dX4_noteSaving_41 : decode cX4_noteSaving 41 = .ok (.aload 5, 2) := by decide +kernel
theorem dX4_noteSaving_43 : decode cX4_noteSaving 43 = .ok (.getfield 76, 3) := by decide +kernel
theorem dX4_noteSaving_46 : decode cX4_noteSaving 46 = .ok (.iadd, 1) := by decide +kernel
theorem dX4_noteSaving_47 : decode cX4_noteSaving 47 = .ok (.iload_n 3, 1) := by decide +kernel
theorem dX4_noteSaving_48 : decode cX4_noteSaving 48 = .ok (.if_icmp .gt 35, 3) := by decide +kernel
theorem dX4_noteSaving_51 : decode cX4_noteSaving 51 = .ok (.aload 4, 2) := by decide +kernel
theorem dX4_noteSaving_53 : decode cX4_noteSaving 53 = .ok (.getfield 79, 3) := by decide +kernel
theorem dX4_noteSaving_56 : decode cX4_noteSaving 56 = .ok (.aload 5, 2) := by decide +kernel
theorem dX4_noteSaving_58 : decode cX4_noteSaving 58 = .ok (.getfield 79, 3) := by decide +kernel
theorem dX4_noteSaving_61 : decode cX4_noteSaving 61 = .ok (.iadd, 1) := by decide +kernel
theorem dX4_noteSaving_62 : decode cX4_noteSaving 62 = .ok (.aload_n 0, 1) := by decide +kernel
theorem dX4_noteSaving_63 : decode cX4_noteSaving 63 = .ok (.getfield 23, 3) := by decide +kernel
theorem dX4_noteSaving_66 : decode cX4_noteSaving 66 = .ok (.aload 4, 2) := by decide +kernel
theorem dX4_noteSaving_68 : decode cX4_noteSaving 68 = .ok (.getfield 67, 3) := by decide +kernel
theorem dX4_noteSaving_71 : decode cX4_noteSaving 71 = .ok (.aload 5, 2) := by decide +kernel
theorem dX4_noteSaving_73 : decode cX4_noteSaving 73 = .ok (.getfield 67, 3) := by decide +kernel
theorem dX4_noteSaving_76 : decode cX4_noteSaving 76 = .ok (.ior, 1) := by decide +kernel
theorem dX4_noteSaving_77 : decode cX4_noteSaving 77 = .ok (.invokevirtual 43, 3) := by decide +kernel
theorem dX4_noteSaving_80 : decode cX4_noteSaving 80 = .ok (.isub, 1) := by decide +kernel
theorem dX4_noteSaving_81 : decode cX4_noteSaving 81 = .ok (.istore 6, 2) := by decide +kernel
theorem dX4_noteSaving_83 : decode cX4_noteSaving 83 = .ok (.aload_n 0, 1) := by decide +kernel
theorem dX4_noteSaving_84 : decode cX4_noteSaving 84 = .ok (.getfield 20, 3) := by decide +kernel
theorem dX4_noteSaving_87 : decode cX4_noteSaving 87 = .ok (.aload 4, 2) := by decide +kernel
theorem dX4_noteSaving_89 : decode cX4_noteSaving 89 = .ok (.getfield 82, 3) := by decide +kernel
theorem dX4_noteSaving_92 : decode cX4_noteSaving 92 = .ok (.aaload, 1) := by decide +kernel
theorem dX4_noteSaving_93 : decode cX4_noteSaving 93 = .ok (.aload 5, 2) := by decide +kernel
theorem dX4_noteSaving_95 : decode cX4_noteSaving 95 = .ok (.getfield 82, 3) := by decide +kernel
theorem dX4_noteSaving_98 : decode cX4_noteSaving 98 = .ok (.iload 6, 2) := by decide +kernel
theorem dX4_noteSaving_100 : decode cX4_noteSaving 100 = .ok (.iastore, 1) := by decide +kernel
theorem dX4_noteSaving_101 : decode cX4_noteSaving 101 = .ok (.aload_n 0, 1) := by decide +kernel
theorem dX4_noteSaving_102 : decode cX4_noteSaving 102 = .ok (.getfield 20, 3) := by decide +kernel
theorem dX4_noteSaving_105 : decode cX4_noteSaving 105 = .ok (.aload 5, 2) := by decide +kernel
theorem dX4_noteSaving_107 : decode cX4_noteSaving 107 = .ok (.getfield 82, 3) := by decide +kernel
theorem dX4_noteSaving_110 : decode cX4_noteSaving 110 = .ok (.aaload, 1) := by decide +kernel
theorem dX4_noteSaving_111 : decode cX4_noteSaving 111 = .ok (.aload 4, 2) := by decide +kernel
theorem dX4_noteSaving_113 : decode cX4_noteSaving 113 = .ok (.getfield 82, 3) := by decide +kernel
theorem dX4_noteSaving_116 : decode cX4_noteSaving 116 = .ok (.iload 6, 2) := by decide +kernel
theorem dX4_noteSaving_118 : decode cX4_noteSaving 118 = .ok (.iastore, 1) := by decide +kernel
theorem dX4_noteSaving_119 : decode cX4_noteSaving 119 = .ok (.return_, 1) := by decide +kernel
theorem dX4_savingOf_0 : decode cX4_savingOf 0 = .ok (.aload_n 0, 1) := by decide +kernel
theorem dX4_savingOf_1 : decode cX4_savingOf 1 = .ok (.getfield 20, 3) := by decide +kernel
theorem dX4_savingOf_4 : decode cX4_savingOf 4 = .ok (.aload_n 0, 1) := by decide +kernel
theorem dX4_savingOf_5 : decode cX4_savingOf 5 = .ok (.getfield 12, 3) := by decide +kernel
theorem dX4_savingOf_8 : decode cX4_savingOf 8 = .ok (.iload_n 1, 1) := by decide +kernel
theorem dX4_savingOf_9 : decode cX4_savingOf 9 = .ok (.invokevirtual 63, 3) := by decide +kernel
theorem dX4_savingOf_12 : decode cX4_savingOf 12 = .ok (.checkcast 35, 3) := by decide +kernel
theorem dX4_savingOf_15 : decode cX4_savingOf 15 = .ok (.getfield 82, 3) := by decide +kernel
theorem dX4_savingOf_18 : decode cX4_savingOf 18 = .ok (.aaload, 1) := by decide +kernel
theorem dX4_savingOf_19 : decode cX4_savingOf 19 = .ok (.aload_n 0, 1) := by decide +kernel
theorem dX4_savingOf_20 : decode cX4_savingOf 20 = .ok (.getfield 12, 3) := by decide +kernel
theorem dX4_savingOf_23 : decode cX4_savingOf 23 = .ok (.iload_n 2, 1) := by decide +kernel
theorem dX4_savingOf_24 : decode cX4_savingOf 24 = .ok (.invokevirtual 63, 3) := by decide +kernel
theorem dX4_savingOf_27 : decode cX4_savingOf 27 = .ok (.checkcast 35, 3) := by decide +kernel
theorem dX4_savingOf_30 : decode cX4_savingOf 30 = .ok (.getfield 82, 3) := by decide +kernel
theorem dX4_savingOf_33 : decode cX4_savingOf 33 = .ok (.iaload, 1) := by decide +kernel
theorem dX4_savingOf_34 : decode cX4_savingOf 34 = .ok (.ireturn, 1) := by decide +kernel
theorem dX4_joinBestPair_0 : decode cX4_joinBestPair 0 = .ok (.iconst 0, 1) := by decide +kernel
theorem dX4_joinBestPair_1 : decode cX4_joinBestPair 1 = .ok (.istore_n 1, 1) := by decide +kernel
theorem dX4_joinBestPair_2 : decode cX4_joinBestPair 2 = .ok (.iconst (-1), 1) := by decide +kernel
theorem dX4_joinBestPair_3 : decode cX4_joinBestPair 3 = .ok (.istore_n 2, 1) := by decide +kernel
theorem dX4_joinBestPair_4 : decode cX4_joinBestPair 4 = .ok (.iconst (-1), 1) := by decide +kernel
theorem dX4_joinBestPair_5 : decode cX4_joinBestPair 5 = .ok (.istore_n 3, 1) := by decide +kernel
theorem dX4_joinBestPair_6 : decode cX4_joinBestPair 6 = .ok (.iconst 0, 1) := by decide +kernel
theorem dX4_joinBestPair_7 : decode cX4_joinBestPair 7 = .ok (.istore 4, 2) := by decide +kernel
theorem dX4_joinBestPair_9 : decode cX4_joinBestPair 9 = .ok (.iload 4, 2) := by decide +kernel
theorem dX4_joinBestPair_11 : decode cX4_joinBestPair 11 = .ok (.aload_n 0, 1) := by decide +kernel
theorem dX4_joinBestPair_12 : decode cX4_joinBestPair 12 = .ok (.getfield 12, 3) := by decide +kernel
theorem dX4_joinBestPair_15 : decode cX4_joinBestPair 15 = .ok (.invokevirtual 31, 3) := by decide +kernel
theorem dX4_joinBestPair_18 : decode cX4_joinBestPair 18 = .ok (.if_icmp .ge 58, 3) := by decide +kernel
theorem dX4_joinBestPair_21 : decode cX4_joinBestPair 21 = .ok (.iload 4, 2) := by decide +kernel
theorem dX4_joinBestPair_23 : decode cX4_joinBestPair 23 = .ok (.iconst 1, 1) := by decide +kernel
theorem dX4_joinBestPair_24 : decode cX4_joinBestPair 24 = .ok (.iadd, 1) := by decide +kernel
theorem dX4_joinBestPair_25 : decode cX4_joinBestPair 25 = .ok (.istore 5, 2) := by decide +kernel
theorem dX4_joinBestPair_27 : decode cX4_joinBestPair 27 = .ok (.iload 5, 2) := by decide +kernel
theorem dX4_joinBestPair_29 : decode cX4_joinBestPair 29 = .ok (.aload_n 0, 1) := by decide +kernel
theorem dX4_joinBestPair_30 : decode cX4_joinBestPair 30 = .ok (.getfield 12, 3) := by decide +kernel
theorem dX4_joinBestPair_33 : decode cX4_joinBestPair 33 = .ok (.invokevirtual 31, 3) := by decide +kernel
theorem dX4_joinBestPair_36 : decode cX4_joinBestPair 36 = .ok (.if_icmp .ge 34, 3) := by decide +kernel
theorem dX4_joinBestPair_39 : decode cX4_joinBestPair 39 = .ok (.aload_n 0, 1) := by decide +kernel
theorem dX4_joinBestPair_40 : decode cX4_joinBestPair 40 = .ok (.iload 4, 2) := by decide +kernel
theorem dX4_joinBestPair_42 : decode cX4_joinBestPair 42 = .ok (.iload 5, 2) := by decide +kernel
theorem dX4_joinBestPair_44 : decode cX4_joinBestPair 44 = .ok (.invokevirtual 85, 3) := by decide +kernel
theorem dX4_joinBestPair_47 : decode cX4_joinBestPair 47 = .ok (.istore 6, 2) := by decide +kernel
theorem dX4_joinBestPair_49 : decode cX4_joinBestPair 49 = .ok (.iload 6, 2) := by decide +kernel
theorem dX4_joinBestPair_51 : decode cX4_joinBestPair 51 = .ok (.iload_n 1, 1) := by decide +kernel
theorem dX4_joinBestPair_52 : decode cX4_joinBestPair 52 = .ok (.if_icmp .le 12, 3) := by decide +kernel
theorem dX4_joinBestPair_55 : decode cX4_joinBestPair 55 = .ok (.iload 6, 2) := by decide +kernel
theorem dX4_joinBestPair_57 : decode cX4_joinBestPair 57 = .ok (.istore_n 1, 1) := by decide +kernel
theorem dX4_joinBestPair_58 : decode cX4_joinBestPair 58 = .ok (.iload 4, 2) := by decide +kernel
theorem dX4_joinBestPair_60 : decode cX4_joinBestPair 60 = .ok (.istore_n 2, 1) := by decide +kernel
theorem dX4_joinBestPair_61 : decode cX4_joinBestPair 61 = .ok (.iload 5, 2) := by decide +kernel
theorem dX4_joinBestPair_63 : decode cX4_joinBestPair 63 = .ok (.istore_n 3, 1) := by decide +kernel
theorem dX4_joinBestPair_64 : decode cX4_joinBestPair 64 = .ok (.iinc 5 1, 3) := by decide +kernel
theorem dX4_joinBestPair_67 : decode cX4_joinBestPair 67 = .ok (.goto (-40), 3) := by decide +kernel
theorem dX4_joinBestPair_70 : decode cX4_joinBestPair 70 = .ok (.iinc 4 1, 3) := by decide +kernel
theorem dX4_joinBestPair_73 : decode cX4_joinBestPair 73 = .ok (.goto (-64), 3) := by decide +kernel
theorem dX4_joinBestPair_76 : decode cX4_joinBestPair 76 = .ok (.iload_n 1, 1) := by decide +kernel
theorem dX4_joinBestPair_77 : decode cX4_joinBestPair 77 = .ok (.ifCond .le 38, 3) := by decide +kernel
theorem dX4_joinBestPair_80 : decode cX4_joinBestPair 80 = .ok (.aload_n 0, 1) := by decide +kernel
theorem dX4_joinBestPair_81 : decode cX4_joinBestPair 81 = .ok (.getfield 12, 3) := by decide +kernel
theorem dX4_joinBestPair_84 : decode cX4_joinBestPair 84 = .ok (.iload_n 2, 1) := by decide +kernel
theorem dX4_joinBestPair_85 : decode cX4_joinBestPair 85 = .ok (.invokevirtual 63, 3) := by decide +kernel
theorem dX4_joinBestPair_88 : decode cX4_joinBestPair 88 = .ok (.checkcast 35, 3) := by decide +kernel
theorem dX4_joinBestPair_91 : decode cX4_joinBestPair 91 = .ok (.aload_n 0, 1) := by decide +kernel
theorem dX4_joinBestPair_92 : decode cX4_joinBestPair 92 = .ok (.getfield 12, 3) := by decide +kernel
theorem dX4_joinBestPair_95 : decode cX4_joinBestPair 95 = .ok (.iload_n 3, 1) := by decide +kernel
theorem dX4_joinBestPair_96 : decode cX4_joinBestPair 96 = .ok (.invokevirtual 63, 3) := by decide +kernel
theorem dX4_joinBestPair_99 : decode cX4_joinBestPair 99 = .ok (.checkcast 35, 3) := by decide +kernel
theorem dX4_joinBestPair_102 : decode cX4_joinBestPair 102 = .ok (.iload_n 1, 1) := by decide +kernel
theorem dX4_joinBestPair_103 : decode cX4_joinBestPair 103 = .ok (.invokevirtual 89, 3) := by decide +kernel
theorem dX4_joinBestPair_106 : decode cX4_joinBestPair 106 = .ok (.aload_n 0, 1) := by decide +kernel
theorem dX4_joinBestPair_107 : decode cX4_joinBestPair 107 = .ok (.getfield 12, 3) := by decide +kernel
theorem dX4_joinBestPair_110 : decode cX4_joinBestPair 110 = .ok (.iload_n 3, 1) := by decide +kernel
theorem dX4_joinBestPair_111 : decode cX4_joinBestPair 111 = .ok (.invokevirtual 93, 3) := by decide +kernel
theorem dX4_joinBestPair_114 : decode cX4_joinBestPair 114 = .ok (.pop, 1) := by decide +kernel
theorem dX4_joinBestPair_115 : decode cX4_joinBestPair 115 = .ok (.iload_n 2, 1) := by decide +kernel
theorem dX4_joinBestPair_116 : decode cX4_joinBestPair 116 = .ok (.ireturn, 1) := by decide +kernel
theorem dX4_drop_0 : decode cX4_drop 0 = .ok (.iload_n 1, 1) := by decide +kernel
theorem dX4_drop_1 : decode cX4_drop 1 = .ok (.ifCond .lt 23, 3) := by decide +kernel
theorem dX4_drop_4 : decode cX4_drop 4 = .ok (.iload_n 1, 1) := by decide +kernel
theorem dX4_drop_5 : decode cX4_drop 5 = .ok (.aload_n 0, 1) := by decide +kernel
theorem dX4_drop_6 : decode cX4_drop 6 = .ok (.getfield 12, 3) := by decide +kernel
theorem dX4_drop_9 : decode cX4_drop 9 = .ok (.invokevirtual 31, 3) := by decide +kernel
theorem dX4_drop_12 : decode cX4_drop 12 = .ok (.if_icmp .ge 12, 3) := by decide +kernel
theorem dX4_drop_15 : decode cX4_drop 15 = .ok (.aload_n 0, 1) := by decide +kernel
theorem dX4_drop_16 : decode cX4_drop 16 = .ok (.getfield 12, 3) := by decide +kernel
theorem dX4_drop_19 : decode cX4_drop 19 = .ok (.iload_n 1, 1) := by decide +kernel
theorem dX4_drop_20 : decode cX4_drop 20 = .ok (.invokevirtual 93, 3) := by decide +kernel
theorem dX4_drop_23 : decode cX4_drop 23 = .ok (.pop, 1) := by decide +kernel
theorem dX4_drop_24 : decode cX4_drop 24 = .ok (.return_, 1) := by decide +kernel
theorem dX4_batchWith_0 : decode cX4_batchWith 0 = .ok (.iconst 0, 1) := by decide +kernel
theorem dX4_batchWith_1 : decode cX4_batchWith 1 = .ok (.istore_n 2, 1) := by decide +kernel
theorem dX4_batchWith_2 : decode cX4_batchWith 2 = .ok (.iload_n 2, 1) := by decide +kernel
theorem dX4_batchWith_3 : decode cX4_batchWith 3 = .ok (.aload_n 0, 1) := by decide +kernel
theorem dX4_batchWith_4 : decode cX4_batchWith 4 = .ok (.getfield 12, 3) := by decide +kernel
theorem dX4_batchWith_7 : decode cX4_batchWith 7 = .ok (.invokevirtual 31, 3) := by decide +kernel
theorem dX4_batchWith_10 : decode cX4_batchWith 10 = .ok (.if_icmp .ge 29, 3) := by decide +kernel
theorem dX4_batchWith_13 : decode cX4_batchWith 13 = .ok (.aload_n 0, 1) := by decide +kernel
theorem dX4_batchWith_14 : decode cX4_batchWith 14 = .ok (.getfield 12, 3) := by decide +kernel
theorem dX4_batchWith_17 : decode cX4_batchWith 17 = .ok (.iload_n 2, 1) := by decide +kernel
theorem dX4_batchWith_18 : decode cX4_batchWith 18 = .ok (.invokevirtual 63, 3) := by decide +kernel
theorem dX4_batchWith_21 : decode cX4_batchWith 21 = .ok (.checkcast 35, 3) := by decide +kernel
theorem dX4_batchWith_24 : decode cX4_batchWith 24 = .ok (.iload_n 1, 1) := by decide +kernel
theorem dX4_batchWith_25 : decode cX4_batchWith 25 = .ok (.invokevirtual 96, 3) := by decide +kernel
theorem dX4_batchWith_28 : decode cX4_batchWith 28 = .ok (.ifCond .eq 5, 3) := by decide +kernel
theorem dX4_batchWith_31 : decode cX4_batchWith 31 = .ok (.iload_n 2, 1) := by decide +kernel
theorem dX4_batchWith_32 : decode cX4_batchWith 32 = .ok (.ireturn, 1) := by decide +kernel
theorem dX4_batchWith_33 : decode cX4_batchWith 33 = .ok (.iinc 2 1, 3) := by decide +kernel
theorem dX4_batchWith_36 : decode cX4_batchWith 36 = .ok (.goto (-34), 3) := by decide +kernel
theorem dX4_batchWith_39 : decode cX4_batchWith 39 = .ok (.iconst (-1), 1) := by decide +kernel
theorem dX4_batchWith_40 : decode cX4_batchWith 40 = .ok (.ireturn, 1) := by decide +kernel
theorem dX4_countIn_0 : decode cX4_countIn 0 = .ok (.iconst 0, 1) := by decide +kernel
theorem dX4_countIn_1 : decode cX4_countIn 1 = .ok (.istore_n 2, 1) := by decide +kernel
theorem dX4_countIn_2 : decode cX4_countIn 2 = .ok (.iconst 0, 1) := by decide +kernel
theorem dX4_countIn_3 : decode cX4_countIn 3 = .ok (.istore_n 3, 1) := by decide +kernel
theorem dX4_countIn_4 : decode cX4_countIn 4 = .ok (.iload_n 3, 1) := by decide +kernel
theorem dX4_countIn_5 : decode cX4_countIn 5 = .ok (.aload_n 0, 1) := by decide +kernel
theorem dX4_countIn_6 : decode cX4_countIn 6 = .ok (.getfield 12, 3) := by decide +kernel
theorem dX4_countIn_9 : decode cX4_countIn 9 = .ok (.invokevirtual 31, 3) := by decide +kernel
theorem dX4_countIn_12 : decode cX4_countIn 12 = .ok (.if_icmp .ge 30, 3) := by decide +kernel
theorem dX4_countIn_15 : decode cX4_countIn 15 = .ok (.aload_n 0, 1) := by decide +kernel
theorem dX4_countIn_16 : decode cX4_countIn 16 = .ok (.getfield 12, 3) := by decide +kernel
theorem dX4_countIn_19 : decode cX4_countIn 19 = .ok (.iload_n 3, 1) := by decide +kernel
theorem dX4_countIn_20 : decode cX4_countIn 20 = .ok (.invokevirtual 63, 3) := by decide +kernel
theorem dX4_countIn_23 : decode cX4_countIn 23 = .ok (.checkcast 35, 3) := by decide +kernel
theorem dX4_countIn_26 : decode cX4_countIn 26 = .ok (.iload_n 1, 1) := by decide +kernel
theorem dX4_countIn_27 : decode cX4_countIn 27 = .ok (.invokevirtual 100, 3) := by decide +kernel
theorem dX4_countIn_30 : decode cX4_countIn 30 = .ok (.ifCond .eq 6, 3) := by decide +kernel
theorem dX4_countIn_33 : decode cX4_countIn 33 = .ok (.iinc 2 1, 3) := by decide +kernel
theorem dX4_countIn_36 : decode cX4_countIn 36 = .ok (.iinc 3 1, 3) := by decide +kernel
theorem dX4_countIn_39 : decode cX4_countIn 39 = .ok (.goto (-35), 3) := by decide +kernel
theorem dX4_countIn_42 : decode cX4_countIn 42 = .ok (.iload_n 2, 1) := by decide +kernel
theorem dX4_countIn_43 : decode cX4_countIn 43 = .ok (.ireturn, 1) := by decide +kernel
end
section
theorem dX5_init_0 : decode cX5_init 0 = .ok (.aload_n 0, 1) := by decide +kernel
theorem dX5_init_1 : decode cX5_init 1 = .ok (.invokespecial 1, 3) := by decide +kernel
theorem dX5_init_4 : decode cX5_init 4 = .ok (.aload_n 0, 1) := by decide +kernel
theorem dX5_init_5 : decode cX5_init 5 = .ok (.new 7, 3) := by decide +kernel
theorem dX5_init_8 : decode cX5_init 8 = .ok (.dup, 1) := by decide +kernel
theorem dX5_init_9 : decode cX5_init 9 = .ok (.iload_n 1, 1) := by decide +kernel
theorem dX5_init_10 : decode cX5_init 10 = .ok (.bipush 6, 2) := by decide +kernel
theorem dX5_init_12 : decode cX5_init 12 = .ok (.invokestatic 11, 3) := by decide +kernel
theorem dX5_init_15 : decode cX5_init 15 = .ok (.iload_n 2, 1) := by decide +kernel
theorem dX5_init_16 : decode cX5_init 16 = .ok (.bipush 20, 2) := by decide +kernel
theorem dX5_init_18 : decode cX5_init 18 = .ok (.invokestatic 11, 3) := by decide +kernel
theorem dX5_init_21 : decode cX5_init 21 = .ok (.iload_n 3, 1) := by decide +kernel
theorem dX5_init_22 : decode cX5_init 22 = .ok (.bipush 9, 2) := by decide +kernel
theorem dX5_init_24 : decode cX5_init 24 = .ok (.invokestatic 11, 3) := by decide +kernel
theorem dX5_init_27 : decode cX5_init 27 = .ok (.invokespecial 15, 3) := by decide +kernel
theorem dX5_init_30 : decode cX5_init 30 = .ok (.putfield 18, 3) := by decide +kernel
theorem dX5_init_33 : decode cX5_init 33 = .ok (.aload_n 0, 1) := by decide +kernel
theorem dX5_init_34 : decode cX5_init 34 = .ok (.new 22, 3) := by decide +kernel
theorem dX5_init_37 : decode cX5_init 37 = .ok (.dup, 1) := by decide +kernel
theorem dX5_init_38 : decode cX5_init 38 = .ok (.aload_n 0, 1) := by decide +kernel
theorem dX5_init_39 : decode cX5_init 39 = .ok (.getfield 18, 3) := by decide +kernel
theorem dX5_init_42 : decode cX5_init 42 = .ok (.invokespecial 24, 3) := by decide +kernel
theorem dX5_init_45 : decode cX5_init 45 = .ok (.putfield 27, 3) := by decide +kernel
theorem dX5_init_48 : decode cX5_init 48 = .ok (.aload_n 0, 1) := by decide +kernel
theorem dX5_init_49 : decode cX5_init 49 = .ok (.new 31, 3) := by decide +kernel
theorem dX5_init_52 : decode cX5_init 52 = .ok (.dup, 1) := by decide +kernel
theorem dX5_init_53 : decode cX5_init 53 = .ok (.aload_n 0, 1) := by decide +kernel
theorem dX5_init_54 : decode cX5_init 54 = .ok (.getfield 27, 3) := by decide +kernel
theorem dX5_init_57 : decode cX5_init 57 = .ok (.invokespecial 33, 3) := by decide +kernel
theorem dX5_init_60 : decode cX5_init 60 = .ok (.putfield 36, 3) := by decide +kernel
theorem dX5_init_63 : decode cX5_init 63 = .ok (.aload_n 0, 1) := by decide +kernel
theorem dX5_init_64 : decode cX5_init 64 = .ok (.new 40, 3) := by decide +kernel
theorem dX5_init_67 : decode cX5_init 67 = .ok (.dup, 1) := by decide +kernel
theorem dX5_init_68 : decode cX5_init 68 = .ok (.invokespecial 42, 3) := by decide +kernel
theorem dX5_init_71 : decode cX5_init 71 = .ok (.putfield 43, 3) := by decide +kernel
theorem dX5_init_74 : decode cX5_init 74 = .ok (.aload_n 0, 1) := by decide +kernel
theorem dX5_init_75 : decode cX5_init 75 = .ok (.bipush 6, 2) := by decide +kernel
theorem dX5_init_77 : decode cX5_init 77 = .ok (.putfield 47, 3) := by decide +kernel
theorem dX5_init_80 : decode cX5_init 80 = .ok (.return_, 1) := by decide +kernel
theorem dX5_put_0 : decode cX5_put 0 = .ok (.iload_n 1, 1) := by decide +kernel
theorem dX5_put_1 : decode cX5_put 1 = .ok (.invokestatic 51, 3) := by decide +kernel
theorem dX5_put_4 : decode cX5_put 4 = .ok (.aload_n 0, 1) := by decide +kernel
theorem dX5_put_5 : decode cX5_put 5 = .ok (.getfield 18, 3) := by decide +kernel
theorem dX5_put_8 : decode cX5_put 8 = .ok (.iload_n 2, 1) := by decide +kernel
theorem dX5_put_9 : decode cX5_put 9 = .ok (.invokevirtual 55, 3) := by decide +kernel
theorem dX5_put_12 : decode cX5_put 12 = .ok (.ifCond .eq 14, 3) := by decide +kernel
theorem dX5_put_15 : decode cX5_put 15 = .ok (.aload_n 0, 1) := by decide +kernel
theorem dX5_put_16 : decode cX5_put 16 = .ok (.getfield 18, 3) := by decide +kernel
theorem dX5_put_19 : decode cX5_put 19 = .ok (.iload_n 3, 1) := by decide +kernel
theorem dX5_put_20 : decode cX5_put 20 = .ok (.invokevirtual 59, 3) := by decide +kernel
theorem dX5_put_23 : decode cX5_put 23 = .ok (.ifCond .ne 13, 3) := by decide +kernel
theorem dX5_put_26 : decode cX5_put 26 = .ok (.new 62, 3) := by decide +kernel
theorem dX5_put_29 : decode cX5_put 29 = .ok (.dup, 1) := by decide +kernel
theorem dX5_put_30 : decode cX5_put 30 = .ok (.ldc 64, 2) := by decide +kernel
theorem dX5_put_32 : decode cX5_put 32 = .ok (.invokespecial 66, 3) := by decide +kernel
theorem dX5_put_35 : decode cX5_put 35 = .ok (.athrow, 1) := by decide +kernel
theorem dX5_put_36 : decode cX5_put 36 = .ok (.iload_n 2, 1) := by decide +kernel
theorem dX5_put_37 : decode cX5_put 37 = .ok (.bipush 100, 2) := by decide +kernel
theorem dX5_put_39 : decode cX5_put 39 = .ok (.imul, 1) := by decide +kernel
theorem dX5_put_40 : decode cX5_put 40 = .ok (.iload_n 3, 1) := by decide +kernel
theorem dX5_put_41 : decode cX5_put 41 = .ok (.iadd, 1) := by decide +kernel
theorem dX5_put_42 : decode cX5_put 42 = .ok (.istore 4, 2) := by decide +kernel
theorem dX5_put_44 : decode cX5_put 44 = .ok (.aload_n 0, 1) := by decide +kernel
theorem dX5_put_45 : decode cX5_put 45 = .ok (.getfield 18, 3) := by decide +kernel
theorem dX5_put_48 : decode cX5_put 48 = .ok (.iload 4, 2) := by decide +kernel
theorem dX5_put_50 : decode cX5_put 50 = .ok (.invokevirtual 69, 3) := by decide +kernel
theorem dX5_put_53 : decode cX5_put 53 = .ok (.istore 5, 2) := by decide +kernel
theorem dX5_put_55 : decode cX5_put 55 = .ok (.aload_n 0, 1) := by decide +kernel
theorem dX5_put_56 : decode cX5_put 56 = .ok (.getfield 36, 3) := by decide +kernel
theorem dX5_put_59 : decode cX5_put 59 = .ok (.invokevirtual 73, 3) := by decide +kernel
theorem dX5_put_62 : decode cX5_put 62 = .ok (.ifCond .ne 15, 3) := by decide +kernel
theorem dX5_put_65 : decode cX5_put 65 = .ok (.iload 5, 2) := by decide +kernel
theorem dX5_put_67 : decode cX5_put 67 = .ok (.iconst (-1), 1) := by decide +kernel
theorem dX5_put_68 : decode cX5_put 68 = .ok (.if_icmp .eq 19, 3) := by decide +kernel
theorem dX5_put_71 : decode cX5_put 71 = .ok (.iload 5, 2) := by decide +kernel
theorem dX5_put_73 : decode cX5_put 73 = .ok (.iload_n 1, 1) := by decide +kernel
theorem dX5_put_74 : decode cX5_put 74 = .ok (.if_icmp .eq 13, 3) := by decide +kernel
theorem dX5_put_77 : decode cX5_put 77 = .ok (.new 77, 3) := by decide +kernel
theorem dX5_put_80 : decode cX5_put 80 = .ok (.dup, 1) := by decide +kernel
theorem dX5_put_81 : decode cX5_put 81 = .ok (.ldc 79, 2) := by decide +kernel
theorem dX5_put_83 : decode cX5_put 83 = .ok (.invokespecial 81, 3) := by decide +kernel
theorem dX5_put_86 : decode cX5_put 86 = .ok (.athrow, 1) := by decide +kernel
theorem dX5_put_87 : decode cX5_put 87 = .ok (.aload_n 0, 1) := by decide +kernel
theorem dX5_put_88 : decode cX5_put 88 = .ok (.getfield 18, 3) := by decide +kernel
theorem dX5_put_91 : decode cX5_put 91 = .ok (.iload_n 1, 1) := by decide +kernel
theorem dX5_put_92 : decode cX5_put 92 = .ok (.iload 4, 2) := by decide +kernel
theorem dX5_put_94 : decode cX5_put 94 = .ok (.invokevirtual 82, 3) := by decide +kernel
theorem dX5_put_97 : decode cX5_put 97 = .ok (.ireturn, 1) := by decide +kernel
theorem dX5_layOut_0 : decode cX5_layOut 0 = .ok (.aload_n 0, 1) := by decide +kernel
theorem dX5_layOut_1 : decode cX5_layOut 1 = .ok (.getfield 36, 3) := by decide +kernel
theorem dX5_layOut_4 : decode cX5_layOut 4 = .ok (.invokevirtual 73, 3) := by decide +kernel
theorem dX5_layOut_7 : decode cX5_layOut 7 = .ok (.ifCond .eq 13, 3) := by decide +kernel
theorem dX5_layOut_10 : decode cX5_layOut 10 = .ok (.new 77, 3) := by decide +kernel
theorem dX5_layOut_13 : decode cX5_layOut 13 = .ok (.dup, 1) := by decide +kernel
theorem dX5_layOut_14 : decode cX5_layOut 14 = .ok (.ldc 85, 2) := by decide +kernel
theorem dX5_layOut_16 : decode cX5_layOut 16 = .ok (.invokespecial 81, 3) := by decide +kernel
theorem dX5_layOut_19 : decode cX5_layOut 19 = .ok (.athrow, 1) := by decide +kernel
theorem dX5_layOut_20 : decode cX5_layOut 20 = .ok (.aload_n 0, 1) := by decide +kernel
theorem dX5_layOut_21 : decode cX5_layOut 21 = .ok (.getfield 18, 3) := by decide +kernel
theorem dX5_layOut_24 : decode cX5_layOut 24 = .ok (.invokevirtual 87, 3) := by decide +kernel
theorem dX5_layOut_27 : decode cX5_layOut 27 = .ok (.ireturn, 1) := by decide +kernel
theorem dX5_placeOf_0 : decode cX5_placeOf 0 = .ok (.iload_n 1, 1) := by decide +kernel
theorem dX5_placeOf_1 : decode cX5_placeOf 1 = .ok (.invokestatic 51, 3) := by decide +kernel
theorem dX5_placeOf_4 : decode cX5_placeOf 4 = .ok (.aload_n 0, 1) := by decide +kernel
theorem dX5_placeOf_5 : decode cX5_placeOf 5 = .ok (.getfield 18, 3) := by decide +kernel
theorem dX5_placeOf_8 : decode cX5_placeOf 8 = .ok (.getfield 91, 3) := by decide +kernel
theorem dX5_placeOf_11 : decode cX5_placeOf 11 = .ok (.iload_n 1, 1) := by decide +kernel
theorem dX5_placeOf_12 : decode cX5_placeOf 12 = .ok (.iaload, 1) := by decide +kernel
theorem dX5_placeOf_13 : decode cX5_placeOf 13 = .ok (.ireturn, 1) := by decide +kernel
theorem dX5_turnover_0 : decode cX5_turnover 0 = .ok (.iload_n 1, 1) := by decide +kernel
theorem dX5_turnover_1 : decode cX5_turnover 1 = .ok (.invokestatic 51, 3) := by decide +kernel
theorem dX5_turnover_4 : decode cX5_turnover 4 = .ok (.aload_n 0, 1) := by decide +kernel
theorem dX5_turnover_5 : decode cX5_turnover 5 = .ok (.getfield 18, 3) := by decide +kernel
theorem dX5_turnover_8 : decode cX5_turnover 8 = .ok (.getfield 95, 3) := by decide +kernel
theorem dX5_turnover_11 : decode cX5_turnover 11 = .ok (.iload_n 1, 1) := by decide +kernel
theorem dX5_turnover_12 : decode cX5_turnover 12 = .ok (.iaload, 1) := by decide +kernel
theorem dX5_turnover_13 : decode cX5_turnover 13 = .ok (.ireturn, 1) := by decide +kernel
theorem dX5_distance_0 : decode cX5_distance 0 = .ok (.iload_n 1, 1) := by decide +kernel
theorem dX5_distance_1 : decode cX5_distance 1 = .ok (.invokestatic 51, 3) := by decide +kernel
theorem dX5_distance_4 : decode cX5_distance 4 = .ok (.iload_n 2, 1) := by decide +kernel
theorem dX5_distance_5 : decode cX5_distance 5 = .ok (.invokestatic 51, 3) := by decide +kernel
theorem dX5_distance_8 : decode cX5_distance 8 = .ok (.aload_n 0, 1) := by decide +kernel
theorem dX5_distance_9 : decode cX5_distance 9 = .ok (.getfield 18, 3) := by decide +kernel
theorem dX5_distance_12 : decode cX5_distance 12 = .ok (.getfield 91, 3) := by decide +kernel
theorem dX5_distance_15 : decode cX5_distance 15 = .ok (.iload_n 1, 1) := by decide +kernel
theorem dX5_distance_16 : decode cX5_distance 16 = .ok (.iaload, 1) := by decide +kernel
theorem dX5_distance_17 : decode cX5_distance 17 = .ok (.istore_n 3, 1) := by decide +kernel
theorem dX5_distance_18 : decode cX5_distance 18 = .ok (.aload_n 0, 1) := by decide +kernel
theorem dX5_distance_19 : decode cX5_distance 19 = .ok (.getfield 18, 3) := by decide +kernel
theorem dX5_distance_22 : decode cX5_distance 22 = .ok (.getfield 91, 3) := by decide +kernel
theorem dX5_distance_25 : decode cX5_distance 25 = .ok (.iload_n 2, 1) := by decide +kernel
theorem dX5_distance_26 : decode cX5_distance 26 = .ok (.iaload, 1) := by decide +kernel
theorem dX5_distance_27 : decode cX5_distance 27 = .ok (.istore 4, 2) := by decide +kernel
theorem dX5_distance_29 : decode cX5_distance 29 = .ok (.iload_n 3, 1) := by decide +kernel
theorem dX5_distance_30 : decode cX5_distance 30 = .ok (.iconst (-1), 1) := by decide +kernel
theorem dX5_distance_31 : decode cX5_distance 31 = .ok (.if_icmp .eq 9, 3) := by decide +kernel
theorem dX5_distance_34 : decode cX5_distance 34 = .ok (.iload 4, 2) := by decide +kernel
theorem dX5_distance_36 : decode cX5_distance 36 = .ok (.iconst (-1), 1) := by decide +kernel
theorem dX5_distance_37 : decode cX5_distance 37 = .ok (.if_icmp .ne 13, 3) := by decide +kernel
theorem dX5_distance_40 : decode cX5_distance 40 = .ok (.new 77, 3) := by decide +kernel
theorem dX5_distance_43 : decode cX5_distance 43 = .ok (.dup, 1) := by decide +kernel
theorem dX5_distance_44 : decode cX5_distance 44 = .ok (.ldc 98, 2) := by decide +kernel
theorem dX5_distance_46 : decode cX5_distance 46 = .ok (.invokespecial 81, 3) := by decide +kernel
theorem dX5_distance_49 : decode cX5_distance 49 = .ok (.athrow, 1) := by decide +kernel
theorem dX5_distance_50 : decode cX5_distance 50 = .ok (.aload_n 0, 1) := by decide +kernel
theorem dX5_distance_51 : decode cX5_distance 51 = .ok (.getfield 18, 3) := by decide +kernel
theorem dX5_distance_54 : decode cX5_distance 54 = .ok (.iload_n 3, 1) := by decide +kernel
theorem dX5_distance_55 : decode cX5_distance 55 = .ok (.iload 4, 2) := by decide +kernel
theorem dX5_distance_57 : decode cX5_distance 57 = .ok (.invokevirtual 100, 3) := by decide +kernel
theorem dX5_distance_60 : decode cX5_distance 60 = .ok (.ireturn, 1) := by decide +kernel
theorem dX5_order_0 : decode cX5_order 0 = .ok (.iload_n 1, 1) := by decide +kernel
theorem dX5_order_1 : decode cX5_order 1 = .ok (.invokestatic 103, 3) := by decide +kernel
theorem dX5_order_4 : decode cX5_order 4 = .ok (.aload_n 0, 1) := by decide +kernel
theorem dX5_order_5 : decode cX5_order 5 = .ok (.getfield 43, 3) := by decide +kernel
theorem dX5_order_8 : decode cX5_order 8 = .ok (.invokevirtual 106, 3) := by decide +kernel
theorem dX5_order_11 : decode cX5_order 11 = .ok (.bipush 40, 2) := by decide +kernel
theorem dX5_order_13 : decode cX5_order 13 = .ok (.if_icmp .lt 13, 3) := by decide +kernel
theorem dX5_order_16 : decode cX5_order 16 = .ok (.new 77, 3) := by decide +kernel
theorem dX5_order_19 : decode cX5_order 19 = .ok (.dup, 1) := by decide +kernel
theorem dX5_order_20 : decode cX5_order 20 = .ok (.ldc 109, 2) := by decide +kernel
theorem dX5_order_22 : decode cX5_order 22 = .ok (.invokespecial 81, 3) := by decide +kernel
theorem dX5_order_25 : decode cX5_order 25 = .ok (.athrow, 1) := by decide +kernel
theorem dX5_order_26 : decode cX5_order 26 = .ok (.aload_n 0, 1) := by decide +kernel
theorem dX5_order_27 : decode cX5_order 27 = .ok (.getfield 43, 3) := by decide +kernel
theorem dX5_order_30 : decode cX5_order 30 = .ok (.new 111, 3) := by decide +kernel
theorem dX5_order_33 : decode cX5_order 33 = .ok (.dup, 1) := by decide +kernel
theorem dX5_order_34 : decode cX5_order 34 = .ok (.iload_n 1, 1) := by decide +kernel
theorem dX5_order_35 : decode cX5_order 35 = .ok (.invokespecial 113, 3) := by decide +kernel
theorem dX5_order_38 : decode cX5_order 38 = .ok (.invokevirtual 115, 3) := by decide +kernel
theorem dX5_order_41 : decode cX5_order 41 = .ok (.pop, 1) := by decide +kernel
theorem dX5_order_42 : decode cX5_order 42 = .ok (.aload_n 0, 1) := by decide +kernel
theorem dX5_order_43 : decode cX5_order 43 = .ok (.getfield 43, 3) := by decide +kernel
theorem dX5_order_46 : decode cX5_order 46 = .ok (.invokevirtual 106, 3) := by decide +kernel
theorem dX5_order_49 : decode cX5_order 49 = .ok (.iconst 1, 1) := by decide +kernel
theorem dX5_order_50 : decode cX5_order 50 = .ok (.isub, 1) := by decide +kernel
theorem dX5_order_51 : decode cX5_order 51 = .ok (.ireturn, 1) := by decide +kernel
theorem dX5_line_0 : decode cX5_line 0 = .ok (.aload_n 0, 1) := by decide +kernel
theorem dX5_line_1 : decode cX5_line 1 = .ok (.iload_n 1, 1) := by decide +kernel
theorem dX5_line_2 : decode cX5_line 2 = .ok (.invokevirtual 119, 3) := by decide +kernel
theorem dX5_line_5 : decode cX5_line 5 = .ok (.astore 4, 2) := by decide +kernel
theorem dX5_line_7 : decode cX5_line 7 = .ok (.iload_n 2, 1) := by decide +kernel
theorem dX5_line_8 : decode cX5_line 8 = .ok (.invokestatic 51, 3) := by decide +kernel
theorem dX5_line_11 : decode cX5_line 11 = .ok (.iload_n 3, 1) := by decide +kernel
theorem dX5_line_12 : decode cX5_line 12 = .ok (.iconst 1, 1) := by decide +kernel
theorem dX5_line_13 : decode cX5_line 13 = .ok (.if_icmp .lt 9, 3) := by decide +kernel
theorem dX5_line_16 : decode cX5_line 16 = .ok (.iload_n 3, 1) := by decide +kernel
theorem dX5_line_17 : decode cX5_line 17 = .ok (.bipush 99, 2) := by decide +kernel
theorem dX5_line_19 : decode cX5_line 19 = .ok (.if_icmp .le 13, 3) := by decide +kernel
theorem dX5_line_22 : decode cX5_line 22 = .ok (.new 123, 3) := by decide +kernel
theorem dX5_line_25 : decode cX5_line 25 = .ok (.dup, 1) := by decide +kernel
theorem dX5_line_26 : decode cX5_line 26 = .ok (.ldc 125, 2) := by decide +kernel
theorem dX5_line_28 : decode cX5_line 28 = .ok (.invokespecial 127, 3) := by decide +kernel
theorem dX5_line_31 : decode cX5_line 31 = .ok (.athrow, 1) := by decide +kernel
theorem dX5_line_32 : decode cX5_line 32 = .ok (.aload_n 0, 1) := by decide +kernel
theorem dX5_line_33 : decode cX5_line 33 = .ok (.aload 4, 2) := by decide +kernel
theorem dX5_line_35 : decode cX5_line 35 = .ok (.invokevirtual 128, 3) := by decide +kernel
theorem dX5_line_38 : decode cX5_line 38 = .ok (.ifCond .eq 25, 3) := by decide +kernel
theorem dX5_line_41 : decode cX5_line 41 = .ok (.aload 4, 2) := by decide +kernel
theorem dX5_line_43 : decode cX5_line 43 = .ok (.iload_n 2, 1) := by decide +kernel
theorem dX5_line_44 : decode cX5_line 44 = .ok (.invokevirtual 132, 3) := by decide +kernel
theorem dX5_line_47 : decode cX5_line 47 = .ok (.ifCond .ne 16, 3) := by decide +kernel
theorem dX5_line_50 : decode cX5_line 50 = .ok (.aload_n 0, 1) := by decide +kernel
theorem dX5_line_51 : decode cX5_line 51 = .ok (.getfield 18, 3) := by decide +kernel
theorem dX5_line_54 : decode cX5_line 54 = .ok (.getfield 91, 3) := by decide +kernel
theorem dX5_line_57 : decode cX5_line 57 = .ok (.iload_n 2, 1) := by decide +kernel
theorem dX5_line_58 : decode cX5_line 58 = .ok (.iaload, 1) := by decide +kernel
theorem dX5_line_59 : decode cX5_line 59 = .ok (.iconst (-1), 1) := by decide +kernel
theorem dX5_line_60 : decode cX5_line 60 = .ok (.if_icmp .ne 13, 3) := by decide +kernel
theorem dX5_line_63 : decode cX5_line 63 = .ok (.new 77, 3) := by decide +kernel
theorem dX5_line_66 : decode cX5_line 66 = .ok (.dup, 1) := by decide +kernel
theorem dX5_line_67 : decode cX5_line 67 = .ok (.ldc 135, 2) := by decide +kernel
theorem dX5_line_69 : decode cX5_line 69 = .ok (.invokespecial 81, 3) := by decide +kernel
theorem dX5_line_72 : decode cX5_line 72 = .ok (.athrow, 1) := by decide +kernel
theorem dX5_line_73 : decode cX5_line 73 = .ok (.aload 4, 2) := by decide +kernel
theorem dX5_line_75 : decode cX5_line 75 = .ok (.iload_n 2, 1) := by decide +kernel
theorem dX5_line_76 : decode cX5_line 76 = .ok (.iload_n 3, 1) := by decide +kernel
theorem dX5_line_77 : decode cX5_line 77 = .ok (.invokevirtual 137, 3) := by decide +kernel
theorem dX5_line_80 : decode cX5_line 80 = .ok (.aload 4, 2) := by decide +kernel
theorem dX5_line_82 : decode cX5_line 82 = .ok (.invokevirtual 141, 3) := by decide +kernel
theorem dX5_line_85 : decode cX5_line 85 = .ok (.ireturn, 1) := by decide +kernel
theorem dX5_orders_0 : decode cX5_orders 0 = .ok (.aload_n 0, 1) := by decide +kernel
theorem dX5_orders_1 : decode cX5_orders 1 = .ok (.getfield 43, 3) := by decide +kernel
theorem dX5_orders_4 : decode cX5_orders 4 = .ok (.invokevirtual 106, 3) := by decide +kernel
theorem dX5_orders_7 : decode cX5_orders 7 = .ok (.ireturn, 1) := by decide +kernel
theorem dX5_stateOf_0 : decode cX5_stateOf 0 = .ok (.aload_n 0, 1) := by decide +kernel
theorem dX5_stateOf_1 : decode cX5_stateOf 1 = .ok (.iload_n 1, 1) := by decide +kernel
theorem dX5_stateOf_2 : decode cX5_stateOf 2 = .ok (.invokevirtual 119, 3) := by decide +kernel
theorem dX5_stateOf_5 : decode cX5_stateOf 5 = .ok (.getfield 144, 3) := by decide +kernel
theorem dX5_stateOf_8 : decode cX5_stateOf 8 = .ok (.ireturn, 1) := by decide +kernel
theorem dX5_lengthAlone_0 : decode cX5_lengthAlone 0 = .ok (.aload_n 0, 1) := by decide +kernel
theorem dX5_lengthAlone_1 : decode cX5_lengthAlone 1 = .ok (.getfield 27, 3) := by decide +kernel
theorem dX5_lengthAlone_4 : decode cX5_lengthAlone 4 = .ok (.aload_n 0, 1) := by decide +kernel
theorem dX5_lengthAlone_5 : decode cX5_lengthAlone 5 = .ok (.iload_n 1, 1) := by decide +kernel
theorem dX5_lengthAlone_6 : decode cX5_lengthAlone 6 = .ok (.invokevirtual 119, 3) := by decide +kernel
theorem dX5_lengthAlone_9 : decode cX5_lengthAlone 9 = .ok (.getfield 147, 3) := by decide +kernel
theorem dX5_lengthAlone_12 : decode cX5_lengthAlone 12 = .ok (.invokevirtual 150, 3) := by decide +kernel
theorem dX5_lengthAlone_15 : decode cX5_lengthAlone 15 = .ok (.ireturn, 1) := by decide +kernel
theorem dX5_setCapacity_0 : decode cX5_setCapacity 0 = .ok (.iload_n 1, 1) := by decide +kernel
theorem dX5_setCapacity_1 : decode cX5_setCapacity 1 = .ok (.iconst 1, 1) := by decide +kernel
theorem dX5_setCapacity_2 : decode cX5_setCapacity 2 = .ok (.if_icmp .lt 9, 3) := by decide +kernel
theorem dX5_setCapacity_5 : decode cX5_setCapacity 5 = .ok (.iload_n 1, 1) := by decide +kernel
theorem dX5_setCapacity_6 : decode cX5_setCapacity 6 = .ok (.bipush 9, 2) := by decide +kernel
theorem dX5_setCapacity_8 : decode cX5_setCapacity 8 = .ok (.if_icmp .le 13, 3) := by decide +kernel
theorem dX5_setCapacity_11 : decode cX5_setCapacity 11 = .ok (.new 123, 3) := by decide +kernel
theorem dX5_setCapacity_14 : decode cX5_setCapacity 14 = .ok (.dup, 1) := by decide +kernel
theorem dX5_setCapacity_15 : decode cX5_setCapacity 15 = .ok (.ldc 153, 2) := by decide +kernel
theorem dX5_setCapacity_17 : decode cX5_setCapacity 17 = .ok (.invokespecial 127, 3) := by decide +kernel
theorem dX5_setCapacity_20 : decode cX5_setCapacity 20 = .ok (.athrow, 1) := by decide +kernel
theorem dX5_setCapacity_21 : decode cX5_setCapacity 21 = .ok (.aload_n 0, 1) := by decide +kernel
theorem dX5_setCapacity_22 : decode cX5_setCapacity 22 = .ok (.getfield 36, 3) := by decide +kernel
theorem dX5_setCapacity_25 : decode cX5_setCapacity 25 = .ok (.invokevirtual 73, 3) := by decide +kernel
theorem dX5_setCapacity_28 : decode cX5_setCapacity 28 = .ok (.ifCond .ne 11, 3) := by decide +kernel
theorem dX5_setCapacity_31 : decode cX5_setCapacity 31 = .ok (.aload_n 0, 1) := by decide +kernel
theorem dX5_setCapacity_32 : decode cX5_setCapacity 32 = .ok (.invokevirtual 155, 3) := by decide +kernel
theorem dX5_setCapacity_35 : decode cX5_setCapacity 35 = .ok (.iload_n 1, 1) := by decide +kernel
theorem dX5_setCapacity_36 : decode cX5_setCapacity 36 = .ok (.if_icmp .le 13, 3) := by decide +kernel
theorem dX5_setCapacity_39 : decode cX5_setCapacity 39 = .ok (.new 77, 3) := by decide +kernel
theorem dX5_setCapacity_42 : decode cX5_setCapacity 42 = .ok (.dup, 1) := by decide +kernel
theorem dX5_setCapacity_43 : decode cX5_setCapacity 43 = .ok (.ldc 158, 2) := by decide +kernel
theorem dX5_setCapacity_45 : decode cX5_setCapacity 45 = .ok (.invokespecial 81, 3) := by decide +kernel
theorem dX5_setCapacity_48 : decode cX5_setCapacity 48 = .ok (.athrow, 1) := by decide +kernel
theorem dX5_setCapacity_49 : decode cX5_setCapacity 49 = .ok (.aload_n 0, 1) := by decide +kernel
theorem dX5_setCapacity_50 : decode cX5_setCapacity 50 = .ok (.getfield 47, 3) := by decide +kernel
theorem dX5_setCapacity_53 : decode cX5_setCapacity 53 = .ok (.istore_n 2, 1) := by decide +kernel
theorem dX5_setCapacity_54 : decode cX5_setCapacity 54 = .ok (.aload_n 0, 1) := by decide +kernel
theorem dX5_setCapacity_55 : decode cX5_setCapacity 55 = .ok (.iload_n 1, 1) := by decide +kernel
theorem dX5_setCapacity_56 : decode cX5_setCapacity 56 = .ok (.putfield 47, 3) := by decide +kernel
theorem dX5_setCapacity_59 : decode cX5_setCapacity 59 = .ok (.iload_n 2, 1) := by decide +kernel
theorem dX5_setCapacity_60 : decode cX5_setCapacity 60 = .ok (.ireturn, 1) := by decide +kernel
theorem dX5_planWave_0 : decode cX5_planWave 0 = .ok (.iload_n 1, 1) := by decide +kernel
theorem dX5_planWave_1 : decode cX5_planWave 1 = .ok (.invokestatic 103, 3) := by decide +kernel
theorem dX5_planWave_4 : decode cX5_planWave 4 = .ok (.aload_n 0, 1) := by decide +kernel
theorem dX5_planWave_5 : decode cX5_planWave 5 = .ok (.getfield 36, 3) := by decide +kernel
theorem dX5_planWave_8 : decode cX5_planWave 8 = .ok (.invokevirtual 73, 3) := by decide +kernel
theorem dX5_planWave_11 : decode cX5_planWave 11 = .ok (.ifCond .ne 11, 3) := by decide +kernel
theorem dX5_planWave_14 : decode cX5_planWave 14 = .ok (.aload_n 0, 1) := by decide +kernel
theorem dX5_planWave_15 : decode cX5_planWave 15 = .ok (.iload_n 1, 1) := by decide +kernel
theorem dX5_planWave_16 : decode cX5_planWave 16 = .ok (.invokevirtual 160, 3) := by decide +kernel
theorem dX5_planWave_19 : decode cX5_planWave 19 = .ok (.ifCond .ne 13, 3) := by decide +kernel
theorem dX5_planWave_22 : decode cX5_planWave 22 = .ok (.new 77, 3) := by decide +kernel
theorem dX5_planWave_25 : decode cX5_planWave 25 = .ok (.dup, 1) := by decide +kernel
theorem dX5_planWave_26 : decode cX5_planWave 26 = .ok (.ldc 163, 2) := by decide +kernel
theorem dX5_planWave_28 : decode cX5_planWave 28 = .ok (.invokespecial 81, 3) := by decide +kernel
theorem dX5_planWave_31 : decode cX5_planWave 31 = .ok (.athrow, 1) := by decide +kernel
theorem dX5_planWave_32 : decode cX5_planWave 32 = .ok (.iconst 0, 1) := by decide +kernel
theorem dX5_planWave_33 : decode cX5_planWave 33 = .ok (.istore_n 2, 1) := by decide +kernel
theorem dX5_planWave_34 : decode cX5_planWave 34 = .ok (.iload_n 2, 1) := by decide +kernel
theorem dX5_planWave_35 : decode cX5_planWave 35 = .ok (.aload_n 0, 1) := by decide +kernel
theorem dX5_planWave_36 : decode cX5_planWave 36 = .ok (.getfield 43, 3) := by decide +kernel
theorem dX5_planWave_39 : decode cX5_planWave 39 = .ok (.invokevirtual 106, 3) := by decide +kernel
theorem dX5_planWave_42 : decode cX5_planWave 42 = .ok (.if_icmp .ge 43, 3) := by decide +kernel
theorem dX5_planWave_45 : decode cX5_planWave 45 = .ok (.aload_n 0, 1) := by decide +kernel
theorem dX5_planWave_46 : decode cX5_planWave 46 = .ok (.getfield 43, 3) := by decide +kernel
theorem dX5_planWave_49 : decode cX5_planWave 49 = .ok (.iload_n 2, 1) := by decide +kernel
theorem dX5_planWave_50 : decode cX5_planWave 50 = .ok (.invokevirtual 165, 3) := by decide +kernel
theorem dX5_planWave_53 : decode cX5_planWave 53 = .ok (.checkcast 111, 3) := by decide +kernel
theorem dX5_planWave_56 : decode cX5_planWave 56 = .ok (.astore_n 3, 1) := by decide +kernel
theorem dX5_planWave_57 : decode cX5_planWave 57 = .ok (.aload_n 3, 1) := by decide +kernel
theorem dX5_planWave_58 : decode cX5_planWave 58 = .ok (.iload_n 1, 1) := by decide +kernel
theorem dX5_planWave_59 : decode cX5_planWave 59 = .ok (.invokevirtual 169, 3) := by decide +kernel
theorem dX5_planWave_62 : decode cX5_planWave 62 = .ok (.ifCond .eq 17, 3) := by decide +kernel
theorem dX5_planWave_65 : decode cX5_planWave 65 = .ok (.aload_n 3, 1) := by decide +kernel
theorem dX5_planWave_66 : decode cX5_planWave 66 = .ok (.iconst 1, 1) := by decide +kernel
theorem dX5_planWave_67 : decode cX5_planWave 67 = .ok (.putfield 144, 3) := by decide +kernel
theorem dX5_planWave_70 : decode cX5_planWave 70 = .ok (.aload_n 0, 1) := by decide +kernel
theorem dX5_planWave_71 : decode cX5_planWave 71 = .ok (.getfield 36, 3) := by decide +kernel
theorem dX5_planWave_74 : decode cX5_planWave 74 = .ok (.iload_n 2, 1) := by decide +kernel
theorem dX5_planWave_75 : decode cX5_planWave 75 = .ok (.aload_n 3, 1) := by decide +kernel
theorem dX5_planWave_76 : decode cX5_planWave 76 = .ok (.invokevirtual 172, 3) := by decide +kernel
theorem dX5_planWave_79 : decode cX5_planWave 79 = .ok (.iinc 2 1, 3) := by decide +kernel
theorem dX5_planWave_82 : decode cX5_planWave 82 = .ok (.goto (-48), 3) := by decide +kernel
theorem dX5_planWave_85 : decode cX5_planWave 85 = .ok (.aload_n 0, 1) := by decide +kernel
theorem dX5_planWave_86 : decode cX5_planWave 86 = .ok (.getfield 36, 3) := by decide +kernel
theorem dX5_planWave_89 : decode cX5_planWave 89 = .ok (.aload_n 0, 1) := by decide +kernel
theorem dX5_planWave_90 : decode cX5_planWave 90 = .ok (.getfield 47, 3) := by decide +kernel
theorem dX5_planWave_93 : decode cX5_planWave 93 = .ok (.invokevirtual 176, 3) := by decide +kernel
theorem dX5_planWave_96 : decode cX5_planWave 96 = .ok (.aload_n 0, 1) := by decide +kernel
theorem dX5_planWave_97 : decode cX5_planWave 97 = .ok (.getfield 36, 3) := by decide +kernel
theorem dX5_planWave_100 : decode cX5_planWave 100 = .ok (.invokevirtual 179, 3) := by decide +kernel
theorem dX5_planWave_103 : decode cX5_planWave 103 = .ok (.ireturn, 1) := by decide +kernel
theorem dX5_pick_0 : decode cX5_pick 0 = .ok (.aload_n 0, 1) := by decide +kernel
theorem dX5_pick_1 : decode cX5_pick 1 = .ok (.iload_n 1, 1) := by decide +kernel
theorem dX5_pick_2 : decode cX5_pick 2 = .ok (.invokevirtual 180, 3) := by decide +kernel
theorem dX5_pick_5 : decode cX5_pick 5 = .ok (.astore_n 2, 1) := by decide +kernel
theorem dX5_pick_6 : decode cX5_pick 6 = .ok (.iconst 0, 1) := by decide +kernel
theorem dX5_pick_7 : decode cX5_pick 7 = .ok (.istore_n 3, 1) := by decide +kernel
theorem dX5_pick_8 : decode cX5_pick 8 = .ok (.iload_n 3, 1) := by decide +kernel
theorem dX5_pick_9 : decode cX5_pick 9 = .ok (.aload_n 0, 1) := by decide +kernel
theorem dX5_pick_10 : decode cX5_pick 10 = .ok (.getfield 43, 3) := by decide +kernel
theorem dX5_pick_13 : decode cX5_pick 13 = .ok (.invokevirtual 106, 3) := by decide +kernel
theorem dX5_pick_16 : decode cX5_pick 16 = .ok (.if_icmp .ge 32, 3) := by decide +kernel
theorem dX5_pick_19 : decode cX5_pick 19 = .ok (.aload_n 2, 1) := by decide +kernel
theorem dX5_pick_20 : decode cX5_pick 20 = .ok (.iload_n 3, 1) := by decide +kernel
theorem dX5_pick_21 : decode cX5_pick 21 = .ok (.invokevirtual 184, 3) := by decide +kernel
theorem dX5_pick_24 : decode cX5_pick 24 = .ok (.ifCond .eq 18, 3) := by decide +kernel
theorem dX5_pick_27 : decode cX5_pick 27 = .ok (.aload_n 0, 1) := by decide +kernel
theorem dX5_pick_28 : decode cX5_pick 28 = .ok (.aload_n 0, 1) := by decide +kernel
theorem dX5_pick_29 : decode cX5_pick 29 = .ok (.getfield 43, 3) := by decide +kernel
theorem dX5_pick_32 : decode cX5_pick 32 = .ok (.iload_n 3, 1) := by decide +kernel
theorem dX5_pick_33 : decode cX5_pick 33 = .ok (.invokevirtual 165, 3) := by decide +kernel
theorem dX5_pick_36 : decode cX5_pick 36 = .ok (.checkcast 111, 3) := by decide +kernel
theorem dX5_pick_39 : decode cX5_pick 39 = .ok (.invokevirtual 189, 3) := by decide +kernel
theorem dX5_pick_42 : decode cX5_pick 42 = .ok (.iinc 3 1, 3) := by decide +kernel
theorem dX5_pick_45 : decode cX5_pick 45 = .ok (.goto (-37), 3) := by decide +kernel
theorem dX5_pick_48 : decode cX5_pick 48 = .ok (.aload_n 0, 1) := by decide +kernel
theorem dX5_pick_49 : decode cX5_pick 49 = .ok (.dup, 1) := by decide +kernel
theorem dX5_pick_50 : decode cX5_pick 50 = .ok (.getfield 193, 3) := by decide +kernel
theorem dX5_pick_53 : decode cX5_pick 53 = .ok (.aload_n 2, 1) := by decide +kernel
theorem dX5_pick_54 : decode cX5_pick 54 = .ok (.getfield 196, 3) := by decide +kernel
theorem dX5_pick_57 : decode cX5_pick 57 = .ok (.iadd, 1) := by decide +kernel
theorem dX5_pick_58 : decode cX5_pick 58 = .ok (.putfield 193, 3) := by decide +kernel
theorem dX5_pick_61 : decode cX5_pick 61 = .ok (.aload_n 0, 1) := by decide +kernel
theorem dX5_pick_62 : decode cX5_pick 62 = .ok (.getfield 36, 3) := by decide +kernel
theorem dX5_pick_65 : decode cX5_pick 65 = .ok (.iload_n 1, 1) := by decide +kernel
theorem dX5_pick_66 : decode cX5_pick 66 = .ok (.invokevirtual 199, 3) := by decide +kernel
theorem dX5_pick_69 : decode cX5_pick 69 = .ok (.aload_n 2, 1) := by decide +kernel
theorem dX5_pick_70 : decode cX5_pick 70 = .ok (.getfield 196, 3) := by decide +kernel
theorem dX5_pick_73 : decode cX5_pick 73 = .ok (.ireturn, 1) := by decide +kernel
theorem dX5_batches_0 : decode cX5_batches 0 = .ok (.aload_n 0, 1) := by decide +kernel
theorem dX5_batches_1 : decode cX5_batches 1 = .ok (.getfield 36, 3) := by decide +kernel
theorem dX5_batches_4 : decode cX5_batches 4 = .ok (.invokevirtual 179, 3) := by decide +kernel
theorem dX5_batches_7 : decode cX5_batches 7 = .ok (.ireturn, 1) := by decide +kernel
theorem dX5_batchOf_0 : decode cX5_batchOf 0 = .ok (.aload_n 0, 1) := by decide +kernel
theorem dX5_batchOf_1 : decode cX5_batchOf 1 = .ok (.iload_n 1, 1) := by decide +kernel
theorem dX5_batchOf_2 : decode cX5_batchOf 2 = .ok (.invokevirtual 119, 3) := by decide +kernel
theorem dX5_batchOf_5 : decode cX5_batchOf 5 = .ok (.pop, 1) := by decide +kernel
theorem dX5_batchOf_6 : decode cX5_batchOf 6 = .ok (.aload_n 0, 1) := by decide +kernel
theorem dX5_batchOf_7 : decode cX5_batchOf 7 = .ok (.getfield 36, 3) := by decide +kernel
theorem dX5_batchOf_10 : decode cX5_batchOf 10 = .ok (.iload_n 1, 1) := by decide +kernel
theorem dX5_batchOf_11 : decode cX5_batchOf 11 = .ok (.invokevirtual 202, 3) := by decide +kernel
theorem dX5_batchOf_14 : decode cX5_batchOf 14 = .ok (.ireturn, 1) := by decide +kernel
theorem dX5_linesOf_0 : decode cX5_linesOf 0 = .ok (.aload_n 0, 1) := by decide +kernel
theorem dX5_linesOf_1 : decode cX5_linesOf 1 = .ok (.iload_n 1, 1) := by decide +kernel
theorem dX5_linesOf_2 : decode cX5_linesOf 2 = .ok (.invokevirtual 180, 3) := by decide +kernel
theorem dX5_linesOf_5 : decode cX5_linesOf 5 = .ok (.getfield 205, 3) := by decide +kernel
theorem dX5_linesOf_8 : decode cX5_linesOf 8 = .ok (.ireturn, 1) := by decide +kernel
theorem dX5_lengthOf_0 : decode cX5_lengthOf 0 = .ok (.aload_n 0, 1) := by decide +kernel
theorem dX5_lengthOf_1 : decode cX5_lengthOf 1 = .ok (.iload_n 1, 1) := by decide +kernel
theorem dX5_lengthOf_2 : decode cX5_lengthOf 2 = .ok (.invokevirtual 180, 3) := by decide +kernel
theorem dX5_lengthOf_5 : decode cX5_lengthOf 5 = .ok (.getfield 196, 3) := by decide +kernel
theorem dX5_lengthOf_8 : decode cX5_lengthOf 8 = .ok (.ireturn, 1) := by decide +kernel
theorem dX5_lengthByTrying_0 : decode cX5_lengthByTrying 0 = .ok (.aload_n 0, 1) := by decide +kernel
theorem dX5_lengthByTrying_1 : decode cX5_lengthByTrying 1 = .ok (.iload_n 1, 1) := by decide +kernel
theorem dX5_lengthByTrying_2 : decode cX5_lengthByTrying 2 = .ok (.invokevirtual 180, 3) := by decide +kernel
theorem dX5_lengthByTrying_5 : decode cX5_lengthByTrying 5 = .ok (.astore_n 2, 1) := by decide +kernel
theorem dX5_lengthByTrying_6 : decode cX5_lengthByTrying 6 = .ok (.aload_n 2, 1) := by decide +kernel
theorem dX5_lengthByTrying_7 : decode cX5_lengthByTrying 7 = .ok (.getfield 208, 3) := by decide +kernel
theorem dX5_lengthByTrying_10 : decode cX5_lengthByTrying 10 = .ok (.arraylength, 1) := by decide +kernel
theorem dX5_lengthByTrying_11 : decode cX5_lengthByTrying 11 = .ok (.bipush 7, 2) := by decide +kernel
theorem dX5_lengthByTrying_13 : decode cX5_lengthByTrying 13 = .ok (.if_icmp .le 13, 3) := by decide +kernel
theorem dX5_lengthByTrying_16 : decode cX5_lengthByTrying 16 = .ok (.new 77, 3) := by decide +kernel
theorem dX5_lengthByTrying_19 : decode cX5_lengthByTrying 19 = .ok (.dup, 1) := by decide +kernel
theorem dX5_lengthByTrying_20 : decode cX5_lengthByTrying 20 = .ok (.ldc 211, 2) := by decide +kernel
theorem dX5_lengthByTrying_22 : decode cX5_lengthByTrying 22 = .ok (.invokespecial 81, 3) := by decide +kernel
theorem dX5_lengthByTrying_25 : decode cX5_lengthByTrying 25 = .ok (.athrow, 1) := by decide +kernel
theorem dX5_lengthByTrying_26 : decode cX5_lengthByTrying 26 = .ok (.aload_n 0, 1) := by decide +kernel
theorem dX5_lengthByTrying_27 : decode cX5_lengthByTrying 27 = .ok (.getfield 27, 3) := by decide +kernel
theorem dX5_lengthByTrying_30 : decode cX5_lengthByTrying 30 = .ok (.aload_n 2, 1) := by decide +kernel
theorem dX5_lengthByTrying_31 : decode cX5_lengthByTrying 31 = .ok (.getfield 213, 3) := by decide +kernel
theorem dX5_lengthByTrying_34 : decode cX5_lengthByTrying 34 = .ok (.invokevirtual 214, 3) := by decide +kernel
theorem dX5_lengthByTrying_37 : decode cX5_lengthByTrying 37 = .ok (.ireturn, 1) := by decide +kernel
theorem dX5_lengthThrough_0 : decode cX5_lengthThrough 0 = .ok (.aload_n 0, 1) := by decide +kernel
theorem dX5_lengthThrough_1 : decode cX5_lengthThrough 1 = .ok (.getfield 27, 3) := by decide +kernel
theorem dX5_lengthThrough_4 : decode cX5_lengthThrough 4 = .ok (.aload_n 0, 1) := by decide +kernel
theorem dX5_lengthThrough_5 : decode cX5_lengthThrough 5 = .ok (.iload_n 1, 1) := by decide +kernel
theorem dX5_lengthThrough_6 : decode cX5_lengthThrough 6 = .ok (.invokevirtual 180, 3) := by decide +kernel
theorem dX5_lengthThrough_9 : decode cX5_lengthThrough 9 = .ok (.getfield 213, 3) := by decide +kernel
theorem dX5_lengthThrough_12 : decode cX5_lengthThrough 12 = .ok (.invokevirtual 217, 3) := by decide +kernel
theorem dX5_lengthThrough_15 : decode cX5_lengthThrough 15 = .ok (.ireturn, 1) := by decide +kernel
theorem dX5_stops_0 : decode cX5_stops 0 = .ok (.aload_n 0, 1) := by decide +kernel
theorem dX5_stops_1 : decode cX5_stops 1 = .ok (.iload_n 1, 1) := by decide +kernel
theorem dX5_stops_2 : decode cX5_stops 2 = .ok (.invokevirtual 180, 3) := by decide +kernel
theorem dX5_stops_5 : decode cX5_stops 5 = .ok (.getfield 208, 3) := by decide +kernel
theorem dX5_stops_8 : decode cX5_stops 8 = .ok (.arraylength, 1) := by decide +kernel
theorem dX5_stops_9 : decode cX5_stops 9 = .ok (.ireturn, 1) := by decide +kernel
theorem dX5_stopAt_0 : decode cX5_stopAt 0 = .ok (.aload_n 0, 1) := by decide +kernel
theorem dX5_stopAt_1 : decode cX5_stopAt 1 = .ok (.iload_n 1, 1) := by decide +kernel
theorem dX5_stopAt_2 : decode cX5_stopAt 2 = .ok (.invokevirtual 180, 3) := by decide +kernel
theorem dX5_stopAt_5 : decode cX5_stopAt 5 = .ok (.getfield 208, 3) := by decide +kernel
theorem dX5_stopAt_8 : decode cX5_stopAt 8 = .ok (.astore_n 3, 1) := by decide +kernel
theorem dX5_stopAt_9 : decode cX5_stopAt 9 = .ok (.iload_n 2, 1) := by decide +kernel
theorem dX5_stopAt_10 : decode cX5_stopAt 10 = .ok (.ifCond .lt 9, 3) := by decide +kernel
theorem dX5_stopAt_13 : decode cX5_stopAt 13 = .ok (.iload_n 2, 1) := by decide +kernel
theorem dX5_stopAt_14 : decode cX5_stopAt 14 = .ok (.aload_n 3, 1) := by decide +kernel
theorem dX5_stopAt_15 : decode cX5_stopAt 15 = .ok (.arraylength, 1) := by decide +kernel
theorem dX5_stopAt_16 : decode cX5_stopAt 16 = .ok (.if_icmp .lt 13, 3) := by decide +kernel
theorem dX5_stopAt_19 : decode cX5_stopAt 19 = .ok (.new 62, 3) := by decide +kernel
theorem dX5_stopAt_22 : decode cX5_stopAt 22 = .ok (.dup, 1) := by decide +kernel
theorem dX5_stopAt_23 : decode cX5_stopAt 23 = .ok (.ldc 220, 2) := by decide +kernel
theorem dX5_stopAt_25 : decode cX5_stopAt 25 = .ok (.invokespecial 66, 3) := by decide +kernel
theorem dX5_stopAt_28 : decode cX5_stopAt 28 = .ok (.athrow, 1) := by decide +kernel
theorem dX5_stopAt_29 : decode cX5_stopAt 29 = .ok (.aload_n 3, 1) := by decide +kernel
theorem dX5_stopAt_30 : decode cX5_stopAt 30 = .ok (.iload_n 2, 1) := by decide +kernel
theorem dX5_stopAt_31 : decode cX5_stopAt 31 = .ok (.iaload, 1) := by decide +kernel
theorem dX5_stopAt_32 : decode cX5_stopAt 32 = .ok (.ireturn, 1) := by decide +kernel
theorem dX5_inAisle_0 : decode cX5_inAisle 0 = .ok (.aload_n 0, 1) := by decide +kernel
theorem dX5_inAisle_1 : decode cX5_inAisle 1 = .ok (.getfield 18, 3) := by decide +kernel
theorem dX5_inAisle_4 : decode cX5_inAisle 4 = .ok (.iload_n 1, 1) := by decide +kernel
theorem dX5_inAisle_5 : decode cX5_inAisle 5 = .ok (.invokevirtual 55, 3) := by decide +kernel
theorem dX5_inAisle_8 : decode cX5_inAisle 8 = .ok (.ifCond .ne 13, 3) := by decide +kernel
theorem dX5_inAisle_11 : decode cX5_inAisle 11 = .ok (.new 62, 3) := by decide +kernel
theorem dX5_inAisle_14 : decode cX5_inAisle 14 = .ok (.dup, 1) := by decide +kernel
theorem dX5_inAisle_15 : decode cX5_inAisle 15 = .ok (.ldc 222, 2) := by decide +kernel
theorem dX5_inAisle_17 : decode cX5_inAisle 17 = .ok (.invokespecial 66, 3) := by decide +kernel
theorem dX5_inAisle_20 : decode cX5_inAisle 20 = .ok (.athrow, 1) := by decide +kernel
theorem dX5_inAisle_21 : decode cX5_inAisle 21 = .ok (.aload_n 0, 1) := by decide +kernel
theorem dX5_inAisle_22 : decode cX5_inAisle 22 = .ok (.getfield 36, 3) := by decide +kernel
theorem dX5_inAisle_25 : decode cX5_inAisle 25 = .ok (.iload_n 1, 1) := by decide +kernel
theorem dX5_inAisle_26 : decode cX5_inAisle 26 = .ok (.invokevirtual 224, 3) := by decide +kernel
theorem dX5_inAisle_29 : decode cX5_inAisle 29 = .ok (.ireturn, 1) := by decide +kernel
theorem dX5_walked_0 : decode cX5_walked 0 = .ok (.aload_n 0, 1) := by decide +kernel
theorem dX5_walked_1 : decode cX5_walked 1 = .ok (.getfield 193, 3) := by decide +kernel
theorem dX5_walked_4 : decode cX5_walked 4 = .ok (.ireturn, 1) := by decide +kernel
theorem dX5_share_0 : decode cX5_share 0 = .ok (.aload_n 0, 1) := by decide +kernel
theorem dX5_share_1 : decode cX5_share 1 = .ok (.getfield 227, 3) := by decide +kernel
theorem dX5_share_4 : decode cX5_share 4 = .ok (.ifCond .ne 7, 3) := by decide +kernel
theorem dX5_share_7 : decode cX5_share 7 = .ok (.dconst 1, 1) := by decide +kernel
theorem dX5_share_8 : decode cX5_share 8 = .ok (.goto 14, 3) := by decide +kernel
theorem dX5_share_11 : decode cX5_share 11 = .ok (.aload_n 0, 1) := by decide +kernel
theorem dX5_share_12 : decode cX5_share 12 = .ok (.getfield 193, 3) := by decide +kernel
theorem dX5_share_15 : decode cX5_share 15 = .ok (.i2d, 1) := by decide +kernel
theorem dX5_share_16 : decode cX5_share 16 = .ok (.aload_n 0, 1) := by decide +kernel
theorem dX5_share_17 : decode cX5_share 17 = .ok (.getfield 227, 3) := by decide +kernel
theorem dX5_share_20 : decode cX5_share 20 = .ok (.i2d, 1) := by decide +kernel
theorem dX5_share_21 : decode cX5_share 21 = .ok (.ddiv, 1) := by decide +kernel
theorem dX5_share_22 : decode cX5_share 22 = .ok (.dreturn, 1) := by decide +kernel
theorem dX5_within_0 : decode cX5_within 0 = .ok (.iconst 1, 1) := by decide +kernel
theorem dX5_within_1 : decode cX5_within 1 = .ok (.iload_n 0, 1) := by decide +kernel
theorem dX5_within_2 : decode cX5_within 2 = .ok (.iload_n 1, 1) := by decide +kernel
theorem dX5_within_3 : decode cX5_within 3 = .ok (.invokestatic 230, 3) := by decide +kernel
theorem dX5_within_6 : decode cX5_within 6 = .ok (.invokestatic 235, 3) := by decide +kernel
theorem dX5_within_9 : decode cX5_within 9 = .ok (.ireturn, 1) := by decide +kernel
theorem dX5_isIn_0 : decode cX5_isIn 0 = .ok (.iload_n 0, 1) := by decide +kernel
theorem dX5_isIn_1 : decode cX5_isIn 1 = .ok (.iload_n 1, 1) := by decide +kernel
theorem dX5_isIn_2 : decode cX5_isIn 2 = .ok (.ishr, 1) := by decide +kernel
theorem dX5_isIn_3 : decode cX5_isIn 3 = .ok (.iconst 1, 1) := by decide +kernel
theorem dX5_isIn_4 : decode cX5_isIn 4 = .ok (.iand, 1) := by decide +kernel
theorem dX5_isIn_5 : decode cX5_isIn 5 = .ok (.ifCond .eq 7, 3) := by decide +kernel
theorem dX5_isIn_8 : decode cX5_isIn 8 = .ok (.iconst 1, 1) := by decide +kernel
theorem dX5_isIn_9 : decode cX5_isIn 9 = .ok (.goto 4, 3) := by decide +kernel
theorem dX5_isIn_12 : decode cX5_isIn 12 = .ok (.iconst 0, 1) := by decide +kernel
theorem dX5_isIn_13 : decode cX5_isIn 13 = .ok (.ireturn, 1) := by decide +kernel
theorem dX5_checkProduct_0 : decode cX5_checkProduct 0 = .ok (.iload_n 0, 1) := by decide +kernel
theorem dX5_checkProduct_1 : decode cX5_checkProduct 1 = .ok (.ifCond .lt 9, 3) := by decide +kernel
theorem dX5_checkProduct_4 : decode cX5_checkProduct 4 = .ok (.iload_n 0, 1) := by decide +kernel
theorem dX5_checkProduct_5 : decode cX5_checkProduct 5 = .ok (.bipush 20, 2) := by decide +kernel
theorem dX5_checkProduct_7 : decode cX5_checkProduct 7 = .ok (.if_icmp .lt 13, 3) := by decide +kernel
theorem dX5_checkProduct_10 : decode cX5_checkProduct 10 = .ok (.new 62, 3) := by decide +kernel
theorem dX5_checkProduct_13 : decode cX5_checkProduct 13 = .ok (.dup, 1) := by decide +kernel
theorem dX5_checkProduct_14 : decode cX5_checkProduct 14 = .ok (.ldc 238, 2) := by decide +kernel
theorem dX5_checkProduct_16 : decode cX5_checkProduct 16 = .ok (.invokespecial 66, 3) := by decide +kernel
theorem dX5_checkProduct_19 : decode cX5_checkProduct 19 = .ok (.athrow, 1) := by decide +kernel
theorem dX5_checkProduct_20 : decode cX5_checkProduct 20 = .ok (.return_, 1) := by decide +kernel
theorem dX5_checkTime_0 : decode cX5_checkTime 0 = .ok (.iload_n 0, 1) := by decide +kernel
theorem dX5_checkTime_1 : decode cX5_checkTime 1 = .ok (.ifCond .lt 10, 3) := by decide +kernel
theorem dX5_checkTime_4 : decode cX5_checkTime 4 = .ok (.iload_n 0, 1) := by decide +kernel
theorem dX5_checkTime_5 : decode cX5_checkTime 5 = .ok (.sipush 999, 3) := by decide +kernel
theorem dX5_checkTime_8 : decode cX5_checkTime 8 = .ok (.if_icmp .le 13, 3) := by decide +kernel
theorem dX5_checkTime_11 : decode cX5_checkTime 11 = .ok (.new 123, 3) := by decide +kernel
theorem dX5_checkTime_14 : decode cX5_checkTime 14 = .ok (.dup, 1) := by decide +kernel
theorem dX5_checkTime_15 : decode cX5_checkTime 15 = .ok (.ldc 240, 2) := by decide +kernel
theorem dX5_checkTime_17 : decode cX5_checkTime 17 = .ok (.invokespecial 127, 3) := by decide +kernel
theorem dX5_checkTime_20 : decode cX5_checkTime 20 = .ok (.athrow, 1) := by decide +kernel
theorem dX5_checkTime_21 : decode cX5_checkTime 21 = .ok (.return_, 1) := by decide +kernel
theorem dX5_orderNumbered_0 : decode cX5_orderNumbered 0 = .ok (.iload_n 1, 1) := by decide +kernel
theorem dX5_orderNumbered_1 : decode cX5_orderNumbered 1 = .ok (.ifCond .lt 14, 3) := by decide +kernel
theorem dX5_orderNumbered_4 : decode cX5_orderNumbered 4 = .ok (.iload_n 1, 1) := by decide +kernel
theorem dX5_orderNumbered_5 : decode cX5_orderNumbered 5 = .ok (.aload_n 0, 1) := by decide +kernel
theorem dX5_orderNumbered_6 : decode cX5_orderNumbered 6 = .ok (.getfield 43, 3) := by decide +kernel
theorem dX5_orderNumbered_9 : decode cX5_orderNumbered 9 = .ok (.invokevirtual 106, 3) := by decide +kernel
theorem dX5_orderNumbered_12 : decode cX5_orderNumbered 12 = .ok (.if_icmp .lt 13, 3) := by decide +kernel
theorem dX5_orderNumbered_15 : decode cX5_orderNumbered 15 = .ok (.new 62, 3) := by decide +kernel
theorem dX5_orderNumbered_18 : decode cX5_orderNumbered 18 = .ok (.dup, 1) := by decide +kernel
theorem dX5_orderNumbered_19 : decode cX5_orderNumbered 19 = .ok (.ldc 242, 2) := by decide +kernel
theorem dX5_orderNumbered_21 : decode cX5_orderNumbered 21 = .ok (.invokespecial 66, 3) := by decide +kernel
theorem dX5_orderNumbered_24 : decode cX5_orderNumbered 24 = .ok (.athrow, 1) := by decide +kernel
theorem dX5_orderNumbered_25 : decode cX5_orderNumbered 25 = .ok (.aload_n 0, 1) := by decide +kernel
theorem dX5_orderNumbered_26 : decode cX5_orderNumbered 26 = .ok (.getfield 43, 3) := by decide +kernel
theorem dX5_orderNumbered_29 : decode cX5_orderNumbered 29 = .ok (.iload_n 1, 1) := by decide +kernel
theorem dX5_orderNumbered_30 : decode cX5_orderNumbered 30 = .ok (.invokevirtual 165, 3) := by decide +kernel
theorem dX5_orderNumbered_33 : decode cX5_orderNumbered 33 = .ok (.checkcast 111, 3) := by decide +kernel
theorem dX5_orderNumbered_36 : decode cX5_orderNumbered 36 = .ok (.areturn, 1) := by decide +kernel
theorem dX5_batchNumbered_0 : decode cX5_batchNumbered 0 = .ok (.iload_n 1, 1) := by decide +kernel
theorem dX5_batchNumbered_1 : decode cX5_batchNumbered 1 = .ok (.ifCond .lt 14, 3) := by decide +kernel
theorem dX5_batchNumbered_4 : decode cX5_batchNumbered 4 = .ok (.iload_n 1, 1) := by decide +kernel
theorem dX5_batchNumbered_5 : decode cX5_batchNumbered 5 = .ok (.aload_n 0, 1) := by decide +kernel
theorem dX5_batchNumbered_6 : decode cX5_batchNumbered 6 = .ok (.getfield 36, 3) := by decide +kernel
theorem dX5_batchNumbered_9 : decode cX5_batchNumbered 9 = .ok (.invokevirtual 179, 3) := by decide +kernel
theorem dX5_batchNumbered_12 : decode cX5_batchNumbered 12 = .ok (.if_icmp .lt 13, 3) := by decide +kernel
theorem dX5_batchNumbered_15 : decode cX5_batchNumbered 15 = .ok (.new 62, 3) := by decide +kernel
theorem dX5_batchNumbered_18 : decode cX5_batchNumbered 18 = .ok (.dup, 1) := by decide +kernel
theorem dX5_batchNumbered_19 : decode cX5_batchNumbered 19 = .ok (.ldc 244, 2) := by decide +kernel
theorem dX5_batchNumbered_21 : decode cX5_batchNumbered 21 = .ok (.invokespecial 66, 3) := by decide +kernel
theorem dX5_batchNumbered_24 : decode cX5_batchNumbered 24 = .ok (.athrow, 1) := by decide +kernel
theorem dX5_batchNumbered_25 : decode cX5_batchNumbered 25 = .ok (.aload_n 0, 1) := by decide +kernel
theorem dX5_batchNumbered_26 : decode cX5_batchNumbered 26 = .ok (.getfield 36, 3) := by decide +kernel
theorem dX5_batchNumbered_29 : decode cX5_batchNumbered 29 = .ok (.getfield 246, 3) := by decide +kernel
theorem dX5_batchNumbered_32 : decode cX5_batchNumbered 32 = .ok (.iload_n 1, 1) := by decide +kernel
theorem dX5_batchNumbered_33 : decode cX5_batchNumbered 33 = .ok (.invokevirtual 165, 3) := by decide +kernel
theorem dX5_batchNumbered_36 : decode cX5_batchNumbered 36 = .ok (.checkcast 185, 3) := by decide +kernel
theorem dX5_batchNumbered_39 : decode cX5_batchNumbered 39 = .ok (.areturn, 1) := by decide +kernel
theorem dX5_takesLine_0 : decode cX5_takesLine 0 = .ok (.aload_n 1, 1) := by decide +kernel
theorem dX5_takesLine_1 : decode cX5_takesLine 1 = .ok (.invokevirtual 141, 3) := by decide +kernel
theorem dX5_takesLine_4 : decode cX5_takesLine 4 = .ok (.istore_n 2, 1) := by decide +kernel
theorem dX5_takesLine_5 : decode cX5_takesLine 5 = .ok (.aload_n 1, 1) := by decide +kernel
theorem dX5_takesLine_6 : decode cX5_takesLine 6 = .ok (.getfield 144, 3) := by decide +kernel
theorem dX5_takesLine_9 : decode cX5_takesLine 9 = .ok (.ifCond .ne 20, 3) := by decide +kernel
theorem dX5_takesLine_12 : decode cX5_takesLine 12 = .ok (.iload_n 2, 1) := by decide +kernel
theorem dX5_takesLine_13 : decode cX5_takesLine 13 = .ok (.iconst 5, 1) := by decide +kernel
theorem dX5_takesLine_14 : decode cX5_takesLine 14 = .ok (.if_icmp .ge 15, 3) := by decide +kernel
theorem dX5_takesLine_17 : decode cX5_takesLine 17 = .ok (.iload_n 2, 1) := by decide +kernel
theorem dX5_takesLine_18 : decode cX5_takesLine 18 = .ok (.aload_n 0, 1) := by decide +kernel
theorem dX5_takesLine_19 : decode cX5_takesLine 19 = .ok (.getfield 47, 3) := by decide +kernel
theorem dX5_takesLine_22 : decode cX5_takesLine 22 = .ok (.if_icmp .ge 7, 3) := by decide +kernel
theorem dX5_takesLine_25 : decode cX5_takesLine 25 = .ok (.iconst 1, 1) := by decide +kernel
theorem dX5_takesLine_26 : decode cX5_takesLine 26 = .ok (.goto 4, 3) := by decide +kernel
theorem dX5_takesLine_29 : decode cX5_takesLine 29 = .ok (.iconst 0, 1) := by decide +kernel
theorem dX5_takesLine_30 : decode cX5_takesLine 30 = .ok (.ireturn, 1) := by decide +kernel
theorem dX5_mostLinesToDo_0 : decode cX5_mostLinesToDo 0 = .ok (.iconst 0, 1) := by decide +kernel
theorem dX5_mostLinesToDo_1 : decode cX5_mostLinesToDo 1 = .ok (.istore_n 1, 1) := by decide +kernel
theorem dX5_mostLinesToDo_2 : decode cX5_mostLinesToDo 2 = .ok (.iconst 0, 1) := by decide +kernel
theorem dX5_mostLinesToDo_3 : decode cX5_mostLinesToDo 3 = .ok (.istore_n 2, 1) := by decide +kernel
theorem dX5_mostLinesToDo_4 : decode cX5_mostLinesToDo 4 = .ok (.iload_n 2, 1) := by decide +kernel
theorem dX5_mostLinesToDo_5 : decode cX5_mostLinesToDo 5 = .ok (.aload_n 0, 1) := by decide +kernel
theorem dX5_mostLinesToDo_6 : decode cX5_mostLinesToDo 6 = .ok (.getfield 43, 3) := by decide +kernel
theorem dX5_mostLinesToDo_9 : decode cX5_mostLinesToDo 9 = .ok (.invokevirtual 106, 3) := by decide +kernel
theorem dX5_mostLinesToDo_12 : decode cX5_mostLinesToDo 12 = .ok (.if_icmp .ge 38, 3) := by decide +kernel
theorem dX5_mostLinesToDo_15 : decode cX5_mostLinesToDo 15 = .ok (.aload_n 0, 1) := by decide +kernel
theorem dX5_mostLinesToDo_16 : decode cX5_mostLinesToDo 16 = .ok (.getfield 43, 3) := by decide +kernel
theorem dX5_mostLinesToDo_19 : decode cX5_mostLinesToDo 19 = .ok (.iload_n 2, 1) := by decide +kernel
theorem dX5_mostLinesToDo_20 : decode cX5_mostLinesToDo 20 = .ok (.invokevirtual 165, 3) := by decide +kernel
theorem dX5_mostLinesToDo_23 : decode cX5_mostLinesToDo 23 = .ok (.checkcast 111, 3) := by decide +kernel
theorem dX5_mostLinesToDo_26 : decode cX5_mostLinesToDo 26 = .ok (.astore_n 3, 1) := by decide +kernel
theorem dX5_mostLinesToDo_27 : decode cX5_mostLinesToDo 27 = .ok (.aload_n 3, 1) := by decide +kernel
theorem dX5_mostLinesToDo_28 : decode cX5_mostLinesToDo 28 = .ok (.getfield 144, 3) := by decide +kernel
theorem dX5_mostLinesToDo_31 : decode cX5_mostLinesToDo 31 = .ok (.iconst 2, 1) := by decide +kernel
theorem dX5_mostLinesToDo_32 : decode cX5_mostLinesToDo 32 = .ok (.if_icmp .eq 12, 3) := by decide +kernel
theorem dX5_mostLinesToDo_35 : decode cX5_mostLinesToDo 35 = .ok (.iload_n 1, 1) := by decide +kernel
theorem dX5_mostLinesToDo_36 : decode cX5_mostLinesToDo 36 = .ok (.aload_n 3, 1) := by decide +kernel
theorem dX5_mostLinesToDo_37 : decode cX5_mostLinesToDo 37 = .ok (.invokevirtual 141, 3) := by decide +kernel
theorem dX5_mostLinesToDo_40 : decode cX5_mostLinesToDo 40 = .ok (.invokestatic 235, 3) := by decide +kernel
theorem dX5_mostLinesToDo_43 : decode cX5_mostLinesToDo 43 = .ok (.istore_n 1, 1) := by decide +kernel
theorem dX5_mostLinesToDo_44 : decode cX5_mostLinesToDo 44 = .ok (.iinc 2 1, 3) := by decide +kernel
theorem dX5_mostLinesToDo_47 : decode cX5_mostLinesToDo 47 = .ok (.goto (-43), 3) := by decide +kernel
theorem dX5_mostLinesToDo_50 : decode cX5_mostLinesToDo 50 = .ok (.iload_n 1, 1) := by decide +kernel
theorem dX5_mostLinesToDo_51 : decode cX5_mostLinesToDo 51 = .ok (.ireturn, 1) := by decide +kernel
theorem dX5_takesAnyOrder_0 : decode cX5_takesAnyOrder 0 = .ok (.iconst 0, 1) := by decide +kernel
theorem dX5_takesAnyOrder_1 : decode cX5_takesAnyOrder 1 = .ok (.istore_n 2, 1) := by decide +kernel
theorem dX5_takesAnyOrder_2 : decode cX5_takesAnyOrder 2 = .ok (.iload_n 2, 1) := by decide +kernel
theorem dX5_takesAnyOrder_3 : decode cX5_takesAnyOrder 3 = .ok (.aload_n 0, 1) := by decide +kernel
theorem dX5_takesAnyOrder_4 : decode cX5_takesAnyOrder 4 = .ok (.getfield 43, 3) := by decide +kernel
theorem dX5_takesAnyOrder_7 : decode cX5_takesAnyOrder 7 = .ok (.invokevirtual 106, 3) := by decide +kernel
theorem dX5_takesAnyOrder_10 : decode cX5_takesAnyOrder 10 = .ok (.if_icmp .ge 29, 3) := by decide +kernel
theorem dX5_takesAnyOrder_13 : decode cX5_takesAnyOrder 13 = .ok (.aload_n 0, 1) := by decide +kernel
theorem dX5_takesAnyOrder_14 : decode cX5_takesAnyOrder 14 = .ok (.getfield 43, 3) := by decide +kernel
theorem dX5_takesAnyOrder_17 : decode cX5_takesAnyOrder 17 = .ok (.iload_n 2, 1) := by decide +kernel
theorem dX5_takesAnyOrder_18 : decode cX5_takesAnyOrder 18 = .ok (.invokevirtual 165, 3) := by decide +kernel
theorem dX5_takesAnyOrder_21 : decode cX5_takesAnyOrder 21 = .ok (.checkcast 111, 3) := by decide +kernel
theorem dX5_takesAnyOrder_24 : decode cX5_takesAnyOrder 24 = .ok (.iload_n 1, 1) := by decide +kernel
theorem dX5_takesAnyOrder_25 : decode cX5_takesAnyOrder 25 = .ok (.invokevirtual 169, 3) := by decide +kernel
theorem dX5_takesAnyOrder_28 : decode cX5_takesAnyOrder 28 = .ok (.ifCond .eq 5, 3) := by decide +kernel
theorem dX5_takesAnyOrder_31 : decode cX5_takesAnyOrder 31 = .ok (.iconst 1, 1) := by decide +kernel
theorem dX5_takesAnyOrder_32 : decode cX5_takesAnyOrder 32 = .ok (.ireturn, 1) := by decide +kernel
theorem dX5_takesAnyOrder_33 : decode cX5_takesAnyOrder 33 = .ok (.iinc 2 1, 3) := by decide +kernel
theorem dX5_takesAnyOrder_36 : decode cX5_takesAnyOrder 36 = .ok (.goto (-34), 3) := by decide +kernel
theorem dX5_takesAnyOrder_39 : decode cX5_takesAnyOrder 39 = .ok (.iconst 0, 1) := by decide +kernel
theorem dX5_takesAnyOrder_40 : decode cX5_takesAnyOrder 40 = .ok (.ireturn, 1) := by decide +kernel
theorem dX5_finish_0 : decode cX5_finish 0 = .ok (.aload_n 0, 1) := by decide +kernel
theorem dX5_finish_1 : decode cX5_finish 1 = .ok (.dup, 1) := by decide +kernel
theorem dX5_finish_2 : decode cX5_finish 2 = .ok (.getfield 227, 3) := by decide +kernel
theorem dX5_finish_5 : decode cX5_finish 5 = .ok (.aload_n 0, 1) := by decide +kernel
theorem dX5_finish_6 : decode cX5_finish 6 = .ok (.getfield 27, 3) := by decide +kernel
theorem dX5_finish_9 : decode cX5_finish 9 = .ok (.aload_n 1, 1) := by decide +kernel
theorem dX5_finish_10 : decode cX5_finish 10 = .ok (.getfield 147, 3) := by decide +kernel
theorem dX5_finish_13 : decode cX5_finish 13 = .ok (.invokevirtual 150, 3) := by decide +kernel
theorem dX5_finish_16 : decode cX5_finish 16 = .ok (.iadd, 1) := by decide +kernel
theorem dX5_finish_17 : decode cX5_finish 17 = .ok (.putfield 227, 3) := by decide +kernel
theorem dX5_finish_20 : decode cX5_finish 20 = .ok (.aload_n 0, 1) := by decide +kernel
theorem dX5_finish_21 : decode cX5_finish 21 = .ok (.getfield 18, 3) := by decide +kernel
theorem dX5_finish_24 : decode cX5_finish 24 = .ok (.aload_n 1, 1) := by decide +kernel
theorem dX5_finish_25 : decode cX5_finish 25 = .ok (.invokevirtual 249, 3) := by decide +kernel
theorem dX5_finish_28 : decode cX5_finish 28 = .ok (.aload_n 1, 1) := by decide +kernel
theorem dX5_finish_29 : decode cX5_finish 29 = .ok (.iconst 2, 1) := by decide +kernel
theorem dX5_finish_30 : decode cX5_finish 30 = .ok (.putfield 144, 3) := by decide +kernel
theorem dX5_finish_33 : decode cX5_finish 33 = .ok (.return_, 1) := by decide +kernel
theorem dJ6_bitCount_0f7a4_0 : decode cJ6_bitCount_0f7a4 0 = .ok (.iload_n 0, 1) := by decide +kernel
theorem dJ6_bitCount_0f7a4_1 : decode cJ6_bitCount_0f7a4 1 = .ok (.iload_n 0, 1) := by decide +kernel
theorem dJ6_bitCount_0f7a4_2 : decode cJ6_bitCount_0f7a4 2 = .ok (.iconst 1, 1) := by decide +kernel
theorem dJ6_bitCount_0f7a4_3 : decode cJ6_bitCount_0f7a4 3 = .ok (.iushr, 1) := by decide +kernel
theorem dJ6_bitCount_0f7a4_4 : decode cJ6_bitCount_0f7a4 4 = .ok (.ldc_w 265, 3) := by decide +kernel
theorem dJ6_bitCount_0f7a4_7 : decode cJ6_bitCount_0f7a4 7 = .ok (.iand, 1) := by decide +kernel
theorem dJ6_bitCount_0f7a4_8 : decode cJ6_bitCount_0f7a4 8 = .ok (.isub, 1) := by decide +kernel
theorem dJ6_bitCount_0f7a4_9 : decode cJ6_bitCount_0f7a4 9 = .ok (.istore_n 0, 1) := by decide +kernel
theorem dJ6_bitCount_0f7a4_10 : decode cJ6_bitCount_0f7a4 10 = .ok (.iload_n 0, 1) := by decide +kernel
theorem dJ6_bitCount_0f7a4_11 : decode cJ6_bitCount_0f7a4 11 = .ok (.ldc_w 266, 3) := by decide +kernel
theorem dJ6_bitCount_0f7a4_14 : decode cJ6_bitCount_0f7a4 14 = .ok (.iand, 1) := by decide +kernel
theorem dJ6_bitCount_0f7a4_15 : decode cJ6_bitCount_0f7a4 15 = .ok (.iload_n 0, 1) := by decide +kernel
theorem dJ6_bitCount_0f7a4_16 : decode cJ6_bitCount_0f7a4 16 = .ok (.iconst 2, 1) := by decide +kernel
theorem dJ6_bitCount_0f7a4_17 : decode cJ6_bitCount_0f7a4 17 = .ok (.iushr, 1) := by decide +kernel
theorem dJ6_bitCount_0f7a4_18 : decode cJ6_bitCount_0f7a4 18 = .ok (.ldc_w 266, 3) := by decide +kernel
theorem dJ6_bitCount_0f7a4_21 : decode cJ6_bitCount_0f7a4 21 = .ok (.iand, 1) := by decide +kernel
theorem dJ6_bitCount_0f7a4_22 : decode cJ6_bitCount_0f7a4 22 = .ok (.iadd, 1) := by decide +kernel
theorem dJ6_bitCount_0f7a4_23 : decode cJ6_bitCount_0f7a4 23 = .ok (.istore_n 0, 1) := by decide +kernel
theorem dJ6_bitCount_0f7a4_24 : decode cJ6_bitCount_0f7a4 24 = .ok (.iload_n 0, 1) := by decide +kernel
theorem dJ6_bitCount_0f7a4_25 : decode cJ6_bitCount_0f7a4 25 = .ok (.iload_n 0, 1) := by decide +kernel
theorem dJ6_bitCount_0f7a4_26 : decode cJ6_bitCount_0f7a4 26 = .ok (.iconst 4, 1) := by decide +kernel
theorem dJ6_bitCount_0f7a4_27 : decode cJ6_bitCount_0f7a4 27 = .ok (.iushr, 1) := by decide +kernel
theorem dJ6_bitCount_0f7a4_28 : decode cJ6_bitCount_0f7a4 28 = .ok (.iadd, 1) := by decide +kernel
theorem dJ6_bitCount_0f7a4_29 : decode cJ6_bitCount_0f7a4 29 = .ok (.ldc_w 267, 3) := by decide +kernel
theorem dJ6_bitCount_0f7a4_32 : decode cJ6_bitCount_0f7a4 32 = .ok (.iand, 1) := by decide +kernel
theorem dJ6_bitCount_0f7a4_33 : decode cJ6_bitCount_0f7a4 33 = .ok (.istore_n 0, 1) := by decide +kernel
theorem dJ6_bitCount_0f7a4_34 : decode cJ6_bitCount_0f7a4 34 = .ok (.iload_n 0, 1) := by decide +kernel
theorem dJ6_bitCount_0f7a4_35 : decode cJ6_bitCount_0f7a4 35 = .ok (.iload_n 0, 1) := by decide +kernel
theorem dJ6_bitCount_0f7a4_36 : decode cJ6_bitCount_0f7a4 36 = .ok (.bipush 8, 2) := by decide +kernel
theorem dJ6_bitCount_0f7a4_38 : decode cJ6_bitCount_0f7a4 38 = .ok (.iushr, 1) := by decide +kernel
theorem dJ6_bitCount_0f7a4_39 : decode cJ6_bitCount_0f7a4 39 = .ok (.iadd, 1) := by decide +kernel
theorem dJ6_bitCount_0f7a4_40 : decode cJ6_bitCount_0f7a4 40 = .ok (.istore_n 0, 1) := by decide +kernel
theorem dJ6_bitCount_0f7a4_41 : decode cJ6_bitCount_0f7a4 41 = .ok (.iload_n 0, 1) := by decide +kernel
theorem dJ6_bitCount_0f7a4_42 : decode cJ6_bitCount_0f7a4 42 = .ok (.iload_n 0, 1) := by decide +kernel
theorem dJ6_bitCount_0f7a4_43 : decode cJ6_bitCount_0f7a4 43 = .ok (.bipush 16, 2) := by decide +kernel
theorem dJ6_bitCount_0f7a4_45 : decode cJ6_bitCount_0f7a4 45 = .ok (.iushr, 1) := by decide +kernel
theorem dJ6_bitCount_0f7a4_46 : decode cJ6_bitCount_0f7a4 46 = .ok (.iadd, 1) := by decide +kernel
theorem dJ6_bitCount_0f7a4_47 : decode cJ6_bitCount_0f7a4 47 = .ok (.istore_n 0, 1) := by decide +kernel
theorem dJ6_bitCount_0f7a4_48 : decode cJ6_bitCount_0f7a4 48 = .ok (.iload_n 0, 1) := by decide +kernel
theorem dJ6_bitCount_0f7a4_49 : decode cJ6_bitCount_0f7a4 49 = .ok (.bipush 63, 2) := by decide +kernel
theorem dJ6_bitCount_0f7a4_51 : decode cJ6_bitCount_0f7a4 51 = .ok (.iand, 1) := by decide +kernel
theorem dJ6_bitCount_0f7a4_52 : decode cJ6_bitCount_0f7a4 52 = .ok (.ireturn, 1) := by decide +kernel
theorem dJ9_abs_0f7a4_0 : decode cJ9_abs_0f7a4 0 = .ok (.iload_n 0, 1) := by decide +kernel
theorem dJ9_abs_0f7a4_1 : decode cJ9_abs_0f7a4 1 = .ok (.ifCond .ge 8, 3) := by decide +kernel
theorem dJ9_abs_0f7a4_4 : decode cJ9_abs_0f7a4 4 = .ok (.iload_n 0, 1) := by decide +kernel
theorem dJ9_abs_0f7a4_5 : decode cJ9_abs_0f7a4 5 = .ok (.ineg, 1) := by decide +kernel
theorem dJ9_abs_0f7a4_6 : decode cJ9_abs_0f7a4 6 = .ok (.goto 4, 3) := by decide +kernel
theorem dJ9_abs_0f7a4_9 : decode cJ9_abs_0f7a4 9 = .ok (.iload_n 0, 1) := by decide +kernel
theorem dJ9_abs_0f7a4_10 : decode cJ9_abs_0f7a4 10 = .ok (.ireturn, 1) := by decide +kernel
theorem dJ9_max_7cf53_0 : decode cJ9_max_7cf53 0 = .ok (.iload_n 0, 1) := by decide +kernel
theorem dJ9_max_7cf53_1 : decode cJ9_max_7cf53 1 = .ok (.iload_n 1, 1) := by decide +kernel
theorem dJ9_max_7cf53_2 : decode cJ9_max_7cf53 2 = .ok (.if_icmp .lt 7, 3) := by decide +kernel
theorem dJ9_max_7cf53_5 : decode cJ9_max_7cf53 5 = .ok (.iload_n 0, 1) := by decide +kernel
theorem dJ9_max_7cf53_6 : decode cJ9_max_7cf53 6 = .ok (.goto 4, 3) := by decide +kernel
theorem dJ9_max_7cf53_9 : decode cJ9_max_7cf53 9 = .ok (.iload_n 1, 1) := by decide +kernel
theorem dJ9_max_7cf53_10 : decode cJ9_max_7cf53 10 = .ok (.ireturn, 1) := by decide +kernel
theorem dJ9_min_7cf53_0 : decode cJ9_min_7cf53 0 = .ok (.iload_n 0, 1) := by decide +kernel
theorem dJ9_min_7cf53_1 : decode cJ9_min_7cf53 1 = .ok (.iload_n 1, 1) := by decide +kernel
theorem dJ9_min_7cf53_2 : decode cJ9_min_7cf53 2 = .ok (.if_icmp .gt 7, 3) := by decide +kernel
theorem dJ9_min_7cf53_5 : decode cJ9_min_7cf53 5 = .ok (.iload_n 0, 1) := by decide +kernel
theorem dJ9_min_7cf53_6 : decode cJ9_min_7cf53 6 = .ok (.goto 4, 3) := by decide +kernel
theorem dJ9_min_7cf53_9 : decode cJ9_min_7cf53 9 = .ok (.iload_n 1, 1) := by decide +kernel
theorem dJ9_min_7cf53_10 : decode cJ9_min_7cf53 10 = .ok (.ireturn, 1) := by decide +kernel
theorem dJxa1e45_init_da8c8_0 : decode cJxa1e45_init_da8c8 0 = .ok (.aload_n 0, 1) := by decide +kernel
theorem dJxa1e45_init_da8c8_1 : decode cJxa1e45_init_da8c8 1 = .ok (.invokespecial 1, 3) := by decide +kernel
theorem dJxa1e45_init_da8c8_4 : decode cJxa1e45_init_da8c8 4 = .ok (.return_, 1) := by decide +kernel
theorem dJxc12de_init_da8c8_0 : decode cJxc12de_init_da8c8 0 = .ok (.aload_n 0, 1) := by decide +kernel
theorem dJxc12de_init_da8c8_1 : decode cJxc12de_init_da8c8 1 = .ok (.invokespecial 1, 3) := by decide +kernel
theorem dJxc12de_init_da8c8_4 : decode cJxc12de_init_da8c8 4 = .ok (.aload_n 0, 1) := by decide +kernel
theorem dJxc12de_init_da8c8_5 : decode cJxc12de_init_da8c8 5 = .ok (.iconst 0, 1) := by decide +kernel
theorem dJxc12de_init_da8c8_6 : decode cJxc12de_init_da8c8 6 = .ok (.putfield 7, 3) := by decide +kernel
theorem dJxc12de_init_da8c8_9 : decode cJxc12de_init_da8c8 9 = .ok (.return_, 1) := by decide +kernel
theorem dJx4a65c_init_da8c8_0 : decode cJx4a65c_init_da8c8 0 = .ok (.aload_n 0, 1) := by decide +kernel
theorem dJx4a65c_init_da8c8_1 : decode cJx4a65c_init_da8c8 1 = .ok (.invokespecial 1, 3) := by decide +kernel
theorem dJx4a65c_init_da8c8_4 : decode cJx4a65c_init_da8c8 4 = .ok (.aload_n 0, 1) := by decide +kernel
theorem dJx4a65c_init_da8c8_5 : decode cJx4a65c_init_da8c8 5 = .ok (.getstatic 39, 3) := by decide +kernel
theorem dJx4a65c_init_da8c8_8 : decode cJx4a65c_init_da8c8 8 = .ok (.putfield 9, 3) := by decide +kernel
theorem dJx4a65c_init_da8c8_11 : decode cJx4a65c_init_da8c8 11 = .ok (.return_, 1) := by decide +kernel
theorem dJx4a65c_grow_92f84_0 : decode cJx4a65c_grow_92f84 0 = .ok (.aload_n 0, 1) := by decide +kernel
theorem dJx4a65c_grow_92f84_1 : decode cJx4a65c_grow_92f84 1 = .ok (.getfield 9, 3) := by decide +kernel
theorem dJx4a65c_grow_92f84_4 : decode cJx4a65c_grow_92f84 4 = .ok (.arraylength, 1) := by decide +kernel
theorem dJx4a65c_grow_92f84_5 : decode cJx4a65c_grow_92f84 5 = .ok (.istore_n 2, 1) := by decide +kernel
theorem dJx4a65c_grow_92f84_6 : decode cJx4a65c_grow_92f84 6 = .ok (.iload_n 2, 1) := by decide +kernel
theorem dJx4a65c_grow_92f84_7 : decode cJx4a65c_grow_92f84 7 = .ok (.ifCond .gt 13, 3) := by decide +kernel
theorem dJx4a65c_grow_92f84_10 : decode cJx4a65c_grow_92f84 10 = .ok (.aload_n 0, 1) := by decide +kernel
theorem dJx4a65c_grow_92f84_11 : decode cJx4a65c_grow_92f84 11 = .ok (.getfield 9, 3) := by decide +kernel
theorem dJx4a65c_grow_92f84_14 : decode cJx4a65c_grow_92f84 14 = .ok (.getstatic 39, 3) := by decide +kernel
theorem dJx4a65c_grow_92f84_17 : decode cJx4a65c_grow_92f84 17 = .ok (.if_acmp .eq 28, 3) := by decide +kernel
theorem dJx4a65c_grow_92f84_20 : decode cJx4a65c_grow_92f84 20 = .ok (.iload_n 2, 1) := by decide +kernel
theorem dJx4a65c_grow_92f84_21 : decode cJx4a65c_grow_92f84 21 = .ok (.iload_n 1, 1) := by decide +kernel
theorem dJx4a65c_grow_92f84_22 : decode cJx4a65c_grow_92f84 22 = .ok (.iload_n 2, 1) := by decide +kernel
theorem dJx4a65c_grow_92f84_23 : decode cJx4a65c_grow_92f84 23 = .ok (.isub, 1) := by decide +kernel
theorem dJx4a65c_grow_92f84_24 : decode cJx4a65c_grow_92f84 24 = .ok (.iload_n 2, 1) := by decide +kernel
theorem dJx4a65c_grow_92f84_25 : decode cJx4a65c_grow_92f84 25 = .ok (.iconst 1, 1) := by decide +kernel
theorem dJx4a65c_grow_92f84_26 : decode cJx4a65c_grow_92f84 26 = .ok (.ishr, 1) := by decide +kernel
theorem dJx4a65c_grow_92f84_27 : decode cJx4a65c_grow_92f84 27 = .ok (.invokestatic 73, 3) := by decide +kernel
theorem dJx4a65c_grow_92f84_30 : decode cJx4a65c_grow_92f84 30 = .ok (.istore_n 3, 1) := by decide +kernel
theorem dJx4a65c_grow_92f84_31 : decode cJx4a65c_grow_92f84 31 = .ok (.aload_n 0, 1) := by decide +kernel
theorem dJx4a65c_grow_92f84_32 : decode cJx4a65c_grow_92f84 32 = .ok (.aload_n 0, 1) := by decide +kernel
theorem dJx4a65c_grow_92f84_33 : decode cJx4a65c_grow_92f84 33 = .ok (.getfield 9, 3) := by decide +kernel
theorem dJx4a65c_grow_92f84_36 : decode cJx4a65c_grow_92f84 36 = .ok (.iload_n 3, 1) := by decide +kernel
theorem dJx4a65c_grow_92f84_37 : decode cJx4a65c_grow_92f84 37 = .ok (.invokestatic 66, 3) := by decide +kernel
theorem dJx4a65c_grow_92f84_40 : decode cJx4a65c_grow_92f84 40 = .ok (.dup_x1, 1) := by decide +kernel
theorem dJx4a65c_grow_92f84_41 : decode cJx4a65c_grow_92f84 41 = .ok (.putfield 9, 3) := by decide +kernel
theorem dJx4a65c_grow_92f84_44 : decode cJx4a65c_grow_92f84 44 = .ok (.areturn, 1) := by decide +kernel
theorem dJx4a65c_grow_92f84_45 : decode cJx4a65c_grow_92f84 45 = .ok (.aload_n 0, 1) := by decide +kernel
theorem dJx4a65c_grow_92f84_46 : decode cJx4a65c_grow_92f84 46 = .ok (.bipush 10, 2) := by decide +kernel
theorem dJx4a65c_grow_92f84_48 : decode cJx4a65c_grow_92f84 48 = .ok (.iload_n 1, 1) := by decide +kernel
theorem dJx4a65c_grow_92f84_49 : decode cJx4a65c_grow_92f84 49 = .ok (.invokestatic 79, 3) := by decide +kernel
theorem dJx4a65c_grow_92f84_52 : decode cJx4a65c_grow_92f84 52 = .ok (.anewarray 7, 3) := by decide +kernel
theorem dJx4a65c_grow_92f84_55 : decode cJx4a65c_grow_92f84 55 = .ok (.dup_x1, 1) := by decide +kernel
theorem dJx4a65c_grow_92f84_56 : decode cJx4a65c_grow_92f84 56 = .ok (.putfield 9, 3) := by decide +kernel
theorem dJx4a65c_grow_92f84_59 : decode cJx4a65c_grow_92f84 59 = .ok (.areturn, 1) := by decide +kernel
theorem dJx4a65c_grow_d5877_0 : decode cJx4a65c_grow_d5877 0 = .ok (.aload_n 0, 1) := by decide +kernel
theorem dJx4a65c_grow_d5877_1 : decode cJx4a65c_grow_d5877 1 = .ok (.aload_n 0, 1) := by decide +kernel
theorem dJx4a65c_grow_d5877_2 : decode cJx4a65c_grow_d5877 2 = .ok (.getfield 48, 3) := by decide +kernel
theorem dJx4a65c_grow_d5877_5 : decode cJx4a65c_grow_d5877 5 = .ok (.iconst 1, 1) := by decide +kernel
theorem dJx4a65c_grow_d5877_6 : decode cJx4a65c_grow_d5877 6 = .ok (.iadd, 1) := by decide +kernel
theorem dJx4a65c_grow_d5877_7 : decode cJx4a65c_grow_d5877 7 = .ok (.invokevirtual 69, 3) := by decide +kernel
theorem dJx4a65c_grow_d5877_10 : decode cJx4a65c_grow_d5877 10 = .ok (.areturn, 1) := by decide +kernel
theorem dJx4a65c_size_8abf5_0 : decode cJx4a65c_size_8abf5 0 = .ok (.aload_n 0, 1) := by decide +kernel
theorem dJx4a65c_size_8abf5_1 : decode cJx4a65c_size_8abf5 1 = .ok (.getfield 48, 3) := by decide +kernel
theorem dJx4a65c_size_8abf5_4 : decode cJx4a65c_size_8abf5 4 = .ok (.ireturn, 1) := by decide +kernel
theorem dJx4a65c_isEmpty_aae02_0 : decode cJx4a65c_isEmpty_aae02 0 = .ok (.aload_n 0, 1) := by decide +kernel
theorem dJx4a65c_isEmpty_aae02_1 : decode cJx4a65c_isEmpty_aae02 1 = .ok (.getfield 48, 3) := by decide +kernel
theorem dJx4a65c_isEmpty_aae02_4 : decode cJx4a65c_isEmpty_aae02 4 = .ok (.ifCond .ne 7, 3) := by decide +kernel
theorem dJx4a65c_isEmpty_aae02_7 : decode cJx4a65c_isEmpty_aae02 7 = .ok (.iconst 1, 1) := by decide +kernel
theorem dJx4a65c_isEmpty_aae02_8 : decode cJx4a65c_isEmpty_aae02 8 = .ok (.goto 4, 3) := by decide +kernel
theorem dJx4a65c_isEmpty_aae02_11 : decode cJx4a65c_isEmpty_aae02 11 = .ok (.iconst 0, 1) := by decide +kernel
theorem dJx4a65c_isEmpty_aae02_12 : decode cJx4a65c_isEmpty_aae02 12 = .ok (.ireturn, 1) := by decide +kernel
theorem dJx4a65c_elementData_915e3_0 : decode cJx4a65c_elementData_915e3 0 = .ok (.aload_n 0, 1) := by decide +kernel
theorem dJx4a65c_elementData_915e3_1 : decode cJx4a65c_elementData_915e3 1 = .ok (.getfield 9, 3) := by decide +kernel
theorem dJx4a65c_elementData_915e3_4 : decode cJx4a65c_elementData_915e3 4 = .ok (.iload_n 1, 1) := by decide +kernel
theorem dJx4a65c_elementData_915e3_5 : decode cJx4a65c_elementData_915e3 5 = .ok (.aaload, 1) := by decide +kernel
theorem dJx4a65c_elementData_915e3_6 : decode cJx4a65c_elementData_915e3 6 = .ok (.areturn, 1) := by decide +kernel
theorem dJx4a65c_get_915e3_0 : decode cJx4a65c_get_915e3 0 = .ok (.iload_n 1, 1) := by decide +kernel
theorem dJx4a65c_get_915e3_1 : decode cJx4a65c_get_915e3 1 = .ok (.aload_n 0, 1) := by decide +kernel
theorem dJx4a65c_get_915e3_2 : decode cJx4a65c_get_915e3 2 = .ok (.getfield 48, 3) := by decide +kernel
theorem dJx4a65c_get_915e3_5 : decode cJx4a65c_get_915e3 5 = .ok (.invokestatic 118, 3) := by decide +kernel
theorem dJx4a65c_get_915e3_8 : decode cJx4a65c_get_915e3 8 = .ok (.pop, 1) := by decide +kernel
theorem dJx4a65c_get_915e3_9 : decode cJx4a65c_get_915e3 9 = .ok (.aload_n 0, 1) := by decide +kernel
theorem dJx4a65c_get_915e3_10 : decode cJx4a65c_get_915e3 10 = .ok (.iload_n 1, 1) := by decide +kernel
theorem dJx4a65c_get_915e3_11 : decode cJx4a65c_get_915e3 11 = .ok (.invokevirtual 123, 3) := by decide +kernel
theorem dJx4a65c_get_915e3_14 : decode cJx4a65c_get_915e3 14 = .ok (.areturn, 1) := by decide +kernel
theorem dJx4a65c_add_72be8_0 : decode cJx4a65c_add_72be8 0 = .ok (.iload_n 3, 1) := by decide +kernel
theorem dJx4a65c_add_72be8_1 : decode cJx4a65c_add_72be8 1 = .ok (.aload_n 2, 1) := by decide +kernel
theorem dJx4a65c_add_72be8_2 : decode cJx4a65c_add_72be8 2 = .ok (.arraylength, 1) := by decide +kernel
theorem dJx4a65c_add_72be8_3 : decode cJx4a65c_add_72be8 3 = .ok (.if_icmp .ne 8, 3) := by decide +kernel
theorem dJx4a65c_add_72be8_6 : decode cJx4a65c_add_72be8 6 = .ok (.aload_n 0, 1) := by decide +kernel
theorem dJx4a65c_add_72be8_7 : decode cJx4a65c_add_72be8 7 = .ok (.invokevirtual 129, 3) := by decide +kernel
theorem dJx4a65c_add_72be8_10 : decode cJx4a65c_add_72be8 10 = .ok (.astore_n 2, 1) := by decide +kernel
theorem dJx4a65c_add_72be8_11 : decode cJx4a65c_add_72be8 11 = .ok (.aload_n 2, 1) := by decide +kernel
theorem dJx4a65c_add_72be8_12 : decode cJx4a65c_add_72be8 12 = .ok (.iload_n 3, 1) := by decide +kernel
theorem dJx4a65c_add_72be8_13 : decode cJx4a65c_add_72be8 13 = .ok (.aload_n 1, 1) := by decide +kernel
theorem dJx4a65c_add_72be8_14 : decode cJx4a65c_add_72be8 14 = .ok (.aastore, 1) := by decide +kernel
theorem dJx4a65c_add_72be8_15 : decode cJx4a65c_add_72be8 15 = .ok (.aload_n 0, 1) := by decide +kernel
theorem dJx4a65c_add_72be8_16 : decode cJx4a65c_add_72be8 16 = .ok (.iload_n 3, 1) := by decide +kernel
theorem dJx4a65c_add_72be8_17 : decode cJx4a65c_add_72be8 17 = .ok (.iconst 1, 1) := by decide +kernel
theorem dJx4a65c_add_72be8_18 : decode cJx4a65c_add_72be8 18 = .ok (.iadd, 1) := by decide +kernel
theorem dJx4a65c_add_72be8_19 : decode cJx4a65c_add_72be8 19 = .ok (.putfield 48, 3) := by decide +kernel
theorem dJx4a65c_add_72be8_22 : decode cJx4a65c_add_72be8 22 = .ok (.return_, 1) := by decide +kernel
theorem dJx4a65c_add_9ea2d_0 : decode cJx4a65c_add_9ea2d 0 = .ok (.aload_n 0, 1) := by decide +kernel
theorem dJx4a65c_add_9ea2d_1 : decode cJx4a65c_add_9ea2d 1 = .ok (.dup, 1) := by decide +kernel
theorem dJx4a65c_add_9ea2d_2 : decode cJx4a65c_add_9ea2d 2 = .ok (.getfield 63, 3) := by decide +kernel
theorem dJx4a65c_add_9ea2d_5 : decode cJx4a65c_add_9ea2d 5 = .ok (.iconst 1, 1) := by decide +kernel
theorem dJx4a65c_add_9ea2d_6 : decode cJx4a65c_add_9ea2d 6 = .ok (.iadd, 1) := by decide +kernel
theorem dJx4a65c_add_9ea2d_7 : decode cJx4a65c_add_9ea2d 7 = .ok (.putfield 63, 3) := by decide +kernel
theorem dJx4a65c_add_9ea2d_10 : decode cJx4a65c_add_9ea2d 10 = .ok (.aload_n 0, 1) := by decide +kernel
theorem dJx4a65c_add_9ea2d_11 : decode cJx4a65c_add_9ea2d 11 = .ok (.aload_n 1, 1) := by decide +kernel
theorem dJx4a65c_add_9ea2d_12 : decode cJx4a65c_add_9ea2d 12 = .ok (.aload_n 0, 1) := by decide +kernel
theorem dJx4a65c_add_9ea2d_13 : decode cJx4a65c_add_9ea2d 13 = .ok (.getfield 9, 3) := by decide +kernel
theorem dJx4a65c_add_9ea2d_16 : decode cJx4a65c_add_9ea2d 16 = .ok (.aload_n 0, 1) := by decide +kernel
theorem dJx4a65c_add_9ea2d_17 : decode cJx4a65c_add_9ea2d 17 = .ok (.getfield 48, 3) := by decide +kernel
theorem dJx4a65c_add_9ea2d_20 : decode cJx4a65c_add_9ea2d 20 = .ok (.invokevirtual 131, 3) := by decide +kernel
theorem dJx4a65c_add_9ea2d_23 : decode cJx4a65c_add_9ea2d 23 = .ok (.iconst 1, 1) := by decide +kernel
theorem dJx4a65c_add_9ea2d_24 : decode cJx4a65c_add_9ea2d 24 = .ok (.ireturn, 1) := by decide +kernel
theorem dJx4a65c_remove_915e3_0 : decode cJx4a65c_remove_915e3 0 = .ok (.iload_n 1, 1) := by decide +kernel
theorem dJx4a65c_remove_915e3_1 : decode cJx4a65c_remove_915e3 1 = .ok (.aload_n 0, 1) := by decide +kernel
theorem dJx4a65c_remove_915e3_2 : decode cJx4a65c_remove_915e3 2 = .ok (.getfield 48, 3) := by decide +kernel
theorem dJx4a65c_remove_915e3_5 : decode cJx4a65c_remove_915e3 5 = .ok (.invokestatic 118, 3) := by decide +kernel
theorem dJx4a65c_remove_915e3_8 : decode cJx4a65c_remove_915e3 8 = .ok (.pop, 1) := by decide +kernel
theorem dJx4a65c_remove_915e3_9 : decode cJx4a65c_remove_915e3 9 = .ok (.aload_n 0, 1) := by decide +kernel
theorem dJx4a65c_remove_915e3_10 : decode cJx4a65c_remove_915e3 10 = .ok (.getfield 9, 3) := by decide +kernel
theorem dJx4a65c_remove_915e3_13 : decode cJx4a65c_remove_915e3 13 = .ok (.astore_n 2, 1) := by decide +kernel
theorem dJx4a65c_remove_915e3_14 : decode cJx4a65c_remove_915e3 14 = .ok (.aload_n 2, 1) := by decide +kernel
theorem dJx4a65c_remove_915e3_15 : decode cJx4a65c_remove_915e3 15 = .ok (.iload_n 1, 1) := by decide +kernel
theorem dJx4a65c_remove_915e3_16 : decode cJx4a65c_remove_915e3 16 = .ok (.aaload, 1) := by decide +kernel
theorem dJx4a65c_remove_915e3_17 : decode cJx4a65c_remove_915e3 17 = .ok (.astore_n 3, 1) := by decide +kernel
theorem dJx4a65c_remove_915e3_18 : decode cJx4a65c_remove_915e3 18 = .ok (.aload_n 0, 1) := by decide +kernel
theorem dJx4a65c_remove_915e3_19 : decode cJx4a65c_remove_915e3 19 = .ok (.aload_n 2, 1) := by decide +kernel
theorem dJx4a65c_remove_915e3_20 : decode cJx4a65c_remove_915e3 20 = .ok (.iload_n 1, 1) := by decide +kernel
theorem dJx4a65c_remove_915e3_21 : decode cJx4a65c_remove_915e3 21 = .ok (.invokevirtual 144, 3) := by decide +kernel
theorem dJx4a65c_remove_915e3_24 : decode cJx4a65c_remove_915e3 24 = .ok (.aload_n 3, 1) := by decide +kernel
theorem dJx4a65c_remove_915e3_25 : decode cJx4a65c_remove_915e3 25 = .ok (.areturn, 1) := by decide +kernel
theorem dJx4a65c_fastRemove_b59b0_0 : decode cJx4a65c_fastRemove_b59b0 0 = .ok (.aload_n 0, 1) := by decide +kernel
theorem dJx4a65c_fastRemove_b59b0_1 : decode cJx4a65c_fastRemove_b59b0 1 = .ok (.dup, 1) := by decide +kernel
theorem dJx4a65c_fastRemove_b59b0_2 : decode cJx4a65c_fastRemove_b59b0 2 = .ok (.getfield 63, 3) := by decide +kernel
theorem dJx4a65c_fastRemove_b59b0_5 : decode cJx4a65c_fastRemove_b59b0 5 = .ok (.iconst 1, 1) := by decide +kernel
theorem dJx4a65c_fastRemove_b59b0_6 : decode cJx4a65c_fastRemove_b59b0 6 = .ok (.iadd, 1) := by decide +kernel
theorem dJx4a65c_fastRemove_b59b0_7 : decode cJx4a65c_fastRemove_b59b0 7 = .ok (.putfield 63, 3) := by decide +kernel
theorem dJx4a65c_fastRemove_b59b0_10 : decode cJx4a65c_fastRemove_b59b0 10 = .ok (.aload_n 0, 1) := by decide +kernel
theorem dJx4a65c_fastRemove_b59b0_11 : decode cJx4a65c_fastRemove_b59b0 11 = .ok (.getfield 48, 3) := by decide +kernel
theorem dJx4a65c_fastRemove_b59b0_14 : decode cJx4a65c_fastRemove_b59b0 14 = .ok (.iconst 1, 1) := by decide +kernel
theorem dJx4a65c_fastRemove_b59b0_15 : decode cJx4a65c_fastRemove_b59b0 15 = .ok (.isub, 1) := by decide +kernel
theorem dJx4a65c_fastRemove_b59b0_16 : decode cJx4a65c_fastRemove_b59b0 16 = .ok (.dup, 1) := by decide +kernel
theorem dJx4a65c_fastRemove_b59b0_17 : decode cJx4a65c_fastRemove_b59b0 17 = .ok (.istore_n 3, 1) := by decide +kernel
theorem dJx4a65c_fastRemove_b59b0_18 : decode cJx4a65c_fastRemove_b59b0 18 = .ok (.iload_n 2, 1) := by decide +kernel
theorem dJx4a65c_fastRemove_b59b0_19 : decode cJx4a65c_fastRemove_b59b0 19 = .ok (.if_icmp .le 15, 3) := by decide +kernel
theorem dJx4a65c_fastRemove_b59b0_22 : decode cJx4a65c_fastRemove_b59b0 22 = .ok (.aload_n 1, 1) := by decide +kernel
theorem dJx4a65c_fastRemove_b59b0_23 : decode cJx4a65c_fastRemove_b59b0 23 = .ok (.iload_n 2, 1) := by decide +kernel
theorem dJx4a65c_fastRemove_b59b0_24 : decode cJx4a65c_fastRemove_b59b0 24 = .ok (.iconst 1, 1) := by decide +kernel
theorem dJx4a65c_fastRemove_b59b0_25 : decode cJx4a65c_fastRemove_b59b0 25 = .ok (.iadd, 1) := by decide +kernel
theorem dJx4a65c_fastRemove_b59b0_26 : decode cJx4a65c_fastRemove_b59b0 26 = .ok (.aload_n 1, 1) := by decide +kernel
theorem dJx4a65c_fastRemove_b59b0_27 : decode cJx4a65c_fastRemove_b59b0 27 = .ok (.iload_n 2, 1) := by decide +kernel
theorem dJx4a65c_fastRemove_b59b0_28 : decode cJx4a65c_fastRemove_b59b0 28 = .ok (.iload_n 3, 1) := by decide +kernel
theorem dJx4a65c_fastRemove_b59b0_29 : decode cJx4a65c_fastRemove_b59b0 29 = .ok (.iload_n 2, 1) := by decide +kernel
theorem dJx4a65c_fastRemove_b59b0_30 : decode cJx4a65c_fastRemove_b59b0 30 = .ok (.isub, 1) := by decide +kernel
theorem dJx4a65c_fastRemove_b59b0_31 : decode cJx4a65c_fastRemove_b59b0 31 = .ok (.invokestatic 112, 3) := by decide +kernel
theorem dJx4a65c_fastRemove_b59b0_34 : decode cJx4a65c_fastRemove_b59b0 34 = .ok (.aload_n 1, 1) := by decide +kernel
theorem dJx4a65c_fastRemove_b59b0_35 : decode cJx4a65c_fastRemove_b59b0 35 = .ok (.aload_n 0, 1) := by decide +kernel
theorem dJx4a65c_fastRemove_b59b0_36 : decode cJx4a65c_fastRemove_b59b0 36 = .ok (.iload_n 3, 1) := by decide +kernel
theorem dJx4a65c_fastRemove_b59b0_37 : decode cJx4a65c_fastRemove_b59b0 37 = .ok (.dup_x1, 1) := by decide +kernel
theorem dJx4a65c_fastRemove_b59b0_38 : decode cJx4a65c_fastRemove_b59b0 38 = .ok (.putfield 48, 3) := by decide +kernel
theorem dJx4a65c_fastRemove_b59b0_41 : decode cJx4a65c_fastRemove_b59b0 41 = .ok (.aconst_null, 1) := by decide +kernel
theorem dJx4a65c_fastRemove_b59b0_42 : decode cJx4a65c_fastRemove_b59b0 42 = .ok (.aastore, 1) := by decide +kernel
theorem dJx4a65c_fastRemove_b59b0_43 : decode cJx4a65c_fastRemove_b59b0 43 = .ok (.return_, 1) := by decide +kernel
theorem dJ7_copyOf_1904c_0 : decode cJ7_copyOf_1904c 0 = .ok (.aload_n 0, 1) := by decide +kernel
theorem dJ7_copyOf_1904c_1 : decode cJ7_copyOf_1904c 1 = .ok (.iload_n 1, 1) := by decide +kernel
theorem dJ7_copyOf_1904c_2 : decode cJ7_copyOf_1904c 2 = .ok (.aload_n 0, 1) := by decide +kernel
theorem dJ7_copyOf_1904c_3 : decode cJ7_copyOf_1904c 3 = .ok (.invokevirtual 86, 3) := by decide +kernel
theorem dJ7_copyOf_1904c_6 : decode cJ7_copyOf_1904c 6 = .ok (.invokestatic 300, 3) := by decide +kernel
theorem dJ7_copyOf_1904c_9 : decode cJ7_copyOf_1904c 9 = .ok (.areturn, 1) := by decide +kernel
theorem dJ7_copyOf_6403c_0 : decode cJ7_copyOf_6403c 0 = .ok (.aload_n 2, 1) := by decide +kernel
theorem dJ7_copyOf_6403c_1 : decode cJ7_copyOf_6403c 1 = .ok (.ldc 110, 2) := by decide +kernel
theorem dJ7_copyOf_6403c_3 : decode cJ7_copyOf_6403c 3 = .ok (.if_acmp .ne 10, 3) := by decide +kernel
theorem dJ7_copyOf_6403c_6 : decode cJ7_copyOf_6403c 6 = .ok (.iload_n 1, 1) := by decide +kernel
theorem dJ7_copyOf_6403c_7 : decode cJ7_copyOf_6403c 7 = .ok (.anewarray 2, 3) := by decide +kernel
theorem dJ7_copyOf_6403c_10 : decode cJ7_copyOf_6403c 10 = .ok (.goto 14, 3) := by decide +kernel
theorem dJ7_copyOf_6403c_13 : decode cJ7_copyOf_6403c 13 = .ok (.aload_n 2, 1) := by decide +kernel
theorem dJ7_copyOf_6403c_14 : decode cJ7_copyOf_6403c 14 = .ok (.invokevirtual 90, 3) := by decide +kernel
theorem dJ7_copyOf_6403c_17 : decode cJ7_copyOf_6403c 17 = .ok (.iload_n 1, 1) := by decide +kernel
theorem dJ7_copyOf_6403c_18 : decode cJ7_copyOf_6403c 18 = .ok (.invokestatic 95, 3) := by decide +kernel
theorem dJ7_copyOf_6403c_21 : decode cJ7_copyOf_6403c 21 = .ok (.checkcast 110, 3) := by decide +kernel
theorem dJ7_copyOf_6403c_24 : decode cJ7_copyOf_6403c 24 = .ok (.astore_n 3, 1) := by decide +kernel
theorem dJ7_copyOf_6403c_25 : decode cJ7_copyOf_6403c 25 = .ok (.aload_n 0, 1) := by decide +kernel
theorem dJ7_copyOf_6403c_26 : decode cJ7_copyOf_6403c 26 = .ok (.iconst 0, 1) := by decide +kernel
theorem dJ7_copyOf_6403c_27 : decode cJ7_copyOf_6403c 27 = .ok (.aload_n 3, 1) := by decide +kernel
theorem dJ7_copyOf_6403c_28 : decode cJ7_copyOf_6403c 28 = .ok (.iconst 0, 1) := by decide +kernel
theorem dJ7_copyOf_6403c_29 : decode cJ7_copyOf_6403c 29 = .ok (.aload_n 0, 1) := by decide +kernel
theorem dJ7_copyOf_6403c_30 : decode cJ7_copyOf_6403c 30 = .ok (.arraylength, 1) := by decide +kernel
theorem dJ7_copyOf_6403c_31 : decode cJ7_copyOf_6403c 31 = .ok (.iload_n 1, 1) := by decide +kernel
theorem dJ7_copyOf_6403c_32 : decode cJ7_copyOf_6403c 32 = .ok (.invokestatic 304, 3) := by decide +kernel
theorem dJ7_copyOf_6403c_35 : decode cJ7_copyOf_6403c 35 = .ok (.invokestatic 150, 3) := by decide +kernel
theorem dJ7_copyOf_6403c_38 : decode cJ7_copyOf_6403c 38 = .ok (.aload_n 3, 1) := by decide +kernel
theorem dJ7_copyOf_6403c_39 : decode cJ7_copyOf_6403c 39 = .ok (.areturn, 1) := by decide +kernel
theorem dJ15_checkIndex_7cf53_0 : decode cJ15_checkIndex_7cf53 0 = .ok (.iload_n 0, 1) := by decide +kernel
theorem dJ15_checkIndex_7cf53_1 : decode cJ15_checkIndex_7cf53 1 = .ok (.iload_n 1, 1) := by decide +kernel
theorem dJ15_checkIndex_7cf53_2 : decode cJ15_checkIndex_7cf53 2 = .ok (.aconst_null, 1) := by decide +kernel
theorem dJ15_checkIndex_7cf53_3 : decode cJ15_checkIndex_7cf53 3 = .ok (.invokestatic 105, 3) := by decide +kernel
theorem dJ15_checkIndex_7cf53_6 : decode cJ15_checkIndex_7cf53 6 = .ok (.ireturn, 1) := by decide +kernel
theorem dJ8_newLength_cabcc_0 : decode cJ8_newLength_cabcc 0 = .ok (.iload_n 0, 1) := by decide +kernel
theorem dJ8_newLength_cabcc_1 : decode cJ8_newLength_cabcc 1 = .ok (.iload_n 1, 1) := by decide +kernel
theorem dJ8_newLength_cabcc_2 : decode cJ8_newLength_cabcc 2 = .ok (.iload_n 2, 1) := by decide +kernel
theorem dJ8_newLength_cabcc_3 : decode cJ8_newLength_cabcc 3 = .ok (.invokestatic 194, 3) := by decide +kernel
theorem dJ8_newLength_cabcc_6 : decode cJ8_newLength_cabcc 6 = .ok (.iadd, 1) := by decide +kernel
theorem dJ8_newLength_cabcc_7 : decode cJ8_newLength_cabcc 7 = .ok (.istore_n 3, 1) := by decide +kernel
theorem dJ8_newLength_cabcc_8 : decode cJ8_newLength_cabcc 8 = .ok (.iconst 0, 1) := by decide +kernel
theorem dJ8_newLength_cabcc_9 : decode cJ8_newLength_cabcc 9 = .ok (.iload_n 3, 1) := by decide +kernel
theorem dJ8_newLength_cabcc_10 : decode cJ8_newLength_cabcc 10 = .ok (.if_icmp .ge 11, 3) := by decide +kernel
theorem dJ8_newLength_cabcc_13 : decode cJ8_newLength_cabcc 13 = .ok (.iload_n 3, 1) := by decide +kernel
theorem dJ8_newLength_cabcc_14 : decode cJ8_newLength_cabcc 14 = .ok (.ldc 200, 2) := by decide +kernel
theorem dJ8_newLength_cabcc_16 : decode cJ8_newLength_cabcc 16 = .ok (.if_icmp .gt 5, 3) := by decide +kernel
theorem dJ8_newLength_cabcc_19 : decode cJ8_newLength_cabcc 19 = .ok (.iload_n 3, 1) := by decide +kernel
theorem dJ8_newLength_cabcc_20 : decode cJ8_newLength_cabcc 20 = .ok (.ireturn, 1) := by decide +kernel
theorem dJ8_newLength_cabcc_21 : decode cJ8_newLength_cabcc 21 = .ok (.iload_n 0, 1) := by decide +kernel
theorem dJ8_newLength_cabcc_22 : decode cJ8_newLength_cabcc 22 = .ok (.iload_n 1, 1) := by decide +kernel
theorem dJ8_newLength_cabcc_23 : decode cJ8_newLength_cabcc 23 = .ok (.invokestatic 201, 3) := by decide +kernel
theorem dJ8_newLength_cabcc_26 : decode cJ8_newLength_cabcc 26 = .ok (.ireturn, 1) := by decide +kernel
theorem dJ8_hugeLength_7cf53_0 : decode cJ8_hugeLength_7cf53 0 = .ok (.iload_n 0, 1) := by decide +kernel
theorem dJ8_hugeLength_7cf53_1 : decode cJ8_hugeLength_7cf53 1 = .ok (.iload_n 1, 1) := by decide +kernel
theorem dJ8_hugeLength_7cf53_2 : decode cJ8_hugeLength_7cf53 2 = .ok (.iadd, 1) := by decide +kernel
theorem dJ8_hugeLength_7cf53_3 : decode cJ8_hugeLength_7cf53 3 = .ok (.istore_n 2, 1) := by decide +kernel
theorem dJ8_hugeLength_7cf53_4 : decode cJ8_hugeLength_7cf53 4 = .ok (.iload_n 2, 1) := by decide +kernel
theorem dJ8_hugeLength_7cf53_5 : decode cJ8_hugeLength_7cf53 5 = .ok (.ifCond .ge 44, 3) := by decide +kernel
theorem dJ8_hugeLength_7cf53_8 : decode cJ8_hugeLength_7cf53 8 = .ok (.new 204, 3) := by decide +kernel
theorem dJ8_hugeLength_7cf53_11 : decode cJ8_hugeLength_7cf53 11 = .ok (.dup, 1) := by decide +kernel
theorem dJ8_hugeLength_7cf53_12 : decode cJ8_hugeLength_7cf53 12 = .ok (.new 89, 3) := by decide +kernel
theorem dJ8_hugeLength_7cf53_15 : decode cJ8_hugeLength_7cf53 15 = .ok (.dup, 1) := by decide +kernel
theorem dJ8_hugeLength_7cf53_16 : decode cJ8_hugeLength_7cf53 16 = .ok (.invokespecial 91, 3) := by decide +kernel
theorem dJ8_hugeLength_7cf53_19 : decode cJ8_hugeLength_7cf53 19 = .ok (.ldc 206, 2) := by decide +kernel
theorem dJ8_hugeLength_7cf53_21 : decode cJ8_hugeLength_7cf53 21 = .ok (.invokevirtual 94, 3) := by decide +kernel
theorem dJ8_hugeLength_7cf53_24 : decode cJ8_hugeLength_7cf53 24 = .ok (.iload_n 0, 1) := by decide +kernel
theorem dJ8_hugeLength_7cf53_25 : decode cJ8_hugeLength_7cf53 25 = .ok (.invokevirtual 98, 3) := by decide +kernel
theorem dJ8_hugeLength_7cf53_28 : decode cJ8_hugeLength_7cf53 28 = .ok (.ldc 208, 2) := by decide +kernel
theorem dJ8_hugeLength_7cf53_30 : decode cJ8_hugeLength_7cf53 30 = .ok (.invokevirtual 94, 3) := by decide +kernel
theorem dJ8_hugeLength_7cf53_33 : decode cJ8_hugeLength_7cf53 33 = .ok (.iload_n 1, 1) := by decide +kernel
theorem dJ8_hugeLength_7cf53_34 : decode cJ8_hugeLength_7cf53 34 = .ok (.invokevirtual 98, 3) := by decide +kernel
theorem dJ8_hugeLength_7cf53_37 : decode cJ8_hugeLength_7cf53 37 = .ok (.ldc 210, 2) := by decide +kernel
theorem dJ8_hugeLength_7cf53_39 : decode cJ8_hugeLength_7cf53 39 = .ok (.invokevirtual 94, 3) := by decide +kernel
theorem dJ8_hugeLength_7cf53_42 : decode cJ8_hugeLength_7cf53 42 = .ok (.invokevirtual 101, 3) := by decide +kernel
theorem dJ8_hugeLength_7cf53_45 : decode cJ8_hugeLength_7cf53 45 = .ok (.invokespecial 212, 3) := by decide +kernel
theorem dJ8_hugeLength_7cf53_48 : decode cJ8_hugeLength_7cf53 48 = .ok (.athrow, 1) := by decide +kernel
theorem dJ8_hugeLength_7cf53_49 : decode cJ8_hugeLength_7cf53 49 = .ok (.iload_n 2, 1) := by decide +kernel
theorem dJ8_hugeLength_7cf53_50 : decode cJ8_hugeLength_7cf53 50 = .ok (.ldc 200, 2) := by decide +kernel
theorem dJ8_hugeLength_7cf53_52 : decode cJ8_hugeLength_7cf53 52 = .ok (.if_icmp .gt 6, 3) := by decide +kernel
theorem dJ8_hugeLength_7cf53_55 : decode cJ8_hugeLength_7cf53 55 = .ok (.ldc 200, 2) := by decide +kernel
theorem dJ8_hugeLength_7cf53_57 : decode cJ8_hugeLength_7cf53 57 = .ok (.ireturn, 1) := by decide +kernel
theorem dJ8_hugeLength_7cf53_58 : decode cJ8_hugeLength_7cf53 58 = .ok (.iload_n 2, 1) := by decide +kernel
theorem dJ8_hugeLength_7cf53_59 : decode cJ8_hugeLength_7cf53 59 = .ok (.ireturn, 1) := by decide +kernel
theorem dJ3_checkIndex_8e157_0 : decode cJ3_checkIndex_8e157 0 = .ok (.iload_n 0, 1) := by decide +kernel
theorem dJ3_checkIndex_8e157_1 : decode cJ3_checkIndex_8e157 1 = .ok (.ifCond .lt 8, 3) := by decide +kernel
theorem dJ3_checkIndex_8e157_4 : decode cJ3_checkIndex_8e157 4 = .ok (.iload_n 0, 1) := by decide +kernel
theorem dJ3_checkIndex_8e157_5 : decode cJ3_checkIndex_8e157 5 = .ok (.iload_n 1, 1) := by decide +kernel
theorem dJ3_checkIndex_8e157_6 : decode cJ3_checkIndex_8e157 6 = .ok (.if_icmp .lt 10, 3) := by decide +kernel
theorem dJ3_checkIndex_8e157_9 : decode cJ3_checkIndex_8e157 9 = .ok (.aload_n 2, 1) := by decide +kernel
theorem dJ3_checkIndex_8e157_10 : decode cJ3_checkIndex_8e157 10 = .ok (.iload_n 0, 1) := by decide +kernel
theorem dJ3_checkIndex_8e157_11 : decode cJ3_checkIndex_8e157 11 = .ok (.iload_n 1, 1) := by decide +kernel
theorem dJ3_checkIndex_8e157_12 : decode cJ3_checkIndex_8e157 12 = .ok (.invokestatic 95, 3) := by decide +kernel
theorem dJ3_checkIndex_8e157_15 : decode cJ3_checkIndex_8e157 15 = .ok (.athrow, 1) := by decide +kernel
theorem dJ3_checkIndex_8e157_16 : decode cJ3_checkIndex_8e157 16 = .ok (.iload_n 0, 1) := by decide +kernel
theorem dJ3_checkIndex_8e157_17 : decode cJ3_checkIndex_8e157 17 = .ok (.ireturn, 1) := by decide +kernel
end
section
theorem dX6_init_0 : decode cX6_init 0 = .ok (.aload_n 0, 1) := by decide +kernel
theorem dX6_init_1 : decode cX6_init 1 = .ok (.invokespecial 1, 3) := by decide +kernel
theorem dX6_init_4 : decode cX6_init 4 = .ok (.aload_n 0, 1) := by decide +kernel
theorem dX6_init_5 : decode cX6_init 5 = .ok (.bipush 6, 2) := by decide +kernel
theorem dX6_init_7 : decode cX6_init 7 = .ok (.putfield 7, 3) := by decide +kernel
theorem dX6_init_10 : decode cX6_init 10 = .ok (.aload_n 0, 1) := by decide +kernel
theorem dX6_init_11 : decode cX6_init 11 = .ok (.bipush 20, 2) := by decide +kernel
theorem dX6_init_13 : decode cX6_init 13 = .ok (.newarray .int, 2) := by decide +kernel
theorem dX6_init_15 : decode cX6_init 15 = .ok (.putfield 13, 3) := by decide +kernel
theorem dX6_init_18 : decode cX6_init 18 = .ok (.aload_n 0, 1) := by decide +kernel
theorem dX6_init_19 : decode cX6_init 19 = .ok (.bipush 40, 2) := by decide +kernel
theorem dX6_init_21 : decode cX6_init 21 = .ok (.newarray .int, 2) := by decide +kernel
theorem dX6_init_23 : decode cX6_init 23 = .ok (.putfield 17, 3) := by decide +kernel
theorem dX6_init_26 : decode cX6_init 26 = .ok (.aload_n 0, 1) := by decide +kernel
theorem dX6_init_27 : decode cX6_init 27 = .ok (.bipush 40, 2) := by decide +kernel
theorem dX6_init_29 : decode cX6_init 29 = .ok (.newarray .int, 2) := by decide +kernel
theorem dX6_init_31 : decode cX6_init 31 = .ok (.putfield 20, 3) := by decide +kernel
theorem dX6_init_34 : decode cX6_init 34 = .ok (.aload_n 0, 1) := by decide +kernel
theorem dX6_init_35 : decode cX6_init 35 = .ok (.bipush 40, 2) := by decide +kernel
theorem dX6_init_37 : decode cX6_init 37 = .ok (.newarray .int, 2) := by decide +kernel
theorem dX6_init_39 : decode cX6_init 39 = .ok (.putfield 23, 3) := by decide +kernel
theorem dX6_init_42 : decode cX6_init 42 = .ok (.aload_n 0, 1) := by decide +kernel
theorem dX6_init_43 : decode cX6_init 43 = .ok (.bipush 40, 2) := by decide +kernel
theorem dX6_init_45 : decode cX6_init 45 = .ok (.newarray .int, 2) := by decide +kernel
theorem dX6_init_47 : decode cX6_init 47 = .ok (.putfield 26, 3) := by decide +kernel
theorem dX6_init_50 : decode cX6_init 50 = .ok (.aload_n 0, 1) := by decide +kernel
theorem dX6_init_51 : decode cX6_init 51 = .ok (.sipush 200, 3) := by decide +kernel
theorem dX6_init_54 : decode cX6_init 54 = .ok (.newarray .int, 2) := by decide +kernel
theorem dX6_init_56 : decode cX6_init 56 = .ok (.putfield 29, 3) := by decide +kernel
theorem dX6_init_59 : decode cX6_init 59 = .ok (.aload_n 0, 1) := by decide +kernel
theorem dX6_init_60 : decode cX6_init 60 = .ok (.sipush 200, 3) := by decide +kernel
theorem dX6_init_63 : decode cX6_init 63 = .ok (.newarray .int, 2) := by decide +kernel
theorem dX6_init_65 : decode cX6_init 65 = .ok (.putfield 32, 3) := by decide +kernel
theorem dX6_init_68 : decode cX6_init 68 = .ok (.aload_n 0, 1) := by decide +kernel
theorem dX6_init_69 : decode cX6_init 69 = .ok (.bipush 9, 2) := by decide +kernel
theorem dX6_init_71 : decode cX6_init 71 = .ok (.newarray .int, 2) := by decide +kernel
theorem dX6_init_73 : decode cX6_init 73 = .ok (.putfield 35, 3) := by decide +kernel
theorem dX6_init_76 : decode cX6_init 76 = .ok (.aload_n 0, 1) := by decide +kernel
theorem dX6_init_77 : decode cX6_init 77 = .ok (.sipush 5120, 3) := by decide +kernel
theorem dX6_init_80 : decode cX6_init 80 = .ok (.newarray .int, 2) := by decide +kernel
theorem dX6_init_82 : decode cX6_init 82 = .ok (.putfield 38, 3) := by decide +kernel
theorem dX6_init_85 : decode cX6_init 85 = .ok (.aload_n 0, 1) := by decide +kernel
theorem dX6_init_86 : decode cX6_init 86 = .ok (.bipush 9, 2) := by decide +kernel
theorem dX6_init_88 : decode cX6_init 88 = .ok (.newarray .int, 2) := by decide +kernel
theorem dX6_init_90 : decode cX6_init 90 = .ok (.putfield 41, 3) := by decide +kernel
theorem dX6_init_93 : decode cX6_init 93 = .ok (.aload_n 0, 1) := by decide +kernel
theorem dX6_init_94 : decode cX6_init 94 = .ok (.bipush 20, 2) := by decide +kernel
theorem dX6_init_96 : decode cX6_init 96 = .ok (.newarray .int, 2) := by decide +kernel
theorem dX6_init_98 : decode cX6_init 98 = .ok (.putfield 44, 3) := by decide +kernel
theorem dX6_init_101 : decode cX6_init 101 = .ok (.aload_n 0, 1) := by decide +kernel
theorem dX6_init_102 : decode cX6_init 102 = .ok (.bipush 20, 2) := by decide +kernel
theorem dX6_init_104 : decode cX6_init 104 = .ok (.newarray .int, 2) := by decide +kernel
theorem dX6_init_106 : decode cX6_init 106 = .ok (.putfield 47, 3) := by decide +kernel
theorem dX6_init_109 : decode cX6_init 109 = .ok (.aload_n 0, 1) := by decide +kernel
theorem dX6_init_110 : decode cX6_init 110 = .ok (.iload_n 1, 1) := by decide +kernel
theorem dX6_init_111 : decode cX6_init 111 = .ok (.iconst 1, 1) := by decide +kernel
theorem dX6_init_112 : decode cX6_init 112 = .ok (.if_icmp .ge 7, 3) := by decide +kernel
theorem dX6_init_115 : decode cX6_init 115 = .ok (.iconst 1, 1) := by decide +kernel
theorem dX6_init_116 : decode cX6_init 116 = .ok (.goto 15, 3) := by decide +kernel
theorem dX6_init_119 : decode cX6_init 119 = .ok (.iload_n 1, 1) := by decide +kernel
theorem dX6_init_120 : decode cX6_init 120 = .ok (.bipush 6, 2) := by decide +kernel
theorem dX6_init_122 : decode cX6_init 122 = .ok (.if_icmp .le 8, 3) := by decide +kernel
theorem dX6_init_125 : decode cX6_init 125 = .ok (.bipush 6, 2) := by decide +kernel
theorem dX6_init_127 : decode cX6_init 127 = .ok (.goto 4, 3) := by decide +kernel
theorem dX6_init_130 : decode cX6_init 130 = .ok (.iload_n 1, 1) := by decide +kernel
theorem dX6_init_131 : decode cX6_init 131 = .ok (.putfield 50, 3) := by decide +kernel
theorem dX6_init_134 : decode cX6_init 134 = .ok (.aload_n 0, 1) := by decide +kernel
theorem dX6_init_135 : decode cX6_init 135 = .ok (.iload_n 2, 1) := by decide +kernel
theorem dX6_init_136 : decode cX6_init 136 = .ok (.iconst 1, 1) := by decide +kernel
theorem dX6_init_137 : decode cX6_init 137 = .ok (.if_icmp .ge 7, 3) := by decide +kernel
theorem dX6_init_140 : decode cX6_init 140 = .ok (.iconst 1, 1) := by decide +kernel
theorem dX6_init_141 : decode cX6_init 141 = .ok (.goto 15, 3) := by decide +kernel
theorem dX6_init_144 : decode cX6_init 144 = .ok (.iload_n 2, 1) := by decide +kernel
theorem dX6_init_145 : decode cX6_init 145 = .ok (.bipush 20, 2) := by decide +kernel
theorem dX6_init_147 : decode cX6_init 147 = .ok (.if_icmp .le 8, 3) := by decide +kernel
theorem dX6_init_150 : decode cX6_init 150 = .ok (.bipush 20, 2) := by decide +kernel
theorem dX6_init_152 : decode cX6_init 152 = .ok (.goto 4, 3) := by decide +kernel
theorem dX6_init_155 : decode cX6_init 155 = .ok (.iload_n 2, 1) := by decide +kernel
theorem dX6_init_156 : decode cX6_init 156 = .ok (.putfield 53, 3) := by decide +kernel
theorem dX6_init_159 : decode cX6_init 159 = .ok (.aload_n 0, 1) := by decide +kernel
theorem dX6_init_160 : decode cX6_init 160 = .ok (.iload_n 3, 1) := by decide +kernel
theorem dX6_init_161 : decode cX6_init 161 = .ok (.iconst 1, 1) := by decide +kernel
theorem dX6_init_162 : decode cX6_init 162 = .ok (.if_icmp .ge 7, 3) := by decide +kernel
theorem dX6_init_165 : decode cX6_init 165 = .ok (.iconst 1, 1) := by decide +kernel
theorem dX6_init_166 : decode cX6_init 166 = .ok (.goto 15, 3) := by decide +kernel
theorem dX6_init_169 : decode cX6_init 169 = .ok (.iload_n 3, 1) := by decide +kernel
theorem dX6_init_170 : decode cX6_init 170 = .ok (.bipush 9, 2) := by decide +kernel
theorem dX6_init_172 : decode cX6_init 172 = .ok (.if_icmp .le 8, 3) := by decide +kernel
theorem dX6_init_175 : decode cX6_init 175 = .ok (.bipush 9, 2) := by decide +kernel
theorem dX6_init_177 : decode cX6_init 177 = .ok (.goto 4, 3) := by decide +kernel
theorem dX6_init_180 : decode cX6_init 180 = .ok (.iload_n 3, 1) := by decide +kernel
theorem dX6_init_181 : decode cX6_init 181 = .ok (.putfield 56, 3) := by decide +kernel
theorem dX6_init_184 : decode cX6_init 184 = .ok (.iconst 0, 1) := by decide +kernel
theorem dX6_init_185 : decode cX6_init 185 = .ok (.istore 4, 2) := by decide +kernel
theorem dX6_init_187 : decode cX6_init 187 = .ok (.iload 4, 2) := by decide +kernel
theorem dX6_init_189 : decode cX6_init 189 = .ok (.bipush 20, 2) := by decide +kernel
theorem dX6_init_191 : decode cX6_init 191 = .ok (.if_icmp .ge 17, 3) := by decide +kernel
theorem dX6_init_194 : decode cX6_init 194 = .ok (.aload_n 0, 1) := by decide +kernel
theorem dX6_init_195 : decode cX6_init 195 = .ok (.getfield 13, 3) := by decide +kernel
theorem dX6_init_198 : decode cX6_init 198 = .ok (.iload 4, 2) := by decide +kernel
theorem dX6_init_200 : decode cX6_init 200 = .ok (.iconst (-1), 1) := by decide +kernel
theorem dX6_init_201 : decode cX6_init 201 = .ok (.iastore, 1) := by decide +kernel
theorem dX6_init_202 : decode cX6_init 202 = .ok (.iinc 4 1, 3) := by decide +kernel
theorem dX6_init_205 : decode cX6_init 205 = .ok (.goto (-18), 3) := by decide +kernel
theorem dX6_init_208 : decode cX6_init 208 = .ok (.return_, 1) := by decide +kernel
theorem dX6_thrown_0 : decode cX6_thrown 0 = .ok (.aload_n 0, 1) := by decide +kernel
theorem dX6_thrown_1 : decode cX6_thrown 1 = .ok (.getfield 59, 3) := by decide +kernel
theorem dX6_thrown_4 : decode cX6_thrown 4 = .ok (.ireturn, 1) := by decide +kernel
theorem dX6_fails_0 : decode cX6_fails 0 = .ok (.aload_n 0, 1) := by decide +kernel
theorem dX6_fails_1 : decode cX6_fails 1 = .ok (.iload_n 1, 1) := by decide +kernel
theorem dX6_fails_2 : decode cX6_fails 2 = .ok (.putfield 59, 3) := by decide +kernel
theorem dX6_fails_5 : decode cX6_fails 5 = .ok (.iconst 0, 1) := by decide +kernel
theorem dX6_fails_6 : decode cX6_fails 6 = .ok (.ireturn, 1) := by decide +kernel
theorem dX6_in_0 : decode cX6_in 0 = .ok (.iload_n 0, 1) := by decide +kernel
theorem dX6_in_1 : decode cX6_in 1 = .ok (.iload_n 1, 1) := by decide +kernel
theorem dX6_in_2 : decode cX6_in 2 = .ok (.if_icmp .lt 12, 3) := by decide +kernel
theorem dX6_in_5 : decode cX6_in 5 = .ok (.iload_n 0, 1) := by decide +kernel
theorem dX6_in_6 : decode cX6_in 6 = .ok (.iload_n 2, 1) := by decide +kernel
theorem dX6_in_7 : decode cX6_in 7 = .ok (.if_icmp .gt 7, 3) := by decide +kernel
theorem dX6_in_10 : decode cX6_in 10 = .ok (.iconst 1, 1) := by decide +kernel
theorem dX6_in_11 : decode cX6_in 11 = .ok (.goto 4, 3) := by decide +kernel
theorem dX6_in_14 : decode cX6_in 14 = .ok (.iconst 0, 1) := by decide +kernel
theorem dX6_in_15 : decode cX6_in 15 = .ok (.ireturn, 1) := by decide +kernel
theorem dX6_isProduct_0 : decode cX6_isProduct 0 = .ok (.iload_n 0, 1) := by decide +kernel
theorem dX6_isProduct_1 : decode cX6_isProduct 1 = .ok (.iconst 0, 1) := by decide +kernel
theorem dX6_isProduct_2 : decode cX6_isProduct 2 = .ok (.bipush 19, 2) := by decide +kernel
theorem dX6_isProduct_4 : decode cX6_isProduct 4 = .ok (.invokestatic 62, 3) := by decide +kernel
theorem dX6_isProduct_7 : decode cX6_isProduct 7 = .ok (.ireturn, 1) := by decide +kernel
theorem dX6_isOrder_0 : decode cX6_isOrder 0 = .ok (.iload_n 1, 1) := by decide +kernel
theorem dX6_isOrder_1 : decode cX6_isOrder 1 = .ok (.iconst 0, 1) := by decide +kernel
theorem dX6_isOrder_2 : decode cX6_isOrder 2 = .ok (.aload_n 0, 1) := by decide +kernel
theorem dX6_isOrder_3 : decode cX6_isOrder 3 = .ok (.getfield 66, 3) := by decide +kernel
theorem dX6_isOrder_6 : decode cX6_isOrder 6 = .ok (.iconst 1, 1) := by decide +kernel
theorem dX6_isOrder_7 : decode cX6_isOrder 7 = .ok (.isub, 1) := by decide +kernel
theorem dX6_isOrder_8 : decode cX6_isOrder 8 = .ok (.invokestatic 62, 3) := by decide +kernel
theorem dX6_isOrder_11 : decode cX6_isOrder 11 = .ok (.ireturn, 1) := by decide +kernel
theorem dX6_isBatch_0 : decode cX6_isBatch 0 = .ok (.iload_n 1, 1) := by decide +kernel
theorem dX6_isBatch_1 : decode cX6_isBatch 1 = .ok (.iconst 0, 1) := by decide +kernel
theorem dX6_isBatch_2 : decode cX6_isBatch 2 = .ok (.aload_n 0, 1) := by decide +kernel
theorem dX6_isBatch_3 : decode cX6_isBatch 3 = .ok (.getfield 69, 3) := by decide +kernel
theorem dX6_isBatch_6 : decode cX6_isBatch 6 = .ok (.iconst 1, 1) := by decide +kernel
theorem dX6_isBatch_7 : decode cX6_isBatch 7 = .ok (.isub, 1) := by decide +kernel
theorem dX6_isBatch_8 : decode cX6_isBatch 8 = .ok (.invokestatic 62, 3) := by decide +kernel
theorem dX6_isBatch_11 : decode cX6_isBatch 11 = .ok (.ireturn, 1) := by decide +kernel
theorem dX6_way_0 : decode cX6_way 0 = .ok (.iload_n 1, 1) := by decide +kernel
theorem dX6_way_1 : decode cX6_way 1 = .ok (.bipush 100, 2) := by decide +kernel
theorem dX6_way_3 : decode cX6_way 3 = .ok (.idiv, 1) := by decide +kernel
theorem dX6_way_4 : decode cX6_way 4 = .ok (.iload_n 2, 1) := by decide +kernel
theorem dX6_way_5 : decode cX6_way 5 = .ok (.bipush 100, 2) := by decide +kernel
theorem dX6_way_7 : decode cX6_way 7 = .ok (.idiv, 1) := by decide +kernel
theorem dX6_way_8 : decode cX6_way 8 = .ok (.isub, 1) := by decide +kernel
theorem dX6_way_9 : decode cX6_way 9 = .ok (.istore_n 3, 1) := by decide +kernel
theorem dX6_way_10 : decode cX6_way 10 = .ok (.iload_n 1, 1) := by decide +kernel
theorem dX6_way_11 : decode cX6_way 11 = .ok (.bipush 100, 2) := by decide +kernel
theorem dX6_way_13 : decode cX6_way 13 = .ok (.irem, 1) := by decide +kernel
theorem dX6_way_14 : decode cX6_way 14 = .ok (.istore 4, 2) := by decide +kernel
theorem dX6_way_16 : decode cX6_way 16 = .ok (.iload_n 2, 1) := by decide +kernel
theorem dX6_way_17 : decode cX6_way 17 = .ok (.bipush 100, 2) := by decide +kernel
theorem dX6_way_19 : decode cX6_way 19 = .ok (.irem, 1) := by decide +kernel
theorem dX6_way_20 : decode cX6_way 20 = .ok (.istore 5, 2) := by decide +kernel
theorem dX6_way_22 : decode cX6_way 22 = .ok (.iload_n 3, 1) := by decide +kernel
theorem dX6_way_23 : decode cX6_way 23 = .ok (.ifCond .ne 24, 3) := by decide +kernel
theorem dX6_way_26 : decode cX6_way 26 = .ok (.iload 4, 2) := by decide +kernel
theorem dX6_way_28 : decode cX6_way 28 = .ok (.iload 5, 2) := by decide +kernel
theorem dX6_way_30 : decode cX6_way 30 = .ok (.if_icmp .ge 11, 3) := by decide +kernel
theorem dX6_way_33 : decode cX6_way 33 = .ok (.iload 5, 2) := by decide +kernel
theorem dX6_way_35 : decode cX6_way 35 = .ok (.iload 4, 2) := by decide +kernel
theorem dX6_way_37 : decode cX6_way 37 = .ok (.isub, 1) := by decide +kernel
theorem dX6_way_38 : decode cX6_way 38 = .ok (.goto 8, 3) := by decide +kernel
theorem dX6_way_41 : decode cX6_way 41 = .ok (.iload 4, 2) := by decide +kernel
theorem dX6_way_43 : decode cX6_way 43 = .ok (.iload 5, 2) := by decide +kernel
theorem dX6_way_45 : decode cX6_way 45 = .ok (.isub, 1) := by decide +kernel
theorem dX6_way_46 : decode cX6_way 46 = .ok (.ireturn, 1) := by decide +kernel
theorem dX6_way_47 : decode cX6_way 47 = .ok (.iload 4, 2) := by decide +kernel
theorem dX6_way_49 : decode cX6_way 49 = .ok (.iload 5, 2) := by decide +kernel
theorem dX6_way_51 : decode cX6_way 51 = .ok (.iadd, 1) := by decide +kernel
theorem dX6_way_52 : decode cX6_way 52 = .ok (.istore 6, 2) := by decide +kernel
theorem dX6_way_54 : decode cX6_way 54 = .ok (.iconst 2, 1) := by decide +kernel
theorem dX6_way_55 : decode cX6_way 55 = .ok (.aload_n 0, 1) := by decide +kernel
theorem dX6_way_56 : decode cX6_way 56 = .ok (.getfield 53, 3) := by decide +kernel
theorem dX6_way_59 : decode cX6_way 59 = .ok (.iconst 1, 1) := by decide +kernel
theorem dX6_way_60 : decode cX6_way 60 = .ok (.iadd, 1) := by decide +kernel
theorem dX6_way_61 : decode cX6_way 61 = .ok (.imul, 1) := by decide +kernel
theorem dX6_way_62 : decode cX6_way 62 = .ok (.iload 6, 2) := by decide +kernel
theorem dX6_way_64 : decode cX6_way 64 = .ok (.isub, 1) := by decide +kernel
theorem dX6_way_65 : decode cX6_way 65 = .ok (.istore 7, 2) := by decide +kernel
theorem dX6_way_67 : decode cX6_way 67 = .ok (.iload_n 3, 1) := by decide +kernel
theorem dX6_way_68 : decode cX6_way 68 = .ok (.ifCond .ge 8, 3) := by decide +kernel
theorem dX6_way_71 : decode cX6_way 71 = .ok (.iload_n 3, 1) := by decide +kernel
theorem dX6_way_72 : decode cX6_way 72 = .ok (.ineg, 1) := by decide +kernel
theorem dX6_way_73 : decode cX6_way 73 = .ok (.goto 4, 3) := by decide +kernel
theorem dX6_way_76 : decode cX6_way 76 = .ok (.iload_n 3, 1) := by decide +kernel
theorem dX6_way_77 : decode cX6_way 77 = .ok (.aload_n 0, 1) := by decide +kernel
theorem dX6_way_78 : decode cX6_way 78 = .ok (.getfield 56, 3) := by decide +kernel
theorem dX6_way_81 : decode cX6_way 81 = .ok (.imul, 1) := by decide +kernel
theorem dX6_way_82 : decode cX6_way 82 = .ok (.iload 6, 2) := by decide +kernel
theorem dX6_way_84 : decode cX6_way 84 = .ok (.iload 7, 2) := by decide +kernel
theorem dX6_way_86 : decode cX6_way 86 = .ok (.if_icmp .ge 8, 3) := by decide +kernel
theorem dX6_way_89 : decode cX6_way 89 = .ok (.iload 6, 2) := by decide +kernel
theorem dX6_way_91 : decode cX6_way 91 = .ok (.goto 5, 3) := by decide +kernel
theorem dX6_way_94 : decode cX6_way 94 = .ok (.iload 7, 2) := by decide +kernel
theorem dX6_way_96 : decode cX6_way 96 = .ok (.iadd, 1) := by decide +kernel
theorem dX6_way_97 : decode cX6_way 97 = .ok (.ireturn, 1) := by decide +kernel
theorem dX6_step_0 : decode cX6_step 0 = .ok (.aload_n 0, 1) := by decide +kernel
theorem dX6_step_1 : decode cX6_step 1 = .ok (.iload_n 1, 1) := by decide +kernel
theorem dX6_step_2 : decode cX6_step 2 = .ok (.bipush 9, 2) := by decide +kernel
theorem dX6_step_4 : decode cX6_step 4 = .ok (.if_icmp .ne 7, 3) := by decide +kernel
theorem dX6_step_7 : decode cX6_step 7 = .ok (.iconst 0, 1) := by decide +kernel
theorem dX6_step_8 : decode cX6_step 8 = .ok (.goto 14, 3) := by decide +kernel
theorem dX6_step_11 : decode cX6_step 11 = .ok (.aload_n 0, 1) := by decide +kernel
theorem dX6_step_12 : decode cX6_step 12 = .ok (.getfield 13, 3) := by decide +kernel
theorem dX6_step_15 : decode cX6_step 15 = .ok (.aload_n 0, 1) := by decide +kernel
theorem dX6_step_16 : decode cX6_step 16 = .ok (.getfield 35, 3) := by decide +kernel
theorem dX6_step_19 : decode cX6_step 19 = .ok (.iload_n 1, 1) := by decide +kernel
theorem dX6_step_20 : decode cX6_step 20 = .ok (.iaload, 1) := by decide +kernel
theorem dX6_step_21 : decode cX6_step 21 = .ok (.iaload, 1) := by decide +kernel
theorem dX6_step_22 : decode cX6_step 22 = .ok (.iload_n 2, 1) := by decide +kernel
theorem dX6_step_23 : decode cX6_step 23 = .ok (.bipush 9, 2) := by decide +kernel
theorem dX6_step_25 : decode cX6_step 25 = .ok (.if_icmp .ne 7, 3) := by decide +kernel
theorem dX6_step_28 : decode cX6_step 28 = .ok (.iconst 0, 1) := by decide +kernel
theorem dX6_step_29 : decode cX6_step 29 = .ok (.goto 14, 3) := by decide +kernel
theorem dX6_step_32 : decode cX6_step 32 = .ok (.aload_n 0, 1) := by decide +kernel
theorem dX6_step_33 : decode cX6_step 33 = .ok (.getfield 13, 3) := by decide +kernel
theorem dX6_step_36 : decode cX6_step 36 = .ok (.aload_n 0, 1) := by decide +kernel
theorem dX6_step_37 : decode cX6_step 37 = .ok (.getfield 35, 3) := by decide +kernel
theorem dX6_step_40 : decode cX6_step 40 = .ok (.iload_n 2, 1) := by decide +kernel
theorem dX6_step_41 : decode cX6_step 41 = .ok (.iaload, 1) := by decide +kernel
theorem dX6_step_42 : decode cX6_step 42 = .ok (.iaload, 1) := by decide +kernel
theorem dX6_step_43 : decode cX6_step 43 = .ok (.invokevirtual 72, 3) := by decide +kernel
theorem dX6_step_46 : decode cX6_step 46 = .ok (.ireturn, 1) := by decide +kernel
theorem dX6_layRoute_0 : decode cX6_layRoute 0 = .ok (.aload_n 0, 1) := by decide +kernel
theorem dX6_layRoute_1 : decode cX6_layRoute 1 = .ok (.iconst 0, 1) := by decide +kernel
theorem dX6_layRoute_2 : decode cX6_layRoute 2 = .ok (.putfield 76, 3) := by decide +kernel
theorem dX6_layRoute_5 : decode cX6_layRoute 5 = .ok (.iconst 0, 1) := by decide +kernel
theorem dX6_layRoute_6 : decode cX6_layRoute 6 = .ok (.istore_n 2, 1) := by decide +kernel
theorem dX6_layRoute_7 : decode cX6_layRoute 7 = .ok (.iload_n 2, 1) := by decide +kernel
theorem dX6_layRoute_8 : decode cX6_layRoute 8 = .ok (.bipush 20, 2) := by decide +kernel
theorem dX6_layRoute_10 : decode cX6_layRoute 10 = .ok (.if_icmp .ge 86, 3) := by decide +kernel
theorem dX6_layRoute_13 : decode cX6_layRoute 13 = .ok (.iload_n 1, 1) := by decide +kernel
theorem dX6_layRoute_14 : decode cX6_layRoute 14 = .ok (.iload_n 2, 1) := by decide +kernel
theorem dX6_layRoute_15 : decode cX6_layRoute 15 = .ok (.ishr, 1) := by decide +kernel
theorem dX6_layRoute_16 : decode cX6_layRoute 16 = .ok (.iconst 1, 1) := by decide +kernel
theorem dX6_layRoute_17 : decode cX6_layRoute 17 = .ok (.iand, 1) := by decide +kernel
theorem dX6_layRoute_18 : decode cX6_layRoute 18 = .ok (.iconst 1, 1) := by decide +kernel
theorem dX6_layRoute_19 : decode cX6_layRoute 19 = .ok (.if_icmp .ne 71, 3) := by decide +kernel
theorem dX6_layRoute_22 : decode cX6_layRoute 22 = .ok (.aload_n 0, 1) := by decide +kernel
theorem dX6_layRoute_23 : decode cX6_layRoute 23 = .ok (.getfield 76, 3) := by decide +kernel
theorem dX6_layRoute_26 : decode cX6_layRoute 26 = .ok (.istore_n 3, 1) := by decide +kernel
theorem dX6_layRoute_27 : decode cX6_layRoute 27 = .ok (.iload_n 3, 1) := by decide +kernel
theorem dX6_layRoute_28 : decode cX6_layRoute 28 = .ok (.ifCond .le 45, 3) := by decide +kernel
theorem dX6_layRoute_31 : decode cX6_layRoute 31 = .ok (.aload_n 0, 1) := by decide +kernel
theorem dX6_layRoute_32 : decode cX6_layRoute 32 = .ok (.getfield 13, 3) := by decide +kernel
theorem dX6_layRoute_35 : decode cX6_layRoute 35 = .ok (.aload_n 0, 1) := by decide +kernel
theorem dX6_layRoute_36 : decode cX6_layRoute 36 = .ok (.getfield 35, 3) := by decide +kernel
theorem dX6_layRoute_39 : decode cX6_layRoute 39 = .ok (.iload_n 3, 1) := by decide +kernel
theorem dX6_layRoute_40 : decode cX6_layRoute 40 = .ok (.iconst 1, 1) := by decide +kernel
theorem dX6_layRoute_41 : decode cX6_layRoute 41 = .ok (.isub, 1) := by decide +kernel
theorem dX6_layRoute_42 : decode cX6_layRoute 42 = .ok (.iaload, 1) := by decide +kernel
theorem dX6_layRoute_43 : decode cX6_layRoute 43 = .ok (.iaload, 1) := by decide +kernel
theorem dX6_layRoute_44 : decode cX6_layRoute 44 = .ok (.aload_n 0, 1) := by decide +kernel
theorem dX6_layRoute_45 : decode cX6_layRoute 45 = .ok (.getfield 13, 3) := by decide +kernel
theorem dX6_layRoute_48 : decode cX6_layRoute 48 = .ok (.iload_n 2, 1) := by decide +kernel
theorem dX6_layRoute_49 : decode cX6_layRoute 49 = .ok (.iaload, 1) := by decide +kernel
theorem dX6_layRoute_50 : decode cX6_layRoute 50 = .ok (.if_icmp .le 23, 3) := by decide +kernel
theorem dX6_layRoute_53 : decode cX6_layRoute 53 = .ok (.aload_n 0, 1) := by decide +kernel
theorem dX6_layRoute_54 : decode cX6_layRoute 54 = .ok (.getfield 35, 3) := by decide +kernel
theorem dX6_layRoute_57 : decode cX6_layRoute 57 = .ok (.iload_n 3, 1) := by decide +kernel
theorem dX6_layRoute_58 : decode cX6_layRoute 58 = .ok (.aload_n 0, 1) := by decide +kernel
theorem dX6_layRoute_59 : decode cX6_layRoute 59 = .ok (.getfield 35, 3) := by decide +kernel
theorem dX6_layRoute_62 : decode cX6_layRoute 62 = .ok (.iload_n 3, 1) := by decide +kernel
theorem dX6_layRoute_63 : decode cX6_layRoute 63 = .ok (.iconst 1, 1) := by decide +kernel
theorem dX6_layRoute_64 : decode cX6_layRoute 64 = .ok (.isub, 1) := by decide +kernel
theorem dX6_layRoute_65 : decode cX6_layRoute 65 = .ok (.iaload, 1) := by decide +kernel
theorem dX6_layRoute_66 : decode cX6_layRoute 66 = .ok (.iastore, 1) := by decide +kernel
theorem dX6_layRoute_67 : decode cX6_layRoute 67 = .ok (.iinc 3 (-1), 3) := by decide +kernel
theorem dX6_layRoute_70 : decode cX6_layRoute 70 = .ok (.goto (-43), 3) := by decide +kernel
theorem dX6_layRoute_73 : decode cX6_layRoute 73 = .ok (.aload_n 0, 1) := by decide +kernel
theorem dX6_layRoute_74 : decode cX6_layRoute 74 = .ok (.getfield 35, 3) := by decide +kernel
theorem dX6_layRoute_77 : decode cX6_layRoute 77 = .ok (.iload_n 3, 1) := by decide +kernel
theorem dX6_layRoute_78 : decode cX6_layRoute 78 = .ok (.iload_n 2, 1) := by decide +kernel
theorem dX6_layRoute_79 : decode cX6_layRoute 79 = .ok (.iastore, 1) := by decide +kernel
theorem dX6_layRoute_80 : decode cX6_layRoute 80 = .ok (.aload_n 0, 1) := by decide +kernel
theorem dX6_layRoute_81 : decode cX6_layRoute 81 = .ok (.dup, 1) := by decide +kernel
theorem dX6_layRoute_82 : decode cX6_layRoute 82 = .ok (.getfield 76, 3) := by decide +kernel
theorem dX6_layRoute_85 : decode cX6_layRoute 85 = .ok (.iconst 1, 1) := by decide +kernel
theorem dX6_layRoute_86 : decode cX6_layRoute 86 = .ok (.iadd, 1) := by decide +kernel
theorem dX6_layRoute_87 : decode cX6_layRoute 87 = .ok (.putfield 76, 3) := by decide +kernel
theorem dX6_layRoute_90 : decode cX6_layRoute 90 = .ok (.iinc 2 1, 3) := by decide +kernel
theorem dX6_layRoute_93 : decode cX6_layRoute 93 = .ok (.goto (-86), 3) := by decide +kernel
theorem dX6_layRoute_96 : decode cX6_layRoute 96 = .ok (.iconst 0, 1) := by decide +kernel
theorem dX6_layRoute_97 : decode cX6_layRoute 97 = .ok (.istore_n 2, 1) := by decide +kernel
theorem dX6_layRoute_98 : decode cX6_layRoute 98 = .ok (.iload_n 2, 1) := by decide +kernel
theorem dX6_layRoute_99 : decode cX6_layRoute 99 = .ok (.iconst 1, 1) := by decide +kernel
theorem dX6_layRoute_100 : decode cX6_layRoute 100 = .ok (.aload_n 0, 1) := by decide +kernel
theorem dX6_layRoute_101 : decode cX6_layRoute 101 = .ok (.getfield 76, 3) := by decide +kernel
theorem dX6_layRoute_104 : decode cX6_layRoute 104 = .ok (.ishl, 1) := by decide +kernel
theorem dX6_layRoute_105 : decode cX6_layRoute 105 = .ok (.if_icmp .ge 79, 3) := by decide +kernel
theorem dX6_layRoute_108 : decode cX6_layRoute 108 = .ok (.iconst 0, 1) := by decide +kernel
theorem dX6_layRoute_109 : decode cX6_layRoute 109 = .ok (.istore_n 3, 1) := by decide +kernel
theorem dX6_layRoute_110 : decode cX6_layRoute 110 = .ok (.iload_n 3, 1) := by decide +kernel
theorem dX6_layRoute_111 : decode cX6_layRoute 111 = .ok (.bipush 10, 2) := by decide +kernel
theorem dX6_layRoute_113 : decode cX6_layRoute 113 = .ok (.if_icmp .ge 65, 3) := by decide +kernel
theorem dX6_layRoute_116 : decode cX6_layRoute 116 = .ok (.iload_n 3, 1) := by decide +kernel
theorem dX6_layRoute_117 : decode cX6_layRoute 117 = .ok (.bipush 9, 2) := by decide +kernel
theorem dX6_layRoute_119 : decode cX6_layRoute 119 = .ok (.if_icmp .eq 19, 3) := by decide +kernel
theorem dX6_layRoute_122 : decode cX6_layRoute 122 = .ok (.iload_n 3, 1) := by decide +kernel
theorem dX6_layRoute_123 : decode cX6_layRoute 123 = .ok (.aload_n 0, 1) := by decide +kernel
theorem dX6_layRoute_124 : decode cX6_layRoute 124 = .ok (.getfield 76, 3) := by decide +kernel
theorem dX6_layRoute_127 : decode cX6_layRoute 127 = .ok (.if_icmp .ge 15, 3) := by decide +kernel
theorem dX6_layRoute_130 : decode cX6_layRoute 130 = .ok (.iload_n 2, 1) := by decide +kernel
theorem dX6_layRoute_131 : decode cX6_layRoute 131 = .ok (.iload_n 3, 1) := by decide +kernel
theorem dX6_layRoute_132 : decode cX6_layRoute 132 = .ok (.ishr, 1) := by decide +kernel
theorem dX6_layRoute_133 : decode cX6_layRoute 133 = .ok (.iconst 1, 1) := by decide +kernel
theorem dX6_layRoute_134 : decode cX6_layRoute 134 = .ok (.iand, 1) := by decide +kernel
theorem dX6_layRoute_135 : decode cX6_layRoute 135 = .ok (.ifCond .ne 7, 3) := by decide +kernel
theorem dX6_layRoute_138 : decode cX6_layRoute 138 = .ok (.iconst 1, 1) := by decide +kernel
theorem dX6_layRoute_139 : decode cX6_layRoute 139 = .ok (.goto 4, 3) := by decide +kernel
theorem dX6_layRoute_142 : decode cX6_layRoute 142 = .ok (.iconst 0, 1) := by decide +kernel
theorem dX6_layRoute_143 : decode cX6_layRoute 143 = .ok (.istore 4, 2) := by decide +kernel
theorem dX6_layRoute_145 : decode cX6_layRoute 145 = .ok (.aload_n 0, 1) := by decide +kernel
theorem dX6_layRoute_146 : decode cX6_layRoute 146 = .ok (.getfield 38, 3) := by decide +kernel
theorem dX6_layRoute_149 : decode cX6_layRoute 149 = .ok (.bipush 10, 2) := by decide +kernel
theorem dX6_layRoute_151 : decode cX6_layRoute 151 = .ok (.iload_n 2, 1) := by decide +kernel
theorem dX6_layRoute_152 : decode cX6_layRoute 152 = .ok (.imul, 1) := by decide +kernel
theorem dX6_layRoute_153 : decode cX6_layRoute 153 = .ok (.iload_n 3, 1) := by decide +kernel
theorem dX6_layRoute_154 : decode cX6_layRoute 154 = .ok (.iadd, 1) := by decide +kernel
theorem dX6_layRoute_155 : decode cX6_layRoute 155 = .ok (.iload 4, 2) := by decide +kernel
theorem dX6_layRoute_157 : decode cX6_layRoute 157 = .ok (.ifCond .eq 12, 3) := by decide +kernel
theorem dX6_layRoute_160 : decode cX6_layRoute 160 = .ok (.aload_n 0, 1) := by decide +kernel
theorem dX6_layRoute_161 : decode cX6_layRoute 161 = .ok (.iload_n 2, 1) := by decide +kernel
theorem dX6_layRoute_162 : decode cX6_layRoute 162 = .ok (.iload_n 3, 1) := by decide +kernel
theorem dX6_layRoute_163 : decode cX6_layRoute 163 = .ok (.invokevirtual 79, 3) := by decide +kernel
theorem dX6_layRoute_166 : decode cX6_layRoute 166 = .ok (.goto 5, 3) := by decide +kernel
theorem dX6_layRoute_169 : decode cX6_layRoute 169 = .ok (.ldc 82, 2) := by decide +kernel
theorem dX6_layRoute_171 : decode cX6_layRoute 171 = .ok (.iastore, 1) := by decide +kernel
theorem dX6_layRoute_172 : decode cX6_layRoute 172 = .ok (.iinc 3 1, 3) := by decide +kernel
theorem dX6_layRoute_175 : decode cX6_layRoute 175 = .ok (.goto (-65), 3) := by decide +kernel
theorem dX6_layRoute_178 : decode cX6_layRoute 178 = .ok (.iinc 2 1, 3) := by decide +kernel
theorem dX6_layRoute_181 : decode cX6_layRoute 181 = .ok (.goto (-83), 3) := by decide +kernel
theorem dX6_layRoute_184 : decode cX6_layRoute 184 = .ok (.return_, 1) := by decide +kernel
theorem dX6_wayOn_0 : decode cX6_wayOn 0 = .ok (.iload_n 1, 1) := by decide +kernel
theorem dX6_wayOn_1 : decode cX6_wayOn 1 = .ok (.ifCond .ne 13, 3) := by decide +kernel
theorem dX6_wayOn_4 : decode cX6_wayOn 4 = .ok (.aload_n 0, 1) := by decide +kernel
theorem dX6_wayOn_5 : decode cX6_wayOn 5 = .ok (.iload_n 2, 1) := by decide +kernel
theorem dX6_wayOn_6 : decode cX6_wayOn 6 = .ok (.bipush 9, 2) := by decide +kernel
theorem dX6_wayOn_8 : decode cX6_wayOn 8 = .ok (.invokevirtual 83, 3) := by decide +kernel
theorem dX6_wayOn_11 : decode cX6_wayOn 11 = .ok (.goto 5, 3) := by decide +kernel
theorem dX6_wayOn_14 : decode cX6_wayOn 14 = .ok (.ldc 82, 2) := by decide +kernel
theorem dX6_wayOn_16 : decode cX6_wayOn 16 = .ok (.istore_n 3, 1) := by decide +kernel
theorem dX6_wayOn_17 : decode cX6_wayOn 17 = .ok (.iconst 0, 1) := by decide +kernel
theorem dX6_wayOn_18 : decode cX6_wayOn 18 = .ok (.istore 4, 2) := by decide +kernel
theorem dX6_wayOn_20 : decode cX6_wayOn 20 = .ok (.iload 4, 2) := by decide +kernel
theorem dX6_wayOn_22 : decode cX6_wayOn 22 = .ok (.aload_n 0, 1) := by decide +kernel
theorem dX6_wayOn_23 : decode cX6_wayOn 23 = .ok (.getfield 76, 3) := by decide +kernel
theorem dX6_wayOn_26 : decode cX6_wayOn 26 = .ok (.if_icmp .ge 59, 3) := by decide +kernel
theorem dX6_wayOn_29 : decode cX6_wayOn 29 = .ok (.iload_n 1, 1) := by decide +kernel
theorem dX6_wayOn_30 : decode cX6_wayOn 30 = .ok (.iload 4, 2) := by decide +kernel
theorem dX6_wayOn_32 : decode cX6_wayOn 32 = .ok (.ishr, 1) := by decide +kernel
theorem dX6_wayOn_33 : decode cX6_wayOn 33 = .ok (.iconst 1, 1) := by decide +kernel
theorem dX6_wayOn_34 : decode cX6_wayOn 34 = .ok (.iand, 1) := by decide +kernel
theorem dX6_wayOn_35 : decode cX6_wayOn 35 = .ok (.iconst 1, 1) := by decide +kernel
theorem dX6_wayOn_36 : decode cX6_wayOn 36 = .ok (.if_icmp .ne 43, 3) := by decide +kernel
theorem dX6_wayOn_39 : decode cX6_wayOn 39 = .ok (.aload_n 0, 1) := by decide +kernel
theorem dX6_wayOn_40 : decode cX6_wayOn 40 = .ok (.iload_n 2, 1) := by decide +kernel
theorem dX6_wayOn_41 : decode cX6_wayOn 41 = .ok (.iload 4, 2) := by decide +kernel
theorem dX6_wayOn_43 : decode cX6_wayOn 43 = .ok (.invokevirtual 83, 3) := by decide +kernel
theorem dX6_wayOn_46 : decode cX6_wayOn 46 = .ok (.aload_n 0, 1) := by decide +kernel
theorem dX6_wayOn_47 : decode cX6_wayOn 47 = .ok (.getfield 38, 3) := by decide +kernel
theorem dX6_wayOn_50 : decode cX6_wayOn 50 = .ok (.bipush 10, 2) := by decide +kernel
theorem dX6_wayOn_52 : decode cX6_wayOn 52 = .ok (.iload_n 1, 1) := by decide +kernel
theorem dX6_wayOn_53 : decode cX6_wayOn 53 = .ok (.iconst 1, 1) := by decide +kernel
theorem dX6_wayOn_54 : decode cX6_wayOn 54 = .ok (.iload 4, 2) := by decide +kernel
theorem dX6_wayOn_56 : decode cX6_wayOn 56 = .ok (.ishl, 1) := by decide +kernel
theorem dX6_wayOn_57 : decode cX6_wayOn 57 = .ok (.isub, 1) := by decide +kernel
theorem dX6_wayOn_58 : decode cX6_wayOn 58 = .ok (.imul, 1) := by decide +kernel
theorem dX6_wayOn_59 : decode cX6_wayOn 59 = .ok (.iload 4, 2) := by decide +kernel
theorem dX6_wayOn_61 : decode cX6_wayOn 61 = .ok (.iadd, 1) := by decide +kernel
theorem dX6_wayOn_62 : decode cX6_wayOn 62 = .ok (.iaload, 1) := by decide +kernel
theorem dX6_wayOn_63 : decode cX6_wayOn 63 = .ok (.iadd, 1) := by decide +kernel
theorem dX6_wayOn_64 : decode cX6_wayOn 64 = .ok (.istore 5, 2) := by decide +kernel
theorem dX6_wayOn_66 : decode cX6_wayOn 66 = .ok (.iload 5, 2) := by decide +kernel
theorem dX6_wayOn_68 : decode cX6_wayOn 68 = .ok (.iload_n 3, 1) := by decide +kernel
theorem dX6_wayOn_69 : decode cX6_wayOn 69 = .ok (.if_icmp .ge 8, 3) := by decide +kernel
theorem dX6_wayOn_72 : decode cX6_wayOn 72 = .ok (.iload 5, 2) := by decide +kernel
theorem dX6_wayOn_74 : decode cX6_wayOn 74 = .ok (.goto 4, 3) := by decide +kernel
theorem dX6_wayOn_77 : decode cX6_wayOn 77 = .ok (.iload_n 3, 1) := by decide +kernel
theorem dX6_wayOn_78 : decode cX6_wayOn 78 = .ok (.istore_n 3, 1) := by decide +kernel
theorem dX6_wayOn_79 : decode cX6_wayOn 79 = .ok (.iinc 4 1, 3) := by decide +kernel
theorem dX6_wayOn_82 : decode cX6_wayOn 82 = .ok (.goto (-62), 3) := by decide +kernel
theorem dX6_wayOn_85 : decode cX6_wayOn 85 = .ok (.iload_n 3, 1) := by decide +kernel
theorem dX6_wayOn_86 : decode cX6_wayOn 86 = .ok (.ireturn, 1) := by decide +kernel
theorem dX6_length_0 : decode cX6_length 0 = .ok (.aload_n 0, 1) := by decide +kernel
theorem dX6_length_1 : decode cX6_length 1 = .ok (.iload_n 1, 1) := by decide +kernel
theorem dX6_length_2 : decode cX6_length 2 = .ok (.invokevirtual 86, 3) := by decide +kernel
theorem dX6_length_5 : decode cX6_length 5 = .ok (.aload_n 0, 1) := by decide +kernel
theorem dX6_length_6 : decode cX6_length 6 = .ok (.getfield 38, 3) := by decide +kernel
theorem dX6_length_9 : decode cX6_length 9 = .ok (.bipush 10, 2) := by decide +kernel
theorem dX6_length_11 : decode cX6_length 11 = .ok (.iconst 1, 1) := by decide +kernel
theorem dX6_length_12 : decode cX6_length 12 = .ok (.aload_n 0, 1) := by decide +kernel
theorem dX6_length_13 : decode cX6_length 13 = .ok (.getfield 76, 3) := by decide +kernel
theorem dX6_length_16 : decode cX6_length 16 = .ok (.ishl, 1) := by decide +kernel
theorem dX6_length_17 : decode cX6_length 17 = .ok (.iconst 1, 1) := by decide +kernel
theorem dX6_length_18 : decode cX6_length 18 = .ok (.isub, 1) := by decide +kernel
theorem dX6_length_19 : decode cX6_length 19 = .ok (.imul, 1) := by decide +kernel
theorem dX6_length_20 : decode cX6_length 20 = .ok (.bipush 9, 2) := by decide +kernel
theorem dX6_length_22 : decode cX6_length 22 = .ok (.iadd, 1) := by decide +kernel
theorem dX6_length_23 : decode cX6_length 23 = .ok (.iaload, 1) := by decide +kernel
theorem dX6_length_24 : decode cX6_length 24 = .ok (.ireturn, 1) := by decide +kernel
theorem dX6_layPath_0 : decode cX6_layPath 0 = .ok (.aload_n 0, 1) := by decide +kernel
theorem dX6_layPath_1 : decode cX6_layPath 1 = .ok (.iload_n 1, 1) := by decide +kernel
theorem dX6_layPath_2 : decode cX6_layPath 2 = .ok (.invokevirtual 86, 3) := by decide +kernel
theorem dX6_layPath_5 : decode cX6_layPath 5 = .ok (.iconst 1, 1) := by decide +kernel
theorem dX6_layPath_6 : decode cX6_layPath 6 = .ok (.aload_n 0, 1) := by decide +kernel
theorem dX6_layPath_7 : decode cX6_layPath 7 = .ok (.getfield 76, 3) := by decide +kernel
theorem dX6_layPath_10 : decode cX6_layPath 10 = .ok (.ishl, 1) := by decide +kernel
theorem dX6_layPath_11 : decode cX6_layPath 11 = .ok (.iconst 1, 1) := by decide +kernel
theorem dX6_layPath_12 : decode cX6_layPath 12 = .ok (.isub, 1) := by decide +kernel
theorem dX6_layPath_13 : decode cX6_layPath 13 = .ok (.istore_n 2, 1) := by decide +kernel
theorem dX6_layPath_14 : decode cX6_layPath 14 = .ok (.bipush 9, 2) := by decide +kernel
theorem dX6_layPath_16 : decode cX6_layPath 16 = .ok (.istore_n 3, 1) := by decide +kernel
theorem dX6_layPath_17 : decode cX6_layPath 17 = .ok (.iconst 0, 1) := by decide +kernel
theorem dX6_layPath_18 : decode cX6_layPath 18 = .ok (.istore 4, 2) := by decide +kernel
theorem dX6_layPath_20 : decode cX6_layPath 20 = .ok (.iload 4, 2) := by decide +kernel
theorem dX6_layPath_22 : decode cX6_layPath 22 = .ok (.aload_n 0, 1) := by decide +kernel
theorem dX6_layPath_23 : decode cX6_layPath 23 = .ok (.getfield 76, 3) := by decide +kernel
theorem dX6_layPath_26 : decode cX6_layPath 26 = .ok (.if_icmp .ge 120, 3) := by decide +kernel
theorem dX6_layPath_29 : decode cX6_layPath 29 = .ok (.iconst (-1), 1) := by decide +kernel
theorem dX6_layPath_30 : decode cX6_layPath 30 = .ok (.istore 5, 2) := by decide +kernel
theorem dX6_layPath_32 : decode cX6_layPath 32 = .ok (.aload_n 0, 1) := by decide +kernel
theorem dX6_layPath_33 : decode cX6_layPath 33 = .ok (.getfield 76, 3) := by decide +kernel
theorem dX6_layPath_36 : decode cX6_layPath 36 = .ok (.iconst 1, 1) := by decide +kernel
theorem dX6_layPath_37 : decode cX6_layPath 37 = .ok (.isub, 1) := by decide +kernel
theorem dX6_layPath_38 : decode cX6_layPath 38 = .ok (.istore 6, 2) := by decide +kernel
theorem dX6_layPath_40 : decode cX6_layPath 40 = .ok (.iload 6, 2) := by decide +kernel
theorem dX6_layPath_42 : decode cX6_layPath 42 = .ok (.ifCond .lt 79, 3) := by decide +kernel
theorem dX6_layPath_45 : decode cX6_layPath 45 = .ok (.iload_n 2, 1) := by decide +kernel
theorem dX6_layPath_46 : decode cX6_layPath 46 = .ok (.iload 6, 2) := by decide +kernel
theorem dX6_layPath_48 : decode cX6_layPath 48 = .ok (.ishr, 1) := by decide +kernel
theorem dX6_layPath_49 : decode cX6_layPath 49 = .ok (.iconst 1, 1) := by decide +kernel
theorem dX6_layPath_50 : decode cX6_layPath 50 = .ok (.iand, 1) := by decide +kernel
theorem dX6_layPath_51 : decode cX6_layPath 51 = .ok (.iconst 1, 1) := by decide +kernel
theorem dX6_layPath_52 : decode cX6_layPath 52 = .ok (.if_icmp .ne 46, 3) := by decide +kernel
theorem dX6_layPath_55 : decode cX6_layPath 55 = .ok (.aload_n 0, 1) := by decide +kernel
theorem dX6_layPath_56 : decode cX6_layPath 56 = .ok (.iload_n 3, 1) := by decide +kernel
theorem dX6_layPath_57 : decode cX6_layPath 57 = .ok (.iload 6, 2) := by decide +kernel
theorem dX6_layPath_59 : decode cX6_layPath 59 = .ok (.invokevirtual 83, 3) := by decide +kernel
theorem dX6_layPath_62 : decode cX6_layPath 62 = .ok (.aload_n 0, 1) := by decide +kernel
theorem dX6_layPath_63 : decode cX6_layPath 63 = .ok (.getfield 38, 3) := by decide +kernel
theorem dX6_layPath_66 : decode cX6_layPath 66 = .ok (.bipush 10, 2) := by decide +kernel
theorem dX6_layPath_68 : decode cX6_layPath 68 = .ok (.iload_n 2, 1) := by decide +kernel
theorem dX6_layPath_69 : decode cX6_layPath 69 = .ok (.iconst 1, 1) := by decide +kernel
theorem dX6_layPath_70 : decode cX6_layPath 70 = .ok (.iload 6, 2) := by decide +kernel
theorem dX6_layPath_72 : decode cX6_layPath 72 = .ok (.ishl, 1) := by decide +kernel
theorem dX6_layPath_73 : decode cX6_layPath 73 = .ok (.isub, 1) := by decide +kernel
theorem dX6_layPath_74 : decode cX6_layPath 74 = .ok (.imul, 1) := by decide +kernel
theorem dX6_layPath_75 : decode cX6_layPath 75 = .ok (.iload 6, 2) := by decide +kernel
theorem dX6_layPath_77 : decode cX6_layPath 77 = .ok (.iadd, 1) := by decide +kernel
theorem dX6_layPath_78 : decode cX6_layPath 78 = .ok (.iaload, 1) := by decide +kernel
theorem dX6_layPath_79 : decode cX6_layPath 79 = .ok (.iadd, 1) := by decide +kernel
theorem dX6_layPath_80 : decode cX6_layPath 80 = .ok (.aload_n 0, 1) := by decide +kernel
theorem dX6_layPath_81 : decode cX6_layPath 81 = .ok (.getfield 38, 3) := by decide +kernel
theorem dX6_layPath_84 : decode cX6_layPath 84 = .ok (.bipush 10, 2) := by decide +kernel
theorem dX6_layPath_86 : decode cX6_layPath 86 = .ok (.iload_n 2, 1) := by decide +kernel
theorem dX6_layPath_87 : decode cX6_layPath 87 = .ok (.imul, 1) := by decide +kernel
theorem dX6_layPath_88 : decode cX6_layPath 88 = .ok (.iload_n 3, 1) := by decide +kernel
theorem dX6_layPath_89 : decode cX6_layPath 89 = .ok (.iadd, 1) := by decide +kernel
theorem dX6_layPath_90 : decode cX6_layPath 90 = .ok (.iaload, 1) := by decide +kernel
theorem dX6_layPath_91 : decode cX6_layPath 91 = .ok (.if_icmp .ne 7, 3) := by decide +kernel
theorem dX6_layPath_94 : decode cX6_layPath 94 = .ok (.iconst 1, 1) := by decide +kernel
theorem dX6_layPath_95 : decode cX6_layPath 95 = .ok (.goto 4, 3) := by decide +kernel
theorem dX6_layPath_98 : decode cX6_layPath 98 = .ok (.iconst 0, 1) := by decide +kernel
theorem dX6_layPath_99 : decode cX6_layPath 99 = .ok (.istore 7, 2) := by decide +kernel
theorem dX6_layPath_101 : decode cX6_layPath 101 = .ok (.iload 7, 2) := by decide +kernel
theorem dX6_layPath_103 : decode cX6_layPath 103 = .ok (.ifCond .eq 8, 3) := by decide +kernel
theorem dX6_layPath_106 : decode cX6_layPath 106 = .ok (.iload 6, 2) := by decide +kernel
theorem dX6_layPath_108 : decode cX6_layPath 108 = .ok (.goto 5, 3) := by decide +kernel
theorem dX6_layPath_111 : decode cX6_layPath 111 = .ok (.iload 5, 2) := by decide +kernel
theorem dX6_layPath_113 : decode cX6_layPath 113 = .ok (.istore 5, 2) := by decide +kernel
theorem dX6_layPath_115 : decode cX6_layPath 115 = .ok (.iinc 6 (-1), 3) := by decide +kernel
theorem dX6_layPath_118 : decode cX6_layPath 118 = .ok (.goto (-78), 3) := by decide +kernel
theorem dX6_layPath_121 : decode cX6_layPath 121 = .ok (.aload_n 0, 1) := by decide +kernel
theorem dX6_layPath_122 : decode cX6_layPath 122 = .ok (.getfield 41, 3) := by decide +kernel
theorem dX6_layPath_125 : decode cX6_layPath 125 = .ok (.iload 4, 2) := by decide +kernel
theorem dX6_layPath_127 : decode cX6_layPath 127 = .ok (.iload 5, 2) := by decide +kernel
theorem dX6_layPath_129 : decode cX6_layPath 129 = .ok (.iastore, 1) := by decide +kernel
theorem dX6_layPath_130 : decode cX6_layPath 130 = .ok (.iload_n 2, 1) := by decide +kernel
theorem dX6_layPath_131 : decode cX6_layPath 131 = .ok (.iconst 1, 1) := by decide +kernel
theorem dX6_layPath_132 : decode cX6_layPath 132 = .ok (.iload 5, 2) := by decide +kernel
theorem dX6_layPath_134 : decode cX6_layPath 134 = .ok (.ishl, 1) := by decide +kernel
theorem dX6_layPath_135 : decode cX6_layPath 135 = .ok (.isub, 1) := by decide +kernel
theorem dX6_layPath_136 : decode cX6_layPath 136 = .ok (.istore_n 2, 1) := by decide +kernel
theorem dX6_layPath_137 : decode cX6_layPath 137 = .ok (.iload 5, 2) := by decide +kernel
theorem dX6_layPath_139 : decode cX6_layPath 139 = .ok (.istore_n 3, 1) := by decide +kernel
theorem dX6_layPath_140 : decode cX6_layPath 140 = .ok (.iinc 4 1, 3) := by decide +kernel
theorem dX6_layPath_143 : decode cX6_layPath 143 = .ok (.goto (-123), 3) := by decide +kernel
theorem dX6_layPath_146 : decode cX6_layPath 146 = .ok (.return_, 1) := by decide +kernel
theorem dX6_put_0 : decode cX6_put 0 = .ok (.aload_n 0, 1) := by decide +kernel
theorem dX6_put_1 : decode cX6_put 1 = .ok (.iconst 0, 1) := by decide +kernel
theorem dX6_put_2 : decode cX6_put 2 = .ok (.putfield 59, 3) := by decide +kernel
theorem dX6_put_5 : decode cX6_put 5 = .ok (.iload_n 1, 1) := by decide +kernel
theorem dX6_put_6 : decode cX6_put 6 = .ok (.invokestatic 90, 3) := by decide +kernel
theorem dX6_put_9 : decode cX6_put 9 = .ok (.ifCond .eq 29, 3) := by decide +kernel
theorem dX6_put_12 : decode cX6_put 12 = .ok (.iload_n 2, 1) := by decide +kernel
theorem dX6_put_13 : decode cX6_put 13 = .ok (.iconst 0, 1) := by decide +kernel
theorem dX6_put_14 : decode cX6_put 14 = .ok (.aload_n 0, 1) := by decide +kernel
theorem dX6_put_15 : decode cX6_put 15 = .ok (.getfield 50, 3) := by decide +kernel
theorem dX6_put_18 : decode cX6_put 18 = .ok (.iconst 1, 1) := by decide +kernel
theorem dX6_put_19 : decode cX6_put 19 = .ok (.isub, 1) := by decide +kernel
theorem dX6_put_20 : decode cX6_put 20 = .ok (.invokestatic 62, 3) := by decide +kernel
theorem dX6_put_23 : decode cX6_put 23 = .ok (.ifCond .eq 15, 3) := by decide +kernel
theorem dX6_put_26 : decode cX6_put 26 = .ok (.iload_n 3, 1) := by decide +kernel
theorem dX6_put_27 : decode cX6_put 27 = .ok (.iconst 1, 1) := by decide +kernel
theorem dX6_put_28 : decode cX6_put 28 = .ok (.aload_n 0, 1) := by decide +kernel
theorem dX6_put_29 : decode cX6_put 29 = .ok (.getfield 53, 3) := by decide +kernel
theorem dX6_put_32 : decode cX6_put 32 = .ok (.invokestatic 62, 3) := by decide +kernel
theorem dX6_put_35 : decode cX6_put 35 = .ok (.ifCond .ne 9, 3) := by decide +kernel
theorem dX6_put_38 : decode cX6_put 38 = .ok (.aload_n 0, 1) := by decide +kernel
theorem dX6_put_39 : decode cX6_put 39 = .ok (.iconst 1, 1) := by decide +kernel
theorem dX6_put_40 : decode cX6_put 40 = .ok (.invokevirtual 94, 3) := by decide +kernel
theorem dX6_put_43 : decode cX6_put 43 = .ok (.ireturn, 1) := by decide +kernel
theorem dX6_put_44 : decode cX6_put 44 = .ok (.bipush 100, 2) := by decide +kernel
theorem dX6_put_46 : decode cX6_put 46 = .ok (.iload_n 2, 1) := by decide +kernel
theorem dX6_put_47 : decode cX6_put 47 = .ok (.imul, 1) := by decide +kernel
theorem dX6_put_48 : decode cX6_put 48 = .ok (.iload_n 3, 1) := by decide +kernel
theorem dX6_put_49 : decode cX6_put 49 = .ok (.iadd, 1) := by decide +kernel
theorem dX6_put_50 : decode cX6_put 50 = .ok (.istore 4, 2) := by decide +kernel
theorem dX6_put_52 : decode cX6_put 52 = .ok (.iconst 0, 1) := by decide +kernel
theorem dX6_put_53 : decode cX6_put 53 = .ok (.istore 5, 2) := by decide +kernel
theorem dX6_put_55 : decode cX6_put 55 = .ok (.iconst 0, 1) := by decide +kernel
theorem dX6_put_56 : decode cX6_put 56 = .ok (.istore 6, 2) := by decide +kernel
theorem dX6_put_58 : decode cX6_put 58 = .ok (.iload 6, 2) := by decide +kernel
theorem dX6_put_60 : decode cX6_put 60 = .ok (.bipush 20, 2) := by decide +kernel
theorem dX6_put_62 : decode cX6_put 62 = .ok (.if_icmp .ge 39, 3) := by decide +kernel
theorem dX6_put_65 : decode cX6_put 65 = .ok (.iload 5, 2) := by decide +kernel
theorem dX6_put_67 : decode cX6_put 67 = .ok (.ifCond .ne 21, 3) := by decide +kernel
theorem dX6_put_70 : decode cX6_put 70 = .ok (.iload 6, 2) := by decide +kernel
theorem dX6_put_72 : decode cX6_put 72 = .ok (.iload_n 1, 1) := by decide +kernel
theorem dX6_put_73 : decode cX6_put 73 = .ok (.if_icmp .eq 19, 3) := by decide +kernel
theorem dX6_put_76 : decode cX6_put 76 = .ok (.aload_n 0, 1) := by decide +kernel
theorem dX6_put_77 : decode cX6_put 77 = .ok (.getfield 13, 3) := by decide +kernel
theorem dX6_put_80 : decode cX6_put 80 = .ok (.iload 6, 2) := by decide +kernel
theorem dX6_put_82 : decode cX6_put 82 = .ok (.iaload, 1) := by decide +kernel
theorem dX6_put_83 : decode cX6_put 83 = .ok (.iload 4, 2) := by decide +kernel
theorem dX6_put_85 : decode cX6_put 85 = .ok (.if_icmp .ne 7, 3) := by decide +kernel
theorem dX6_put_88 : decode cX6_put 88 = .ok (.iconst 1, 1) := by decide +kernel
theorem dX6_put_89 : decode cX6_put 89 = .ok (.goto 4, 3) := by decide +kernel
theorem dX6_put_92 : decode cX6_put 92 = .ok (.iconst 0, 1) := by decide +kernel
theorem dX6_put_93 : decode cX6_put 93 = .ok (.istore 5, 2) := by decide +kernel
theorem dX6_put_95 : decode cX6_put 95 = .ok (.iinc 6 1, 3) := by decide +kernel
theorem dX6_put_98 : decode cX6_put 98 = .ok (.goto (-40), 3) := by decide +kernel
theorem dX6_put_101 : decode cX6_put 101 = .ok (.iload 5, 2) := by decide +kernel
theorem dX6_put_103 : decode cX6_put 103 = .ok (.ifCond .ne 10, 3) := by decide +kernel
theorem dX6_put_106 : decode cX6_put 106 = .ok (.aload_n 0, 1) := by decide +kernel
theorem dX6_put_107 : decode cX6_put 107 = .ok (.getfield 69, 3) := by decide +kernel
theorem dX6_put_110 : decode cX6_put 110 = .ok (.ifCond .le 9, 3) := by decide +kernel
theorem dX6_put_113 : decode cX6_put 113 = .ok (.aload_n 0, 1) := by decide +kernel
theorem dX6_put_114 : decode cX6_put 114 = .ok (.iconst 2, 1) := by decide +kernel
theorem dX6_put_115 : decode cX6_put 115 = .ok (.invokevirtual 94, 3) := by decide +kernel
theorem dX6_put_118 : decode cX6_put 118 = .ok (.ireturn, 1) := by decide +kernel
theorem dX6_put_119 : decode cX6_put 119 = .ok (.aload_n 0, 1) := by decide +kernel
theorem dX6_put_120 : decode cX6_put 120 = .ok (.getfield 13, 3) := by decide +kernel
theorem dX6_put_123 : decode cX6_put 123 = .ok (.iload_n 1, 1) := by decide +kernel
theorem dX6_put_124 : decode cX6_put 124 = .ok (.iaload, 1) := by decide +kernel
theorem dX6_put_125 : decode cX6_put 125 = .ok (.istore 6, 2) := by decide +kernel
theorem dX6_put_127 : decode cX6_put 127 = .ok (.aload_n 0, 1) := by decide +kernel
theorem dX6_put_128 : decode cX6_put 128 = .ok (.getfield 13, 3) := by decide +kernel
theorem dX6_put_131 : decode cX6_put 131 = .ok (.iload_n 1, 1) := by decide +kernel
theorem dX6_put_132 : decode cX6_put 132 = .ok (.iload 4, 2) := by decide +kernel
theorem dX6_put_134 : decode cX6_put 134 = .ok (.iastore, 1) := by decide +kernel
theorem dX6_put_135 : decode cX6_put 135 = .ok (.iload 6, 2) := by decide +kernel
theorem dX6_put_137 : decode cX6_put 137 = .ok (.ireturn, 1) := by decide +kernel
theorem dX6_turnoverOf_0 : decode cX6_turnoverOf 0 = .ok (.iconst 0, 1) := by decide +kernel
theorem dX6_turnoverOf_1 : decode cX6_turnoverOf 1 = .ok (.istore_n 2, 1) := by decide +kernel
theorem dX6_turnoverOf_2 : decode cX6_turnoverOf 2 = .ok (.iconst 0, 1) := by decide +kernel
theorem dX6_turnoverOf_3 : decode cX6_turnoverOf 3 = .ok (.istore_n 3, 1) := by decide +kernel
theorem dX6_turnoverOf_4 : decode cX6_turnoverOf 4 = .ok (.iload_n 3, 1) := by decide +kernel
theorem dX6_turnoverOf_5 : decode cX6_turnoverOf 5 = .ok (.aload_n 0, 1) := by decide +kernel
theorem dX6_turnoverOf_6 : decode cX6_turnoverOf 6 = .ok (.getfield 66, 3) := by decide +kernel
theorem dX6_turnoverOf_9 : decode cX6_turnoverOf 9 = .ok (.if_icmp .ge 72, 3) := by decide +kernel
theorem dX6_turnoverOf_12 : decode cX6_turnoverOf 12 = .ok (.iconst 0, 1) := by decide +kernel
theorem dX6_turnoverOf_13 : decode cX6_turnoverOf 13 = .ok (.istore 4, 2) := by decide +kernel
theorem dX6_turnoverOf_15 : decode cX6_turnoverOf 15 = .ok (.iload 4, 2) := by decide +kernel
theorem dX6_turnoverOf_17 : decode cX6_turnoverOf 17 = .ok (.aload_n 0, 1) := by decide +kernel
theorem dX6_turnoverOf_18 : decode cX6_turnoverOf 18 = .ok (.getfield 26, 3) := by decide +kernel
theorem dX6_turnoverOf_21 : decode cX6_turnoverOf 21 = .ok (.iload_n 3, 1) := by decide +kernel
theorem dX6_turnoverOf_22 : decode cX6_turnoverOf 22 = .ok (.iaload, 1) := by decide +kernel
theorem dX6_turnoverOf_23 : decode cX6_turnoverOf 23 = .ok (.if_icmp .ge 52, 3) := by decide +kernel
theorem dX6_turnoverOf_26 : decode cX6_turnoverOf 26 = .ok (.iload_n 2, 1) := by decide +kernel
theorem dX6_turnoverOf_27 : decode cX6_turnoverOf 27 = .ok (.aload_n 0, 1) := by decide +kernel
theorem dX6_turnoverOf_28 : decode cX6_turnoverOf 28 = .ok (.getfield 20, 3) := by decide +kernel
theorem dX6_turnoverOf_31 : decode cX6_turnoverOf 31 = .ok (.iload_n 3, 1) := by decide +kernel
theorem dX6_turnoverOf_32 : decode cX6_turnoverOf 32 = .ok (.iaload, 1) := by decide +kernel
theorem dX6_turnoverOf_33 : decode cX6_turnoverOf 33 = .ok (.iconst 2, 1) := by decide +kernel
theorem dX6_turnoverOf_34 : decode cX6_turnoverOf 34 = .ok (.if_icmp .ne 32, 3) := by decide +kernel
theorem dX6_turnoverOf_37 : decode cX6_turnoverOf 37 = .ok (.aload_n 0, 1) := by decide +kernel
theorem dX6_turnoverOf_38 : decode cX6_turnoverOf 38 = .ok (.getfield 29, 3) := by decide +kernel
theorem dX6_turnoverOf_41 : decode cX6_turnoverOf 41 = .ok (.iconst 5, 1) := by decide +kernel
theorem dX6_turnoverOf_42 : decode cX6_turnoverOf 42 = .ok (.iload_n 3, 1) := by decide +kernel
theorem dX6_turnoverOf_43 : decode cX6_turnoverOf 43 = .ok (.imul, 1) := by decide +kernel
theorem dX6_turnoverOf_44 : decode cX6_turnoverOf 44 = .ok (.iload 4, 2) := by decide +kernel
theorem dX6_turnoverOf_46 : decode cX6_turnoverOf 46 = .ok (.iadd, 1) := by decide +kernel
theorem dX6_turnoverOf_47 : decode cX6_turnoverOf 47 = .ok (.iaload, 1) := by decide +kernel
theorem dX6_turnoverOf_48 : decode cX6_turnoverOf 48 = .ok (.iload_n 1, 1) := by decide +kernel
theorem dX6_turnoverOf_49 : decode cX6_turnoverOf 49 = .ok (.if_icmp .ne 17, 3) := by decide +kernel
theorem dX6_turnoverOf_52 : decode cX6_turnoverOf 52 = .ok (.aload_n 0, 1) := by decide +kernel
theorem dX6_turnoverOf_53 : decode cX6_turnoverOf 53 = .ok (.getfield 32, 3) := by decide +kernel
theorem dX6_turnoverOf_56 : decode cX6_turnoverOf 56 = .ok (.iconst 5, 1) := by decide +kernel
theorem dX6_turnoverOf_57 : decode cX6_turnoverOf 57 = .ok (.iload_n 3, 1) := by decide +kernel
theorem dX6_turnoverOf_58 : decode cX6_turnoverOf 58 = .ok (.imul, 1) := by decide +kernel
theorem dX6_turnoverOf_59 : decode cX6_turnoverOf 59 = .ok (.iload 4, 2) := by decide +kernel
theorem dX6_turnoverOf_61 : decode cX6_turnoverOf 61 = .ok (.iadd, 1) := by decide +kernel
theorem dX6_turnoverOf_62 : decode cX6_turnoverOf 62 = .ok (.iaload, 1) := by decide +kernel
theorem dX6_turnoverOf_63 : decode cX6_turnoverOf 63 = .ok (.goto 4, 3) := by decide +kernel
theorem dX6_turnoverOf_66 : decode cX6_turnoverOf 66 = .ok (.iconst 0, 1) := by decide +kernel
theorem dX6_turnoverOf_67 : decode cX6_turnoverOf 67 = .ok (.iadd, 1) := by decide +kernel
theorem dX6_turnoverOf_68 : decode cX6_turnoverOf 68 = .ok (.istore_n 2, 1) := by decide +kernel
theorem dX6_turnoverOf_69 : decode cX6_turnoverOf 69 = .ok (.iinc 4 1, 3) := by decide +kernel
theorem dX6_turnoverOf_72 : decode cX6_turnoverOf 72 = .ok (.goto (-57), 3) := by decide +kernel
theorem dX6_turnoverOf_75 : decode cX6_turnoverOf 75 = .ok (.iinc 3 1, 3) := by decide +kernel
theorem dX6_turnoverOf_78 : decode cX6_turnoverOf 78 = .ok (.goto (-74), 3) := by decide +kernel
theorem dX6_turnoverOf_81 : decode cX6_turnoverOf 81 = .ok (.iload_n 2, 1) := by decide +kernel
theorem dX6_turnoverOf_82 : decode cX6_turnoverOf 82 = .ok (.ireturn, 1) := by decide +kernel
theorem dX6_ranks_0 : decode cX6_ranks 0 = .ok (.iload_n 2, 1) := by decide +kernel
theorem dX6_ranks_1 : decode cX6_ranks 1 = .ok (.istore_n 3, 1) := by decide +kernel
theorem dX6_ranks_2 : decode cX6_ranks 2 = .ok (.iload_n 3, 1) := by decide +kernel
theorem dX6_ranks_3 : decode cX6_ranks 3 = .ok (.ifCond .le 43, 3) := by decide +kernel
theorem dX6_ranks_6 : decode cX6_ranks 6 = .ok (.aload_n 0, 1) := by decide +kernel
theorem dX6_ranks_7 : decode cX6_ranks 7 = .ok (.aload_n 0, 1) := by decide +kernel
theorem dX6_ranks_8 : decode cX6_ranks 8 = .ok (.getfield 44, 3) := by decide +kernel
theorem dX6_ranks_11 : decode cX6_ranks 11 = .ok (.iload_n 3, 1) := by decide +kernel
theorem dX6_ranks_12 : decode cX6_ranks 12 = .ok (.iconst 1, 1) := by decide +kernel
theorem dX6_ranks_13 : decode cX6_ranks 13 = .ok (.isub, 1) := by decide +kernel
theorem dX6_ranks_14 : decode cX6_ranks 14 = .ok (.iaload, 1) := by decide +kernel
theorem dX6_ranks_15 : decode cX6_ranks 15 = .ok (.invokevirtual 98, 3) := by decide +kernel
theorem dX6_ranks_18 : decode cX6_ranks 18 = .ok (.aload_n 0, 1) := by decide +kernel
theorem dX6_ranks_19 : decode cX6_ranks 19 = .ok (.iload_n 1, 1) := by decide +kernel
theorem dX6_ranks_20 : decode cX6_ranks 20 = .ok (.invokevirtual 98, 3) := by decide +kernel
theorem dX6_ranks_23 : decode cX6_ranks 23 = .ok (.if_icmp .ge 23, 3) := by decide +kernel
theorem dX6_ranks_26 : decode cX6_ranks 26 = .ok (.aload_n 0, 1) := by decide +kernel
theorem dX6_ranks_27 : decode cX6_ranks 27 = .ok (.getfield 44, 3) := by decide +kernel
theorem dX6_ranks_30 : decode cX6_ranks 30 = .ok (.iload_n 3, 1) := by decide +kernel
theorem dX6_ranks_31 : decode cX6_ranks 31 = .ok (.aload_n 0, 1) := by decide +kernel
theorem dX6_ranks_32 : decode cX6_ranks 32 = .ok (.getfield 44, 3) := by decide +kernel
theorem dX6_ranks_35 : decode cX6_ranks 35 = .ok (.iload_n 3, 1) := by decide +kernel
theorem dX6_ranks_36 : decode cX6_ranks 36 = .ok (.iconst 1, 1) := by decide +kernel
theorem dX6_ranks_37 : decode cX6_ranks 37 = .ok (.isub, 1) := by decide +kernel
theorem dX6_ranks_38 : decode cX6_ranks 38 = .ok (.iaload, 1) := by decide +kernel
theorem dX6_ranks_39 : decode cX6_ranks 39 = .ok (.iastore, 1) := by decide +kernel
theorem dX6_ranks_40 : decode cX6_ranks 40 = .ok (.iinc 3 (-1), 3) := by decide +kernel
theorem dX6_ranks_43 : decode cX6_ranks 43 = .ok (.goto (-41), 3) := by decide +kernel
theorem dX6_ranks_46 : decode cX6_ranks 46 = .ok (.aload_n 0, 1) := by decide +kernel
theorem dX6_ranks_47 : decode cX6_ranks 47 = .ok (.getfield 44, 3) := by decide +kernel
theorem dX6_ranks_50 : decode cX6_ranks 50 = .ok (.iload_n 3, 1) := by decide +kernel
theorem dX6_ranks_51 : decode cX6_ranks 51 = .ok (.iload_n 1, 1) := by decide +kernel
theorem dX6_ranks_52 : decode cX6_ranks 52 = .ok (.iastore, 1) := by decide +kernel
theorem dX6_ranks_53 : decode cX6_ranks 53 = .ok (.return_, 1) := by decide +kernel
theorem dX6_spreads_0 : decode cX6_spreads 0 = .ok (.iload_n 2, 1) := by decide +kernel
theorem dX6_spreads_1 : decode cX6_spreads 1 = .ok (.istore_n 3, 1) := by decide +kernel
theorem dX6_spreads_2 : decode cX6_spreads 2 = .ok (.iload_n 3, 1) := by decide +kernel
theorem dX6_spreads_3 : decode cX6_spreads 3 = .ok (.ifCond .le 79, 3) := by decide +kernel
theorem dX6_spreads_6 : decode cX6_spreads 6 = .ok (.aload_n 0, 1) := by decide +kernel
theorem dX6_spreads_7 : decode cX6_spreads 7 = .ok (.iconst 0, 1) := by decide +kernel
theorem dX6_spreads_8 : decode cX6_spreads 8 = .ok (.aload_n 0, 1) := by decide +kernel
theorem dX6_spreads_9 : decode cX6_spreads 9 = .ok (.getfield 47, 3) := by decide +kernel
theorem dX6_spreads_12 : decode cX6_spreads 12 = .ok (.iload_n 3, 1) := by decide +kernel
theorem dX6_spreads_13 : decode cX6_spreads 13 = .ok (.iconst 1, 1) := by decide +kernel
theorem dX6_spreads_14 : decode cX6_spreads 14 = .ok (.isub, 1) := by decide +kernel
theorem dX6_spreads_15 : decode cX6_spreads 15 = .ok (.iaload, 1) := by decide +kernel
theorem dX6_spreads_16 : decode cX6_spreads 16 = .ok (.invokevirtual 72, 3) := by decide +kernel
theorem dX6_spreads_19 : decode cX6_spreads 19 = .ok (.aload_n 0, 1) := by decide +kernel
theorem dX6_spreads_20 : decode cX6_spreads 20 = .ok (.iconst 0, 1) := by decide +kernel
theorem dX6_spreads_21 : decode cX6_spreads 21 = .ok (.iload_n 1, 1) := by decide +kernel
theorem dX6_spreads_22 : decode cX6_spreads 22 = .ok (.invokevirtual 72, 3) := by decide +kernel
theorem dX6_spreads_25 : decode cX6_spreads 25 = .ok (.if_icmp .gt 37, 3) := by decide +kernel
theorem dX6_spreads_28 : decode cX6_spreads 28 = .ok (.aload_n 0, 1) := by decide +kernel
theorem dX6_spreads_29 : decode cX6_spreads 29 = .ok (.iconst 0, 1) := by decide +kernel
theorem dX6_spreads_30 : decode cX6_spreads 30 = .ok (.aload_n 0, 1) := by decide +kernel
theorem dX6_spreads_31 : decode cX6_spreads 31 = .ok (.getfield 47, 3) := by decide +kernel
theorem dX6_spreads_34 : decode cX6_spreads 34 = .ok (.iload_n 3, 1) := by decide +kernel
theorem dX6_spreads_35 : decode cX6_spreads 35 = .ok (.iconst 1, 1) := by decide +kernel
theorem dX6_spreads_36 : decode cX6_spreads 36 = .ok (.isub, 1) := by decide +kernel
theorem dX6_spreads_37 : decode cX6_spreads 37 = .ok (.iaload, 1) := by decide +kernel
theorem dX6_spreads_38 : decode cX6_spreads 38 = .ok (.invokevirtual 72, 3) := by decide +kernel
theorem dX6_spreads_41 : decode cX6_spreads 41 = .ok (.aload_n 0, 1) := by decide +kernel
theorem dX6_spreads_42 : decode cX6_spreads 42 = .ok (.iconst 0, 1) := by decide +kernel
theorem dX6_spreads_43 : decode cX6_spreads 43 = .ok (.iload_n 1, 1) := by decide +kernel
theorem dX6_spreads_44 : decode cX6_spreads 44 = .ok (.invokevirtual 72, 3) := by decide +kernel
theorem dX6_spreads_47 : decode cX6_spreads 47 = .ok (.if_icmp .ne 35, 3) := by decide +kernel
theorem dX6_spreads_50 : decode cX6_spreads 50 = .ok (.aload_n 0, 1) := by decide +kernel
theorem dX6_spreads_51 : decode cX6_spreads 51 = .ok (.getfield 47, 3) := by decide +kernel
theorem dX6_spreads_54 : decode cX6_spreads 54 = .ok (.iload_n 3, 1) := by decide +kernel
theorem dX6_spreads_55 : decode cX6_spreads 55 = .ok (.iconst 1, 1) := by decide +kernel
theorem dX6_spreads_56 : decode cX6_spreads 56 = .ok (.isub, 1) := by decide +kernel
theorem dX6_spreads_57 : decode cX6_spreads 57 = .ok (.iaload, 1) := by decide +kernel
theorem dX6_spreads_58 : decode cX6_spreads 58 = .ok (.iload_n 1, 1) := by decide +kernel
theorem dX6_spreads_59 : decode cX6_spreads 59 = .ok (.if_icmp .le 23, 3) := by decide +kernel
theorem dX6_spreads_62 : decode cX6_spreads 62 = .ok (.aload_n 0, 1) := by decide +kernel
theorem dX6_spreads_63 : decode cX6_spreads 63 = .ok (.getfield 47, 3) := by decide +kernel
theorem dX6_spreads_66 : decode cX6_spreads 66 = .ok (.iload_n 3, 1) := by decide +kernel
theorem dX6_spreads_67 : decode cX6_spreads 67 = .ok (.aload_n 0, 1) := by decide +kernel
theorem dX6_spreads_68 : decode cX6_spreads 68 = .ok (.getfield 47, 3) := by decide +kernel
theorem dX6_spreads_71 : decode cX6_spreads 71 = .ok (.iload_n 3, 1) := by decide +kernel
theorem dX6_spreads_72 : decode cX6_spreads 72 = .ok (.iconst 1, 1) := by decide +kernel
theorem dX6_spreads_73 : decode cX6_spreads 73 = .ok (.isub, 1) := by decide +kernel
theorem dX6_spreads_74 : decode cX6_spreads 74 = .ok (.iaload, 1) := by decide +kernel
theorem dX6_spreads_75 : decode cX6_spreads 75 = .ok (.iastore, 1) := by decide +kernel
theorem dX6_spreads_76 : decode cX6_spreads 76 = .ok (.iinc 3 (-1), 3) := by decide +kernel
theorem dX6_spreads_79 : decode cX6_spreads 79 = .ok (.goto (-77), 3) := by decide +kernel
theorem dX6_spreads_82 : decode cX6_spreads 82 = .ok (.aload_n 0, 1) := by decide +kernel
theorem dX6_spreads_83 : decode cX6_spreads 83 = .ok (.getfield 47, 3) := by decide +kernel
theorem dX6_spreads_86 : decode cX6_spreads 86 = .ok (.iload_n 3, 1) := by decide +kernel
theorem dX6_spreads_87 : decode cX6_spreads 87 = .ok (.iload_n 1, 1) := by decide +kernel
theorem dX6_spreads_88 : decode cX6_spreads 88 = .ok (.iastore, 1) := by decide +kernel
theorem dX6_spreads_89 : decode cX6_spreads 89 = .ok (.return_, 1) := by decide +kernel
theorem dX6_layOut_0 : decode cX6_layOut 0 = .ok (.aload_n 0, 1) := by decide +kernel
theorem dX6_layOut_1 : decode cX6_layOut 1 = .ok (.iconst 0, 1) := by decide +kernel
theorem dX6_layOut_2 : decode cX6_layOut 2 = .ok (.putfield 59, 3) := by decide +kernel
theorem dX6_layOut_5 : decode cX6_layOut 5 = .ok (.aload_n 0, 1) := by decide +kernel
theorem dX6_layOut_6 : decode cX6_layOut 6 = .ok (.getfield 69, 3) := by decide +kernel
theorem dX6_layOut_9 : decode cX6_layOut 9 = .ok (.ifCond .le 9, 3) := by decide +kernel
theorem dX6_layOut_12 : decode cX6_layOut 12 = .ok (.aload_n 0, 1) := by decide +kernel
theorem dX6_layOut_13 : decode cX6_layOut 13 = .ok (.iconst 1, 1) := by decide +kernel
theorem dX6_layOut_14 : decode cX6_layOut 14 = .ok (.invokevirtual 94, 3) := by decide +kernel
theorem dX6_layOut_17 : decode cX6_layOut 17 = .ok (.ireturn, 1) := by decide +kernel
theorem dX6_layOut_18 : decode cX6_layOut 18 = .ok (.iconst 0, 1) := by decide +kernel
theorem dX6_layOut_19 : decode cX6_layOut 19 = .ok (.istore_n 1, 1) := by decide +kernel
theorem dX6_layOut_20 : decode cX6_layOut 20 = .ok (.iconst 0, 1) := by decide +kernel
theorem dX6_layOut_21 : decode cX6_layOut 21 = .ok (.istore_n 2, 1) := by decide +kernel
theorem dX6_layOut_22 : decode cX6_layOut 22 = .ok (.iload_n 2, 1) := by decide +kernel
theorem dX6_layOut_23 : decode cX6_layOut 23 = .ok (.bipush 20, 2) := by decide +kernel
theorem dX6_layOut_25 : decode cX6_layOut 25 = .ok (.if_icmp .ge 39, 3) := by decide +kernel
theorem dX6_layOut_28 : decode cX6_layOut 28 = .ok (.aload_n 0, 1) := by decide +kernel
theorem dX6_layOut_29 : decode cX6_layOut 29 = .ok (.getfield 13, 3) := by decide +kernel
theorem dX6_layOut_32 : decode cX6_layOut 32 = .ok (.iload_n 2, 1) := by decide +kernel
theorem dX6_layOut_33 : decode cX6_layOut 33 = .ok (.iaload, 1) := by decide +kernel
theorem dX6_layOut_34 : decode cX6_layOut 34 = .ok (.iconst (-1), 1) := by decide +kernel
theorem dX6_layOut_35 : decode cX6_layOut 35 = .ok (.if_icmp .eq 23, 3) := by decide +kernel
theorem dX6_layOut_38 : decode cX6_layOut 38 = .ok (.aload_n 0, 1) := by decide +kernel
theorem dX6_layOut_39 : decode cX6_layOut 39 = .ok (.iload_n 2, 1) := by decide +kernel
theorem dX6_layOut_40 : decode cX6_layOut 40 = .ok (.iload_n 1, 1) := by decide +kernel
theorem dX6_layOut_41 : decode cX6_layOut 41 = .ok (.invokevirtual 101, 3) := by decide +kernel
theorem dX6_layOut_44 : decode cX6_layOut 44 = .ok (.aload_n 0, 1) := by decide +kernel
theorem dX6_layOut_45 : decode cX6_layOut 45 = .ok (.aload_n 0, 1) := by decide +kernel
theorem dX6_layOut_46 : decode cX6_layOut 46 = .ok (.getfield 13, 3) := by decide +kernel
theorem dX6_layOut_49 : decode cX6_layOut 49 = .ok (.iload_n 2, 1) := by decide +kernel
theorem dX6_layOut_50 : decode cX6_layOut 50 = .ok (.iaload, 1) := by decide +kernel
theorem dX6_layOut_51 : decode cX6_layOut 51 = .ok (.iload_n 1, 1) := by decide +kernel
theorem dX6_layOut_52 : decode cX6_layOut 52 = .ok (.invokevirtual 105, 3) := by decide +kernel
theorem dX6_layOut_55 : decode cX6_layOut 55 = .ok (.iinc 1 1, 3) := by decide +kernel
theorem dX6_layOut_58 : decode cX6_layOut 58 = .ok (.iinc 2 1, 3) := by decide +kernel
theorem dX6_layOut_61 : decode cX6_layOut 61 = .ok (.goto (-39), 3) := by decide +kernel
theorem dX6_layOut_64 : decode cX6_layOut 64 = .ok (.iconst 0, 1) := by decide +kernel
theorem dX6_layOut_65 : decode cX6_layOut 65 = .ok (.istore_n 2, 1) := by decide +kernel
theorem dX6_layOut_66 : decode cX6_layOut 66 = .ok (.iconst 0, 1) := by decide +kernel
theorem dX6_layOut_67 : decode cX6_layOut 67 = .ok (.istore_n 3, 1) := by decide +kernel
theorem dX6_layOut_68 : decode cX6_layOut 68 = .ok (.iload_n 3, 1) := by decide +kernel
theorem dX6_layOut_69 : decode cX6_layOut 69 = .ok (.iload_n 1, 1) := by decide +kernel
theorem dX6_layOut_70 : decode cX6_layOut 70 = .ok (.if_icmp .ge 54, 3) := by decide +kernel
theorem dX6_layOut_73 : decode cX6_layOut 73 = .ok (.iload_n 2, 1) := by decide +kernel
theorem dX6_layOut_74 : decode cX6_layOut 74 = .ok (.aload_n 0, 1) := by decide +kernel
theorem dX6_layOut_75 : decode cX6_layOut 75 = .ok (.getfield 13, 3) := by decide +kernel
theorem dX6_layOut_78 : decode cX6_layOut 78 = .ok (.aload_n 0, 1) := by decide +kernel
theorem dX6_layOut_79 : decode cX6_layOut 79 = .ok (.getfield 44, 3) := by decide +kernel
theorem dX6_layOut_82 : decode cX6_layOut 82 = .ok (.iload_n 3, 1) := by decide +kernel
theorem dX6_layOut_83 : decode cX6_layOut 83 = .ok (.iaload, 1) := by decide +kernel
theorem dX6_layOut_84 : decode cX6_layOut 84 = .ok (.iaload, 1) := by decide +kernel
theorem dX6_layOut_85 : decode cX6_layOut 85 = .ok (.aload_n 0, 1) := by decide +kernel
theorem dX6_layOut_86 : decode cX6_layOut 86 = .ok (.getfield 47, 3) := by decide +kernel
theorem dX6_layOut_89 : decode cX6_layOut 89 = .ok (.iload_n 3, 1) := by decide +kernel
theorem dX6_layOut_90 : decode cX6_layOut 90 = .ok (.iaload, 1) := by decide +kernel
theorem dX6_layOut_91 : decode cX6_layOut 91 = .ok (.if_icmp .ne 7, 3) := by decide +kernel
theorem dX6_layOut_94 : decode cX6_layOut 94 = .ok (.iconst 0, 1) := by decide +kernel
theorem dX6_layOut_95 : decode cX6_layOut 95 = .ok (.goto 4, 3) := by decide +kernel
theorem dX6_layOut_98 : decode cX6_layOut 98 = .ok (.iconst 1, 1) := by decide +kernel
theorem dX6_layOut_99 : decode cX6_layOut 99 = .ok (.iadd, 1) := by decide +kernel
theorem dX6_layOut_100 : decode cX6_layOut 100 = .ok (.istore_n 2, 1) := by decide +kernel
theorem dX6_layOut_101 : decode cX6_layOut 101 = .ok (.aload_n 0, 1) := by decide +kernel
theorem dX6_layOut_102 : decode cX6_layOut 102 = .ok (.getfield 13, 3) := by decide +kernel
theorem dX6_layOut_105 : decode cX6_layOut 105 = .ok (.aload_n 0, 1) := by decide +kernel
theorem dX6_layOut_106 : decode cX6_layOut 106 = .ok (.getfield 44, 3) := by decide +kernel
theorem dX6_layOut_109 : decode cX6_layOut 109 = .ok (.iload_n 3, 1) := by decide +kernel
theorem dX6_layOut_110 : decode cX6_layOut 110 = .ok (.iaload, 1) := by decide +kernel
theorem dX6_layOut_111 : decode cX6_layOut 111 = .ok (.aload_n 0, 1) := by decide +kernel
theorem dX6_layOut_112 : decode cX6_layOut 112 = .ok (.getfield 47, 3) := by decide +kernel
theorem dX6_layOut_115 : decode cX6_layOut 115 = .ok (.iload_n 3, 1) := by decide +kernel
theorem dX6_layOut_116 : decode cX6_layOut 116 = .ok (.iaload, 1) := by decide +kernel
theorem dX6_layOut_117 : decode cX6_layOut 117 = .ok (.iastore, 1) := by decide +kernel
theorem dX6_layOut_118 : decode cX6_layOut 118 = .ok (.iinc 3 1, 3) := by decide +kernel
theorem dX6_layOut_121 : decode cX6_layOut 121 = .ok (.goto (-53), 3) := by decide +kernel
theorem dX6_layOut_124 : decode cX6_layOut 124 = .ok (.iload_n 2, 1) := by decide +kernel
theorem dX6_layOut_125 : decode cX6_layOut 125 = .ok (.ireturn, 1) := by decide +kernel
theorem dX6_placeOf_0 : decode cX6_placeOf 0 = .ok (.aload_n 0, 1) := by decide +kernel
theorem dX6_placeOf_1 : decode cX6_placeOf 1 = .ok (.iconst 0, 1) := by decide +kernel
theorem dX6_placeOf_2 : decode cX6_placeOf 2 = .ok (.putfield 59, 3) := by decide +kernel
theorem dX6_placeOf_5 : decode cX6_placeOf 5 = .ok (.iload_n 1, 1) := by decide +kernel
theorem dX6_placeOf_6 : decode cX6_placeOf 6 = .ok (.invokestatic 90, 3) := by decide +kernel
theorem dX6_placeOf_9 : decode cX6_placeOf 9 = .ok (.ifCond .eq 12, 3) := by decide +kernel
theorem dX6_placeOf_12 : decode cX6_placeOf 12 = .ok (.aload_n 0, 1) := by decide +kernel
theorem dX6_placeOf_13 : decode cX6_placeOf 13 = .ok (.getfield 13, 3) := by decide +kernel
theorem dX6_placeOf_16 : decode cX6_placeOf 16 = .ok (.iload_n 1, 1) := by decide +kernel
theorem dX6_placeOf_17 : decode cX6_placeOf 17 = .ok (.iaload, 1) := by decide +kernel
theorem dX6_placeOf_18 : decode cX6_placeOf 18 = .ok (.goto 8, 3) := by decide +kernel
theorem dX6_placeOf_21 : decode cX6_placeOf 21 = .ok (.aload_n 0, 1) := by decide +kernel
theorem dX6_placeOf_22 : decode cX6_placeOf 22 = .ok (.iconst 1, 1) := by decide +kernel
theorem dX6_placeOf_23 : decode cX6_placeOf 23 = .ok (.invokevirtual 94, 3) := by decide +kernel
theorem dX6_placeOf_26 : decode cX6_placeOf 26 = .ok (.ireturn, 1) := by decide +kernel
theorem dX6_turnover_0 : decode cX6_turnover 0 = .ok (.aload_n 0, 1) := by decide +kernel
theorem dX6_turnover_1 : decode cX6_turnover 1 = .ok (.iconst 0, 1) := by decide +kernel
theorem dX6_turnover_2 : decode cX6_turnover 2 = .ok (.putfield 59, 3) := by decide +kernel
theorem dX6_turnover_5 : decode cX6_turnover 5 = .ok (.iload_n 1, 1) := by decide +kernel
theorem dX6_turnover_6 : decode cX6_turnover 6 = .ok (.invokestatic 90, 3) := by decide +kernel
theorem dX6_turnover_9 : decode cX6_turnover 9 = .ok (.ifCond .eq 11, 3) := by decide +kernel
theorem dX6_turnover_12 : decode cX6_turnover 12 = .ok (.aload_n 0, 1) := by decide +kernel
theorem dX6_turnover_13 : decode cX6_turnover 13 = .ok (.iload_n 1, 1) := by decide +kernel
theorem dX6_turnover_14 : decode cX6_turnover 14 = .ok (.invokevirtual 98, 3) := by decide +kernel
theorem dX6_turnover_17 : decode cX6_turnover 17 = .ok (.goto 8, 3) := by decide +kernel
theorem dX6_turnover_20 : decode cX6_turnover 20 = .ok (.aload_n 0, 1) := by decide +kernel
theorem dX6_turnover_21 : decode cX6_turnover 21 = .ok (.iconst 1, 1) := by decide +kernel
theorem dX6_turnover_22 : decode cX6_turnover 22 = .ok (.invokevirtual 94, 3) := by decide +kernel
theorem dX6_turnover_25 : decode cX6_turnover 25 = .ok (.ireturn, 1) := by decide +kernel
theorem dX6_distance_0 : decode cX6_distance 0 = .ok (.aload_n 0, 1) := by decide +kernel
theorem dX6_distance_1 : decode cX6_distance 1 = .ok (.iconst 0, 1) := by decide +kernel
theorem dX6_distance_2 : decode cX6_distance 2 = .ok (.putfield 59, 3) := by decide +kernel
theorem dX6_distance_5 : decode cX6_distance 5 = .ok (.iload_n 1, 1) := by decide +kernel
theorem dX6_distance_6 : decode cX6_distance 6 = .ok (.invokestatic 90, 3) := by decide +kernel
theorem dX6_distance_9 : decode cX6_distance 9 = .ok (.ifCond .eq 10, 3) := by decide +kernel
theorem dX6_distance_12 : decode cX6_distance 12 = .ok (.iload_n 2, 1) := by decide +kernel
theorem dX6_distance_13 : decode cX6_distance 13 = .ok (.invokestatic 90, 3) := by decide +kernel
theorem dX6_distance_16 : decode cX6_distance 16 = .ok (.ifCond .ne 9, 3) := by decide +kernel
theorem dX6_distance_19 : decode cX6_distance 19 = .ok (.aload_n 0, 1) := by decide +kernel
theorem dX6_distance_20 : decode cX6_distance 20 = .ok (.iconst 1, 1) := by decide +kernel
theorem dX6_distance_21 : decode cX6_distance 21 = .ok (.invokevirtual 94, 3) := by decide +kernel
theorem dX6_distance_24 : decode cX6_distance 24 = .ok (.ireturn, 1) := by decide +kernel
theorem dX6_distance_25 : decode cX6_distance 25 = .ok (.aload_n 0, 1) := by decide +kernel
theorem dX6_distance_26 : decode cX6_distance 26 = .ok (.getfield 13, 3) := by decide +kernel
theorem dX6_distance_29 : decode cX6_distance 29 = .ok (.iload_n 1, 1) := by decide +kernel
theorem dX6_distance_30 : decode cX6_distance 30 = .ok (.iaload, 1) := by decide +kernel
theorem dX6_distance_31 : decode cX6_distance 31 = .ok (.iconst (-1), 1) := by decide +kernel
theorem dX6_distance_32 : decode cX6_distance 32 = .ok (.if_icmp .eq 13, 3) := by decide +kernel
theorem dX6_distance_35 : decode cX6_distance 35 = .ok (.aload_n 0, 1) := by decide +kernel
theorem dX6_distance_36 : decode cX6_distance 36 = .ok (.getfield 13, 3) := by decide +kernel
theorem dX6_distance_39 : decode cX6_distance 39 = .ok (.iload_n 2, 1) := by decide +kernel
theorem dX6_distance_40 : decode cX6_distance 40 = .ok (.iaload, 1) := by decide +kernel
theorem dX6_distance_41 : decode cX6_distance 41 = .ok (.iconst (-1), 1) := by decide +kernel
theorem dX6_distance_42 : decode cX6_distance 42 = .ok (.if_icmp .ne 11, 3) := by decide +kernel
theorem dX6_distance_45 : decode cX6_distance 45 = .ok (.aload_n 0, 1) := by decide +kernel
theorem dX6_distance_46 : decode cX6_distance 46 = .ok (.iconst 2, 1) := by decide +kernel
theorem dX6_distance_47 : decode cX6_distance 47 = .ok (.invokevirtual 94, 3) := by decide +kernel
theorem dX6_distance_50 : decode cX6_distance 50 = .ok (.goto 19, 3) := by decide +kernel
theorem dX6_distance_53 : decode cX6_distance 53 = .ok (.aload_n 0, 1) := by decide +kernel
theorem dX6_distance_54 : decode cX6_distance 54 = .ok (.aload_n 0, 1) := by decide +kernel
theorem dX6_distance_55 : decode cX6_distance 55 = .ok (.getfield 13, 3) := by decide +kernel
theorem dX6_distance_58 : decode cX6_distance 58 = .ok (.iload_n 1, 1) := by decide +kernel
theorem dX6_distance_59 : decode cX6_distance 59 = .ok (.iaload, 1) := by decide +kernel
theorem dX6_distance_60 : decode cX6_distance 60 = .ok (.aload_n 0, 1) := by decide +kernel
theorem dX6_distance_61 : decode cX6_distance 61 = .ok (.getfield 13, 3) := by decide +kernel
theorem dX6_distance_64 : decode cX6_distance 64 = .ok (.iload_n 2, 1) := by decide +kernel
theorem dX6_distance_65 : decode cX6_distance 65 = .ok (.iaload, 1) := by decide +kernel
theorem dX6_distance_66 : decode cX6_distance 66 = .ok (.invokevirtual 72, 3) := by decide +kernel
theorem dX6_distance_69 : decode cX6_distance 69 = .ok (.ireturn, 1) := by decide +kernel
theorem dX6_order_0 : decode cX6_order 0 = .ok (.aload_n 0, 1) := by decide +kernel
theorem dX6_order_1 : decode cX6_order 1 = .ok (.iconst 0, 1) := by decide +kernel
theorem dX6_order_2 : decode cX6_order 2 = .ok (.putfield 59, 3) := by decide +kernel
theorem dX6_order_5 : decode cX6_order 5 = .ok (.iload_n 1, 1) := by decide +kernel
theorem dX6_order_6 : decode cX6_order 6 = .ok (.iconst 0, 1) := by decide +kernel
theorem dX6_order_7 : decode cX6_order 7 = .ok (.sipush 999, 3) := by decide +kernel
theorem dX6_order_10 : decode cX6_order 10 = .ok (.invokestatic 62, 3) := by decide +kernel
theorem dX6_order_13 : decode cX6_order 13 = .ok (.ifCond .ne 9, 3) := by decide +kernel
theorem dX6_order_16 : decode cX6_order 16 = .ok (.aload_n 0, 1) := by decide +kernel
theorem dX6_order_17 : decode cX6_order 17 = .ok (.iconst 1, 1) := by decide +kernel
theorem dX6_order_18 : decode cX6_order 18 = .ok (.invokevirtual 94, 3) := by decide +kernel
theorem dX6_order_21 : decode cX6_order 21 = .ok (.ireturn, 1) := by decide +kernel
theorem dX6_order_22 : decode cX6_order 22 = .ok (.aload_n 0, 1) := by decide +kernel
theorem dX6_order_23 : decode cX6_order 23 = .ok (.getfield 66, 3) := by decide +kernel
theorem dX6_order_26 : decode cX6_order 26 = .ok (.bipush 40, 2) := by decide +kernel
theorem dX6_order_28 : decode cX6_order 28 = .ok (.if_icmp .ne 9, 3) := by decide +kernel
theorem dX6_order_31 : decode cX6_order 31 = .ok (.aload_n 0, 1) := by decide +kernel
theorem dX6_order_32 : decode cX6_order 32 = .ok (.iconst 2, 1) := by decide +kernel
theorem dX6_order_33 : decode cX6_order 33 = .ok (.invokevirtual 94, 3) := by decide +kernel
theorem dX6_order_36 : decode cX6_order 36 = .ok (.ireturn, 1) := by decide +kernel
theorem dX6_order_37 : decode cX6_order 37 = .ok (.aload_n 0, 1) := by decide +kernel
theorem dX6_order_38 : decode cX6_order 38 = .ok (.getfield 17, 3) := by decide +kernel
theorem dX6_order_41 : decode cX6_order 41 = .ok (.aload_n 0, 1) := by decide +kernel
theorem dX6_order_42 : decode cX6_order 42 = .ok (.getfield 66, 3) := by decide +kernel
theorem dX6_order_45 : decode cX6_order 45 = .ok (.iload_n 1, 1) := by decide +kernel
theorem dX6_order_46 : decode cX6_order 46 = .ok (.iastore, 1) := by decide +kernel
theorem dX6_order_47 : decode cX6_order 47 = .ok (.aload_n 0, 1) := by decide +kernel
theorem dX6_order_48 : decode cX6_order 48 = .ok (.getfield 20, 3) := by decide +kernel
theorem dX6_order_51 : decode cX6_order 51 = .ok (.aload_n 0, 1) := by decide +kernel
theorem dX6_order_52 : decode cX6_order 52 = .ok (.getfield 66, 3) := by decide +kernel
theorem dX6_order_55 : decode cX6_order 55 = .ok (.iconst 0, 1) := by decide +kernel
theorem dX6_order_56 : decode cX6_order 56 = .ok (.iastore, 1) := by decide +kernel
theorem dX6_order_57 : decode cX6_order 57 = .ok (.aload_n 0, 1) := by decide +kernel
theorem dX6_order_58 : decode cX6_order 58 = .ok (.getfield 23, 3) := by decide +kernel
theorem dX6_order_61 : decode cX6_order 61 = .ok (.aload_n 0, 1) := by decide +kernel
theorem dX6_order_62 : decode cX6_order 62 = .ok (.getfield 66, 3) := by decide +kernel
theorem dX6_order_65 : decode cX6_order 65 = .ok (.iconst (-1), 1) := by decide +kernel
theorem dX6_order_66 : decode cX6_order 66 = .ok (.iastore, 1) := by decide +kernel
theorem dX6_order_67 : decode cX6_order 67 = .ok (.aload_n 0, 1) := by decide +kernel
theorem dX6_order_68 : decode cX6_order 68 = .ok (.getfield 26, 3) := by decide +kernel
theorem dX6_order_71 : decode cX6_order 71 = .ok (.aload_n 0, 1) := by decide +kernel
theorem dX6_order_72 : decode cX6_order 72 = .ok (.getfield 66, 3) := by decide +kernel
theorem dX6_order_75 : decode cX6_order 75 = .ok (.iconst 0, 1) := by decide +kernel
theorem dX6_order_76 : decode cX6_order 76 = .ok (.iastore, 1) := by decide +kernel
theorem dX6_order_77 : decode cX6_order 77 = .ok (.aload_n 0, 1) := by decide +kernel
theorem dX6_order_78 : decode cX6_order 78 = .ok (.dup, 1) := by decide +kernel
theorem dX6_order_79 : decode cX6_order 79 = .ok (.getfield 66, 3) := by decide +kernel
theorem dX6_order_82 : decode cX6_order 82 = .ok (.iconst 1, 1) := by decide +kernel
theorem dX6_order_83 : decode cX6_order 83 = .ok (.iadd, 1) := by decide +kernel
theorem dX6_order_84 : decode cX6_order 84 = .ok (.putfield 66, 3) := by decide +kernel
theorem dX6_order_87 : decode cX6_order 87 = .ok (.aload_n 0, 1) := by decide +kernel
theorem dX6_order_88 : decode cX6_order 88 = .ok (.getfield 66, 3) := by decide +kernel
theorem dX6_order_91 : decode cX6_order 91 = .ok (.iconst 1, 1) := by decide +kernel
theorem dX6_order_92 : decode cX6_order 92 = .ok (.isub, 1) := by decide +kernel
theorem dX6_order_93 : decode cX6_order 93 = .ok (.ireturn, 1) := by decide +kernel
theorem dX6_wanted_0 : decode cX6_wanted 0 = .ok (.iconst 0, 1) := by decide +kernel
theorem dX6_wanted_1 : decode cX6_wanted 1 = .ok (.istore_n 2, 1) := by decide +kernel
theorem dX6_wanted_2 : decode cX6_wanted 2 = .ok (.iconst 0, 1) := by decide +kernel
theorem dX6_wanted_3 : decode cX6_wanted 3 = .ok (.istore_n 3, 1) := by decide +kernel
theorem dX6_wanted_4 : decode cX6_wanted 4 = .ok (.iload_n 3, 1) := by decide +kernel
theorem dX6_wanted_5 : decode cX6_wanted 5 = .ok (.aload_n 0, 1) := by decide +kernel
theorem dX6_wanted_6 : decode cX6_wanted 6 = .ok (.getfield 26, 3) := by decide +kernel
theorem dX6_wanted_9 : decode cX6_wanted 9 = .ok (.iload_n 1, 1) := by decide +kernel
theorem dX6_wanted_10 : decode cX6_wanted 10 = .ok (.iaload, 1) := by decide +kernel
theorem dX6_wanted_11 : decode cX6_wanted 11 = .ok (.if_icmp .ge 24, 3) := by decide +kernel
theorem dX6_wanted_14 : decode cX6_wanted 14 = .ok (.iload_n 2, 1) := by decide +kernel
theorem dX6_wanted_15 : decode cX6_wanted 15 = .ok (.iconst 1, 1) := by decide +kernel
theorem dX6_wanted_16 : decode cX6_wanted 16 = .ok (.aload_n 0, 1) := by decide +kernel
theorem dX6_wanted_17 : decode cX6_wanted 17 = .ok (.getfield 29, 3) := by decide +kernel
theorem dX6_wanted_20 : decode cX6_wanted 20 = .ok (.iconst 5, 1) := by decide +kernel
theorem dX6_wanted_21 : decode cX6_wanted 21 = .ok (.iload_n 1, 1) := by decide +kernel
theorem dX6_wanted_22 : decode cX6_wanted 22 = .ok (.imul, 1) := by decide +kernel
theorem dX6_wanted_23 : decode cX6_wanted 23 = .ok (.iload_n 3, 1) := by decide +kernel
theorem dX6_wanted_24 : decode cX6_wanted 24 = .ok (.iadd, 1) := by decide +kernel
theorem dX6_wanted_25 : decode cX6_wanted 25 = .ok (.iaload, 1) := by decide +kernel
theorem dX6_wanted_26 : decode cX6_wanted 26 = .ok (.ishl, 1) := by decide +kernel
theorem dX6_wanted_27 : decode cX6_wanted 27 = .ok (.ior, 1) := by decide +kernel
theorem dX6_wanted_28 : decode cX6_wanted 28 = .ok (.istore_n 2, 1) := by decide +kernel
theorem dX6_wanted_29 : decode cX6_wanted 29 = .ok (.iinc 3 1, 3) := by decide +kernel
theorem dX6_wanted_32 : decode cX6_wanted 32 = .ok (.goto (-28), 3) := by decide +kernel
theorem dX6_wanted_35 : decode cX6_wanted 35 = .ok (.iload_n 2, 1) := by decide +kernel
theorem dX6_wanted_36 : decode cX6_wanted 36 = .ok (.ireturn, 1) := by decide +kernel
theorem dX6_line_0 : decode cX6_line 0 = .ok (.aload_n 0, 1) := by decide +kernel
theorem dX6_line_1 : decode cX6_line 1 = .ok (.iconst 0, 1) := by decide +kernel
theorem dX6_line_2 : decode cX6_line 2 = .ok (.putfield 59, 3) := by decide +kernel
theorem dX6_line_5 : decode cX6_line 5 = .ok (.aload_n 0, 1) := by decide +kernel
theorem dX6_line_6 : decode cX6_line 6 = .ok (.iload_n 1, 1) := by decide +kernel
theorem dX6_line_7 : decode cX6_line 7 = .ok (.invokevirtual 108, 3) := by decide +kernel
theorem dX6_line_10 : decode cX6_line 10 = .ok (.ifCond .eq 10, 3) := by decide +kernel
theorem dX6_line_13 : decode cX6_line 13 = .ok (.iload_n 2, 1) := by decide +kernel
theorem dX6_line_14 : decode cX6_line 14 = .ok (.invokestatic 90, 3) := by decide +kernel
theorem dX6_line_17 : decode cX6_line 17 = .ok (.ifCond .ne 9, 3) := by decide +kernel
theorem dX6_line_20 : decode cX6_line 20 = .ok (.aload_n 0, 1) := by decide +kernel
theorem dX6_line_21 : decode cX6_line 21 = .ok (.iconst 1, 1) := by decide +kernel
theorem dX6_line_22 : decode cX6_line 22 = .ok (.invokevirtual 94, 3) := by decide +kernel
theorem dX6_line_25 : decode cX6_line 25 = .ok (.ireturn, 1) := by decide +kernel
theorem dX6_line_26 : decode cX6_line 26 = .ok (.iload_n 3, 1) := by decide +kernel
theorem dX6_line_27 : decode cX6_line 27 = .ok (.iconst 1, 1) := by decide +kernel
theorem dX6_line_28 : decode cX6_line 28 = .ok (.bipush 99, 2) := by decide +kernel
theorem dX6_line_30 : decode cX6_line 30 = .ok (.invokestatic 62, 3) := by decide +kernel
theorem dX6_line_33 : decode cX6_line 33 = .ok (.ifCond .ne 9, 3) := by decide +kernel
theorem dX6_line_36 : decode cX6_line 36 = .ok (.aload_n 0, 1) := by decide +kernel
theorem dX6_line_37 : decode cX6_line 37 = .ok (.iconst 2, 1) := by decide +kernel
theorem dX6_line_38 : decode cX6_line 38 = .ok (.invokevirtual 94, 3) := by decide +kernel
theorem dX6_line_41 : decode cX6_line 41 = .ok (.ireturn, 1) := by decide +kernel
theorem dX6_line_42 : decode cX6_line 42 = .ok (.aload_n 0, 1) := by decide +kernel
theorem dX6_line_43 : decode cX6_line 43 = .ok (.getfield 20, 3) := by decide +kernel
theorem dX6_line_46 : decode cX6_line 46 = .ok (.iload_n 1, 1) := by decide +kernel
theorem dX6_line_47 : decode cX6_line 47 = .ok (.iaload, 1) := by decide +kernel
theorem dX6_line_48 : decode cX6_line 48 = .ok (.ifCond .ne 49, 3) := by decide +kernel
theorem dX6_line_51 : decode cX6_line 51 = .ok (.aload_n 0, 1) := by decide +kernel
theorem dX6_line_52 : decode cX6_line 52 = .ok (.getfield 26, 3) := by decide +kernel
theorem dX6_line_55 : decode cX6_line 55 = .ok (.iload_n 1, 1) := by decide +kernel
theorem dX6_line_56 : decode cX6_line 56 = .ok (.iaload, 1) := by decide +kernel
theorem dX6_line_57 : decode cX6_line 57 = .ok (.iconst 5, 1) := by decide +kernel
theorem dX6_line_58 : decode cX6_line 58 = .ok (.if_icmp .eq 39, 3) := by decide +kernel
theorem dX6_line_61 : decode cX6_line 61 = .ok (.aload_n 0, 1) := by decide +kernel
theorem dX6_line_62 : decode cX6_line 62 = .ok (.getfield 26, 3) := by decide +kernel
theorem dX6_line_65 : decode cX6_line 65 = .ok (.iload_n 1, 1) := by decide +kernel
theorem dX6_line_66 : decode cX6_line 66 = .ok (.iaload, 1) := by decide +kernel
theorem dX6_line_67 : decode cX6_line 67 = .ok (.aload_n 0, 1) := by decide +kernel
theorem dX6_line_68 : decode cX6_line 68 = .ok (.getfield 7, 3) := by decide +kernel
theorem dX6_line_71 : decode cX6_line 71 = .ok (.if_icmp .ge 26, 3) := by decide +kernel
theorem dX6_line_74 : decode cX6_line 74 = .ok (.aload_n 0, 1) := by decide +kernel
theorem dX6_line_75 : decode cX6_line 75 = .ok (.iload_n 1, 1) := by decide +kernel
theorem dX6_line_76 : decode cX6_line 76 = .ok (.invokevirtual 111, 3) := by decide +kernel
theorem dX6_line_79 : decode cX6_line 79 = .ok (.iload_n 2, 1) := by decide +kernel
theorem dX6_line_80 : decode cX6_line 80 = .ok (.ishr, 1) := by decide +kernel
theorem dX6_line_81 : decode cX6_line 81 = .ok (.iconst 1, 1) := by decide +kernel
theorem dX6_line_82 : decode cX6_line 82 = .ok (.iand, 1) := by decide +kernel
theorem dX6_line_83 : decode cX6_line 83 = .ok (.iconst 1, 1) := by decide +kernel
theorem dX6_line_84 : decode cX6_line 84 = .ok (.if_icmp .eq 13, 3) := by decide +kernel
theorem dX6_line_87 : decode cX6_line 87 = .ok (.aload_n 0, 1) := by decide +kernel
theorem dX6_line_88 : decode cX6_line 88 = .ok (.getfield 13, 3) := by decide +kernel
theorem dX6_line_91 : decode cX6_line 91 = .ok (.iload_n 2, 1) := by decide +kernel
theorem dX6_line_92 : decode cX6_line 92 = .ok (.iaload, 1) := by decide +kernel
theorem dX6_line_93 : decode cX6_line 93 = .ok (.iconst (-1), 1) := by decide +kernel
theorem dX6_line_94 : decode cX6_line 94 = .ok (.if_icmp .ne 9, 3) := by decide +kernel
theorem dX6_line_97 : decode cX6_line 97 = .ok (.aload_n 0, 1) := by decide +kernel
theorem dX6_line_98 : decode cX6_line 98 = .ok (.iconst 3, 1) := by decide +kernel
theorem dX6_line_99 : decode cX6_line 99 = .ok (.invokevirtual 94, 3) := by decide +kernel
theorem dX6_line_102 : decode cX6_line 102 = .ok (.ireturn, 1) := by decide +kernel
theorem dX6_line_103 : decode cX6_line 103 = .ok (.aload_n 0, 1) := by decide +kernel
theorem dX6_line_104 : decode cX6_line 104 = .ok (.getfield 29, 3) := by decide +kernel
theorem dX6_line_107 : decode cX6_line 107 = .ok (.iconst 5, 1) := by decide +kernel
theorem dX6_line_108 : decode cX6_line 108 = .ok (.iload_n 1, 1) := by decide +kernel
theorem dX6_line_109 : decode cX6_line 109 = .ok (.imul, 1) := by decide +kernel
theorem dX6_line_110 : decode cX6_line 110 = .ok (.aload_n 0, 1) := by decide +kernel
theorem dX6_line_111 : decode cX6_line 111 = .ok (.getfield 26, 3) := by decide +kernel
theorem dX6_line_114 : decode cX6_line 114 = .ok (.iload_n 1, 1) := by decide +kernel
theorem dX6_line_115 : decode cX6_line 115 = .ok (.iaload, 1) := by decide +kernel
theorem dX6_line_116 : decode cX6_line 116 = .ok (.iadd, 1) := by decide +kernel
theorem dX6_line_117 : decode cX6_line 117 = .ok (.iload_n 2, 1) := by decide +kernel
theorem dX6_line_118 : decode cX6_line 118 = .ok (.iastore, 1) := by decide +kernel
theorem dX6_line_119 : decode cX6_line 119 = .ok (.aload_n 0, 1) := by decide +kernel
theorem dX6_line_120 : decode cX6_line 120 = .ok (.getfield 32, 3) := by decide +kernel
theorem dX6_line_123 : decode cX6_line 123 = .ok (.iconst 5, 1) := by decide +kernel
theorem dX6_line_124 : decode cX6_line 124 = .ok (.iload_n 1, 1) := by decide +kernel
theorem dX6_line_125 : decode cX6_line 125 = .ok (.imul, 1) := by decide +kernel
theorem dX6_line_126 : decode cX6_line 126 = .ok (.aload_n 0, 1) := by decide +kernel
theorem dX6_line_127 : decode cX6_line 127 = .ok (.getfield 26, 3) := by decide +kernel
theorem dX6_line_130 : decode cX6_line 130 = .ok (.iload_n 1, 1) := by decide +kernel
theorem dX6_line_131 : decode cX6_line 131 = .ok (.iaload, 1) := by decide +kernel
theorem dX6_line_132 : decode cX6_line 132 = .ok (.iadd, 1) := by decide +kernel
theorem dX6_line_133 : decode cX6_line 133 = .ok (.iload_n 3, 1) := by decide +kernel
theorem dX6_line_134 : decode cX6_line 134 = .ok (.iastore, 1) := by decide +kernel
theorem dX6_line_135 : decode cX6_line 135 = .ok (.aload_n 0, 1) := by decide +kernel
theorem dX6_line_136 : decode cX6_line 136 = .ok (.getfield 26, 3) := by decide +kernel
theorem dX6_line_139 : decode cX6_line 139 = .ok (.iload_n 1, 1) := by decide +kernel
theorem dX6_line_140 : decode cX6_line 140 = .ok (.dup2, 1) := by decide +kernel
theorem dX6_line_141 : decode cX6_line 141 = .ok (.iaload, 1) := by decide +kernel
theorem dX6_line_142 : decode cX6_line 142 = .ok (.iconst 1, 1) := by decide +kernel
theorem dX6_line_143 : decode cX6_line 143 = .ok (.iadd, 1) := by decide +kernel
theorem dX6_line_144 : decode cX6_line 144 = .ok (.iastore, 1) := by decide +kernel
theorem dX6_line_145 : decode cX6_line 145 = .ok (.aload_n 0, 1) := by decide +kernel
theorem dX6_line_146 : decode cX6_line 146 = .ok (.getfield 26, 3) := by decide +kernel
theorem dX6_line_149 : decode cX6_line 149 = .ok (.iload_n 1, 1) := by decide +kernel
theorem dX6_line_150 : decode cX6_line 150 = .ok (.iaload, 1) := by decide +kernel
theorem dX6_line_151 : decode cX6_line 151 = .ok (.ireturn, 1) := by decide +kernel
theorem dX6_orders_0 : decode cX6_orders 0 = .ok (.aload_n 0, 1) := by decide +kernel
theorem dX6_orders_1 : decode cX6_orders 1 = .ok (.iconst 0, 1) := by decide +kernel
theorem dX6_orders_2 : decode cX6_orders 2 = .ok (.putfield 59, 3) := by decide +kernel
theorem dX6_orders_5 : decode cX6_orders 5 = .ok (.aload_n 0, 1) := by decide +kernel
theorem dX6_orders_6 : decode cX6_orders 6 = .ok (.getfield 66, 3) := by decide +kernel
theorem dX6_orders_9 : decode cX6_orders 9 = .ok (.ireturn, 1) := by decide +kernel
theorem dX6_stateOf_0 : decode cX6_stateOf 0 = .ok (.aload_n 0, 1) := by decide +kernel
theorem dX6_stateOf_1 : decode cX6_stateOf 1 = .ok (.iconst 0, 1) := by decide +kernel
theorem dX6_stateOf_2 : decode cX6_stateOf 2 = .ok (.putfield 59, 3) := by decide +kernel
theorem dX6_stateOf_5 : decode cX6_stateOf 5 = .ok (.aload_n 0, 1) := by decide +kernel
theorem dX6_stateOf_6 : decode cX6_stateOf 6 = .ok (.iload_n 1, 1) := by decide +kernel
theorem dX6_stateOf_7 : decode cX6_stateOf 7 = .ok (.invokevirtual 108, 3) := by decide +kernel
theorem dX6_stateOf_10 : decode cX6_stateOf 10 = .ok (.ifCond .eq 12, 3) := by decide +kernel
theorem dX6_stateOf_13 : decode cX6_stateOf 13 = .ok (.aload_n 0, 1) := by decide +kernel
theorem dX6_stateOf_14 : decode cX6_stateOf 14 = .ok (.getfield 20, 3) := by decide +kernel
theorem dX6_stateOf_17 : decode cX6_stateOf 17 = .ok (.iload_n 1, 1) := by decide +kernel
theorem dX6_stateOf_18 : decode cX6_stateOf 18 = .ok (.iaload, 1) := by decide +kernel
theorem dX6_stateOf_19 : decode cX6_stateOf 19 = .ok (.goto 8, 3) := by decide +kernel
theorem dX6_stateOf_22 : decode cX6_stateOf 22 = .ok (.aload_n 0, 1) := by decide +kernel
theorem dX6_stateOf_23 : decode cX6_stateOf 23 = .ok (.iconst 1, 1) := by decide +kernel
theorem dX6_stateOf_24 : decode cX6_stateOf 24 = .ok (.invokevirtual 94, 3) := by decide +kernel
theorem dX6_stateOf_27 : decode cX6_stateOf 27 = .ok (.ireturn, 1) := by decide +kernel
theorem dX6_lengthAlone_0 : decode cX6_lengthAlone 0 = .ok (.aload_n 0, 1) := by decide +kernel
theorem dX6_lengthAlone_1 : decode cX6_lengthAlone 1 = .ok (.iconst 0, 1) := by decide +kernel
theorem dX6_lengthAlone_2 : decode cX6_lengthAlone 2 = .ok (.putfield 59, 3) := by decide +kernel
theorem dX6_lengthAlone_5 : decode cX6_lengthAlone 5 = .ok (.aload_n 0, 1) := by decide +kernel
theorem dX6_lengthAlone_6 : decode cX6_lengthAlone 6 = .ok (.iload_n 1, 1) := by decide +kernel
theorem dX6_lengthAlone_7 : decode cX6_lengthAlone 7 = .ok (.invokevirtual 108, 3) := by decide +kernel
theorem dX6_lengthAlone_10 : decode cX6_lengthAlone 10 = .ok (.ifCond .eq 15, 3) := by decide +kernel
theorem dX6_lengthAlone_13 : decode cX6_lengthAlone 13 = .ok (.aload_n 0, 1) := by decide +kernel
theorem dX6_lengthAlone_14 : decode cX6_lengthAlone 14 = .ok (.aload_n 0, 1) := by decide +kernel
theorem dX6_lengthAlone_15 : decode cX6_lengthAlone 15 = .ok (.iload_n 1, 1) := by decide +kernel
theorem dX6_lengthAlone_16 : decode cX6_lengthAlone 16 = .ok (.invokevirtual 111, 3) := by decide +kernel
theorem dX6_lengthAlone_19 : decode cX6_lengthAlone 19 = .ok (.invokevirtual 114, 3) := by decide +kernel
theorem dX6_lengthAlone_22 : decode cX6_lengthAlone 22 = .ok (.goto 8, 3) := by decide +kernel
theorem dX6_lengthAlone_25 : decode cX6_lengthAlone 25 = .ok (.aload_n 0, 1) := by decide +kernel
theorem dX6_lengthAlone_26 : decode cX6_lengthAlone 26 = .ok (.iconst 1, 1) := by decide +kernel
theorem dX6_lengthAlone_27 : decode cX6_lengthAlone 27 = .ok (.invokevirtual 94, 3) := by decide +kernel
theorem dX6_lengthAlone_30 : decode cX6_lengthAlone 30 = .ok (.ireturn, 1) := by decide +kernel
theorem dX6_setCapacity_0 : decode cX6_setCapacity 0 = .ok (.aload_n 0, 1) := by decide +kernel
theorem dX6_setCapacity_1 : decode cX6_setCapacity 1 = .ok (.iconst 0, 1) := by decide +kernel
theorem dX6_setCapacity_2 : decode cX6_setCapacity 2 = .ok (.putfield 59, 3) := by decide +kernel
theorem dX6_setCapacity_5 : decode cX6_setCapacity 5 = .ok (.iload_n 1, 1) := by decide +kernel
theorem dX6_setCapacity_6 : decode cX6_setCapacity 6 = .ok (.iconst 1, 1) := by decide +kernel
theorem dX6_setCapacity_7 : decode cX6_setCapacity 7 = .ok (.bipush 9, 2) := by decide +kernel
theorem dX6_setCapacity_9 : decode cX6_setCapacity 9 = .ok (.invokestatic 62, 3) := by decide +kernel
theorem dX6_setCapacity_12 : decode cX6_setCapacity 12 = .ok (.ifCond .ne 9, 3) := by decide +kernel
theorem dX6_setCapacity_15 : decode cX6_setCapacity 15 = .ok (.aload_n 0, 1) := by decide +kernel
theorem dX6_setCapacity_16 : decode cX6_setCapacity 16 = .ok (.iconst 1, 1) := by decide +kernel
theorem dX6_setCapacity_17 : decode cX6_setCapacity 17 = .ok (.invokevirtual 94, 3) := by decide +kernel
theorem dX6_setCapacity_20 : decode cX6_setCapacity 20 = .ok (.ireturn, 1) := by decide +kernel
theorem dX6_setCapacity_21 : decode cX6_setCapacity 21 = .ok (.aload_n 0, 1) := by decide +kernel
theorem dX6_setCapacity_22 : decode cX6_setCapacity 22 = .ok (.getfield 69, 3) := by decide +kernel
theorem dX6_setCapacity_25 : decode cX6_setCapacity 25 = .ok (.ifCond .ne 7, 3) := by decide +kernel
theorem dX6_setCapacity_28 : decode cX6_setCapacity 28 = .ok (.iconst 1, 1) := by decide +kernel
theorem dX6_setCapacity_29 : decode cX6_setCapacity 29 = .ok (.goto 4, 3) := by decide +kernel
theorem dX6_setCapacity_32 : decode cX6_setCapacity 32 = .ok (.iconst 0, 1) := by decide +kernel
theorem dX6_setCapacity_33 : decode cX6_setCapacity 33 = .ok (.istore_n 2, 1) := by decide +kernel
theorem dX6_setCapacity_34 : decode cX6_setCapacity 34 = .ok (.iconst 0, 1) := by decide +kernel
theorem dX6_setCapacity_35 : decode cX6_setCapacity 35 = .ok (.istore_n 3, 1) := by decide +kernel
theorem dX6_setCapacity_36 : decode cX6_setCapacity 36 = .ok (.iload_n 3, 1) := by decide +kernel
theorem dX6_setCapacity_37 : decode cX6_setCapacity 37 = .ok (.aload_n 0, 1) := by decide +kernel
theorem dX6_setCapacity_38 : decode cX6_setCapacity 38 = .ok (.getfield 66, 3) := by decide +kernel
theorem dX6_setCapacity_41 : decode cX6_setCapacity 41 = .ok (.if_icmp .ge 39, 3) := by decide +kernel
theorem dX6_setCapacity_44 : decode cX6_setCapacity 44 = .ok (.iload_n 2, 1) := by decide +kernel
theorem dX6_setCapacity_45 : decode cX6_setCapacity 45 = .ok (.ifCond .eq 27, 3) := by decide +kernel
theorem dX6_setCapacity_48 : decode cX6_setCapacity 48 = .ok (.aload_n 0, 1) := by decide +kernel
theorem dX6_setCapacity_49 : decode cX6_setCapacity 49 = .ok (.getfield 20, 3) := by decide +kernel
theorem dX6_setCapacity_52 : decode cX6_setCapacity 52 = .ok (.iload_n 3, 1) := by decide +kernel
theorem dX6_setCapacity_53 : decode cX6_setCapacity 53 = .ok (.iaload, 1) := by decide +kernel
theorem dX6_setCapacity_54 : decode cX6_setCapacity 54 = .ok (.iconst 2, 1) := by decide +kernel
theorem dX6_setCapacity_55 : decode cX6_setCapacity 55 = .ok (.if_icmp .eq 13, 3) := by decide +kernel
theorem dX6_setCapacity_58 : decode cX6_setCapacity 58 = .ok (.aload_n 0, 1) := by decide +kernel
theorem dX6_setCapacity_59 : decode cX6_setCapacity 59 = .ok (.getfield 26, 3) := by decide +kernel
theorem dX6_setCapacity_62 : decode cX6_setCapacity 62 = .ok (.iload_n 3, 1) := by decide +kernel
theorem dX6_setCapacity_63 : decode cX6_setCapacity 63 = .ok (.iaload, 1) := by decide +kernel
theorem dX6_setCapacity_64 : decode cX6_setCapacity 64 = .ok (.iload_n 1, 1) := by decide +kernel
theorem dX6_setCapacity_65 : decode cX6_setCapacity 65 = .ok (.if_icmp .gt 7, 3) := by decide +kernel
theorem dX6_setCapacity_68 : decode cX6_setCapacity 68 = .ok (.iconst 1, 1) := by decide +kernel
theorem dX6_setCapacity_69 : decode cX6_setCapacity 69 = .ok (.goto 4, 3) := by decide +kernel
theorem dX6_setCapacity_72 : decode cX6_setCapacity 72 = .ok (.iconst 0, 1) := by decide +kernel
theorem dX6_setCapacity_73 : decode cX6_setCapacity 73 = .ok (.istore_n 2, 1) := by decide +kernel
theorem dX6_setCapacity_74 : decode cX6_setCapacity 74 = .ok (.iinc 3 1, 3) := by decide +kernel
theorem dX6_setCapacity_77 : decode cX6_setCapacity 77 = .ok (.goto (-41), 3) := by decide +kernel
theorem dX6_setCapacity_80 : decode cX6_setCapacity 80 = .ok (.iload_n 2, 1) := by decide +kernel
theorem dX6_setCapacity_81 : decode cX6_setCapacity 81 = .ok (.ifCond .ne 9, 3) := by decide +kernel
theorem dX6_setCapacity_84 : decode cX6_setCapacity 84 = .ok (.aload_n 0, 1) := by decide +kernel
theorem dX6_setCapacity_85 : decode cX6_setCapacity 85 = .ok (.iconst 2, 1) := by decide +kernel
theorem dX6_setCapacity_86 : decode cX6_setCapacity 86 = .ok (.invokevirtual 94, 3) := by decide +kernel
theorem dX6_setCapacity_89 : decode cX6_setCapacity 89 = .ok (.ireturn, 1) := by decide +kernel
theorem dX6_setCapacity_90 : decode cX6_setCapacity 90 = .ok (.aload_n 0, 1) := by decide +kernel
theorem dX6_setCapacity_91 : decode cX6_setCapacity 91 = .ok (.getfield 7, 3) := by decide +kernel
theorem dX6_setCapacity_94 : decode cX6_setCapacity 94 = .ok (.istore_n 3, 1) := by decide +kernel
theorem dX6_setCapacity_95 : decode cX6_setCapacity 95 = .ok (.aload_n 0, 1) := by decide +kernel
theorem dX6_setCapacity_96 : decode cX6_setCapacity 96 = .ok (.iload_n 1, 1) := by decide +kernel
theorem dX6_setCapacity_97 : decode cX6_setCapacity 97 = .ok (.putfield 7, 3) := by decide +kernel
theorem dX6_setCapacity_100 : decode cX6_setCapacity 100 = .ok (.iload_n 3, 1) := by decide +kernel
theorem dX6_setCapacity_101 : decode cX6_setCapacity 101 = .ok (.ireturn, 1) := by decide +kernel
theorem dX6_productsOf_0 : decode cX6_productsOf 0 = .ok (.iconst 0, 1) := by decide +kernel
theorem dX6_productsOf_1 : decode cX6_productsOf 1 = .ok (.istore_n 2, 1) := by decide +kernel
theorem dX6_productsOf_2 : decode cX6_productsOf 2 = .ok (.iconst 0, 1) := by decide +kernel
theorem dX6_productsOf_3 : decode cX6_productsOf 3 = .ok (.istore_n 3, 1) := by decide +kernel
theorem dX6_productsOf_4 : decode cX6_productsOf 4 = .ok (.iload_n 3, 1) := by decide +kernel
theorem dX6_productsOf_5 : decode cX6_productsOf 5 = .ok (.aload_n 0, 1) := by decide +kernel
theorem dX6_productsOf_6 : decode cX6_productsOf 6 = .ok (.getfield 66, 3) := by decide +kernel
theorem dX6_productsOf_9 : decode cX6_productsOf 9 = .ok (.if_icmp .ge 31, 3) := by decide +kernel
theorem dX6_productsOf_12 : decode cX6_productsOf 12 = .ok (.iload_n 2, 1) := by decide +kernel
theorem dX6_productsOf_13 : decode cX6_productsOf 13 = .ok (.aload_n 0, 1) := by decide +kernel
theorem dX6_productsOf_14 : decode cX6_productsOf 14 = .ok (.getfield 23, 3) := by decide +kernel
theorem dX6_productsOf_17 : decode cX6_productsOf 17 = .ok (.iload_n 3, 1) := by decide +kernel
theorem dX6_productsOf_18 : decode cX6_productsOf 18 = .ok (.iaload, 1) := by decide +kernel
theorem dX6_productsOf_19 : decode cX6_productsOf 19 = .ok (.iload_n 1, 1) := by decide +kernel
theorem dX6_productsOf_20 : decode cX6_productsOf 20 = .ok (.if_icmp .ne 11, 3) := by decide +kernel
theorem dX6_productsOf_23 : decode cX6_productsOf 23 = .ok (.aload_n 0, 1) := by decide +kernel
theorem dX6_productsOf_24 : decode cX6_productsOf 24 = .ok (.iload_n 3, 1) := by decide +kernel
theorem dX6_productsOf_25 : decode cX6_productsOf 25 = .ok (.invokevirtual 111, 3) := by decide +kernel
theorem dX6_productsOf_28 : decode cX6_productsOf 28 = .ok (.goto 4, 3) := by decide +kernel
theorem dX6_productsOf_31 : decode cX6_productsOf 31 = .ok (.iconst 0, 1) := by decide +kernel
theorem dX6_productsOf_32 : decode cX6_productsOf 32 = .ok (.ior, 1) := by decide +kernel
theorem dX6_productsOf_33 : decode cX6_productsOf 33 = .ok (.istore_n 2, 1) := by decide +kernel
theorem dX6_productsOf_34 : decode cX6_productsOf 34 = .ok (.iinc 3 1, 3) := by decide +kernel
theorem dX6_productsOf_37 : decode cX6_productsOf 37 = .ok (.goto (-33), 3) := by decide +kernel
theorem dX6_productsOf_40 : decode cX6_productsOf 40 = .ok (.iload_n 2, 1) := by decide +kernel
theorem dX6_productsOf_41 : decode cX6_productsOf 41 = .ok (.ireturn, 1) := by decide +kernel
theorem dX6_countLines_0 : decode cX6_countLines 0 = .ok (.iconst 0, 1) := by decide +kernel
theorem dX6_countLines_1 : decode cX6_countLines 1 = .ok (.istore_n 2, 1) := by decide +kernel
theorem dX6_countLines_2 : decode cX6_countLines 2 = .ok (.iconst 0, 1) := by decide +kernel
theorem dX6_countLines_3 : decode cX6_countLines 3 = .ok (.istore_n 3, 1) := by decide +kernel
theorem dX6_countLines_4 : decode cX6_countLines 4 = .ok (.iload_n 3, 1) := by decide +kernel
theorem dX6_countLines_5 : decode cX6_countLines 5 = .ok (.aload_n 0, 1) := by decide +kernel
theorem dX6_countLines_6 : decode cX6_countLines 6 = .ok (.getfield 66, 3) := by decide +kernel
theorem dX6_countLines_9 : decode cX6_countLines 9 = .ok (.if_icmp .ge 32, 3) := by decide +kernel
theorem dX6_countLines_12 : decode cX6_countLines 12 = .ok (.iload_n 2, 1) := by decide +kernel
theorem dX6_countLines_13 : decode cX6_countLines 13 = .ok (.aload_n 0, 1) := by decide +kernel
theorem dX6_countLines_14 : decode cX6_countLines 14 = .ok (.getfield 23, 3) := by decide +kernel
theorem dX6_countLines_17 : decode cX6_countLines 17 = .ok (.iload_n 3, 1) := by decide +kernel
theorem dX6_countLines_18 : decode cX6_countLines 18 = .ok (.iaload, 1) := by decide +kernel
theorem dX6_countLines_19 : decode cX6_countLines 19 = .ok (.iload_n 1, 1) := by decide +kernel
theorem dX6_countLines_20 : decode cX6_countLines 20 = .ok (.if_icmp .ne 12, 3) := by decide +kernel
theorem dX6_countLines_23 : decode cX6_countLines 23 = .ok (.aload_n 0, 1) := by decide +kernel
theorem dX6_countLines_24 : decode cX6_countLines 24 = .ok (.getfield 26, 3) := by decide +kernel
theorem dX6_countLines_27 : decode cX6_countLines 27 = .ok (.iload_n 3, 1) := by decide +kernel
theorem dX6_countLines_28 : decode cX6_countLines 28 = .ok (.iaload, 1) := by decide +kernel
theorem dX6_countLines_29 : decode cX6_countLines 29 = .ok (.goto 4, 3) := by decide +kernel
theorem dX6_countLines_32 : decode cX6_countLines 32 = .ok (.iconst 0, 1) := by decide +kernel
theorem dX6_countLines_33 : decode cX6_countLines 33 = .ok (.iadd, 1) := by decide +kernel
theorem dX6_countLines_34 : decode cX6_countLines 34 = .ok (.istore_n 2, 1) := by decide +kernel
theorem dX6_countLines_35 : decode cX6_countLines 35 = .ok (.iinc 3 1, 3) := by decide +kernel
theorem dX6_countLines_38 : decode cX6_countLines 38 = .ok (.goto (-34), 3) := by decide +kernel
theorem dX6_countLines_41 : decode cX6_countLines 41 = .ok (.iload_n 2, 1) := by decide +kernel
theorem dX6_countLines_42 : decode cX6_countLines 42 = .ok (.ireturn, 1) := by decide +kernel
theorem dX6_closeUp_0 : decode cX6_closeUp 0 = .ok (.iconst 0, 1) := by decide +kernel
theorem dX6_closeUp_1 : decode cX6_closeUp 1 = .ok (.istore_n 2, 1) := by decide +kernel
theorem dX6_closeUp_2 : decode cX6_closeUp 2 = .ok (.iload_n 2, 1) := by decide +kernel
theorem dX6_closeUp_3 : decode cX6_closeUp 3 = .ok (.aload_n 0, 1) := by decide +kernel
theorem dX6_closeUp_4 : decode cX6_closeUp 4 = .ok (.getfield 66, 3) := by decide +kernel
theorem dX6_closeUp_7 : decode cX6_closeUp 7 = .ok (.if_icmp .ge 33, 3) := by decide +kernel
theorem dX6_closeUp_10 : decode cX6_closeUp 10 = .ok (.aload_n 0, 1) := by decide +kernel
theorem dX6_closeUp_11 : decode cX6_closeUp 11 = .ok (.getfield 23, 3) := by decide +kernel
theorem dX6_closeUp_14 : decode cX6_closeUp 14 = .ok (.iload_n 2, 1) := by decide +kernel
theorem dX6_closeUp_15 : decode cX6_closeUp 15 = .ok (.dup2, 1) := by decide +kernel
theorem dX6_closeUp_16 : decode cX6_closeUp 16 = .ok (.iaload, 1) := by decide +kernel
theorem dX6_closeUp_17 : decode cX6_closeUp 17 = .ok (.aload_n 0, 1) := by decide +kernel
theorem dX6_closeUp_18 : decode cX6_closeUp 18 = .ok (.getfield 23, 3) := by decide +kernel
theorem dX6_closeUp_21 : decode cX6_closeUp 21 = .ok (.iload_n 2, 1) := by decide +kernel
theorem dX6_closeUp_22 : decode cX6_closeUp 22 = .ok (.iaload, 1) := by decide +kernel
theorem dX6_closeUp_23 : decode cX6_closeUp 23 = .ok (.iload_n 1, 1) := by decide +kernel
theorem dX6_closeUp_24 : decode cX6_closeUp 24 = .ok (.if_icmp .le 7, 3) := by decide +kernel
theorem dX6_closeUp_27 : decode cX6_closeUp 27 = .ok (.iconst 1, 1) := by decide +kernel
theorem dX6_closeUp_28 : decode cX6_closeUp 28 = .ok (.goto 4, 3) := by decide +kernel
theorem dX6_closeUp_31 : decode cX6_closeUp 31 = .ok (.iconst 0, 1) := by decide +kernel
theorem dX6_closeUp_32 : decode cX6_closeUp 32 = .ok (.isub, 1) := by decide +kernel
theorem dX6_closeUp_33 : decode cX6_closeUp 33 = .ok (.iastore, 1) := by decide +kernel
theorem dX6_closeUp_34 : decode cX6_closeUp 34 = .ok (.iinc 2 1, 3) := by decide +kernel
theorem dX6_closeUp_37 : decode cX6_closeUp 37 = .ok (.goto (-35), 3) := by decide +kernel
theorem dX6_closeUp_40 : decode cX6_closeUp 40 = .ok (.aload_n 0, 1) := by decide +kernel
theorem dX6_closeUp_41 : decode cX6_closeUp 41 = .ok (.dup, 1) := by decide +kernel
theorem dX6_closeUp_42 : decode cX6_closeUp 42 = .ok (.getfield 69, 3) := by decide +kernel
theorem dX6_closeUp_45 : decode cX6_closeUp 45 = .ok (.iconst 1, 1) := by decide +kernel
theorem dX6_closeUp_46 : decode cX6_closeUp 46 = .ok (.isub, 1) := by decide +kernel
theorem dX6_closeUp_47 : decode cX6_closeUp 47 = .ok (.putfield 69, 3) := by decide +kernel
theorem dX6_closeUp_50 : decode cX6_closeUp 50 = .ok (.return_, 1) := by decide +kernel
theorem dX6_joins_0 : decode cX6_joins 0 = .ok (.iconst 0, 1) := by decide +kernel
theorem dX6_joins_1 : decode cX6_joins 1 = .ok (.istore_n 1, 1) := by decide +kernel
theorem dX6_joins_2 : decode cX6_joins 2 = .ok (.iconst (-1), 1) := by decide +kernel
theorem dX6_joins_3 : decode cX6_joins 3 = .ok (.istore_n 2, 1) := by decide +kernel
theorem dX6_joins_4 : decode cX6_joins 4 = .ok (.iconst (-1), 1) := by decide +kernel
theorem dX6_joins_5 : decode cX6_joins 5 = .ok (.istore_n 3, 1) := by decide +kernel
theorem dX6_joins_6 : decode cX6_joins 6 = .ok (.iconst 0, 1) := by decide +kernel
theorem dX6_joins_7 : decode cX6_joins 7 = .ok (.istore 4, 2) := by decide +kernel
theorem dX6_joins_9 : decode cX6_joins 9 = .ok (.iload 4, 2) := by decide +kernel
theorem dX6_joins_11 : decode cX6_joins 11 = .ok (.aload_n 0, 1) := by decide +kernel
theorem dX6_joins_12 : decode cX6_joins 12 = .ok (.getfield 69, 3) := by decide +kernel
theorem dX6_joins_15 : decode cX6_joins 15 = .ok (.if_icmp .ge 130, 3) := by decide +kernel
theorem dX6_joins_18 : decode cX6_joins 18 = .ok (.iload 4, 2) := by decide +kernel
theorem dX6_joins_20 : decode cX6_joins 20 = .ok (.iconst 1, 1) := by decide +kernel
theorem dX6_joins_21 : decode cX6_joins 21 = .ok (.iadd, 1) := by decide +kernel
theorem dX6_joins_22 : decode cX6_joins 22 = .ok (.istore 5, 2) := by decide +kernel
theorem dX6_joins_24 : decode cX6_joins 24 = .ok (.iload 5, 2) := by decide +kernel
theorem dX6_joins_26 : decode cX6_joins 26 = .ok (.aload_n 0, 1) := by decide +kernel
theorem dX6_joins_27 : decode cX6_joins 27 = .ok (.getfield 69, 3) := by decide +kernel
theorem dX6_joins_30 : decode cX6_joins 30 = .ok (.if_icmp .ge 109, 3) := by decide +kernel
theorem dX6_joins_33 : decode cX6_joins 33 = .ok (.aload_n 0, 1) := by decide +kernel
theorem dX6_joins_34 : decode cX6_joins 34 = .ok (.iload 4, 2) := by decide +kernel
theorem dX6_joins_36 : decode cX6_joins 36 = .ok (.invokevirtual 117, 3) := by decide +kernel
theorem dX6_joins_39 : decode cX6_joins 39 = .ok (.aload_n 0, 1) := by decide +kernel
theorem dX6_joins_40 : decode cX6_joins 40 = .ok (.iload 5, 2) := by decide +kernel
theorem dX6_joins_42 : decode cX6_joins 42 = .ok (.invokevirtual 117, 3) := by decide +kernel
theorem dX6_joins_45 : decode cX6_joins 45 = .ok (.iadd, 1) := by decide +kernel
theorem dX6_joins_46 : decode cX6_joins 46 = .ok (.aload_n 0, 1) := by decide +kernel
theorem dX6_joins_47 : decode cX6_joins 47 = .ok (.getfield 7, 3) := by decide +kernel
theorem dX6_joins_50 : decode cX6_joins 50 = .ok (.if_icmp .gt 83, 3) := by decide +kernel
theorem dX6_joins_53 : decode cX6_joins 53 = .ok (.aload_n 0, 1) := by decide +kernel
theorem dX6_joins_54 : decode cX6_joins 54 = .ok (.aload_n 0, 1) := by decide +kernel
theorem dX6_joins_55 : decode cX6_joins 55 = .ok (.iload 4, 2) := by decide +kernel
theorem dX6_joins_57 : decode cX6_joins 57 = .ok (.invokevirtual 120, 3) := by decide +kernel
theorem dX6_joins_60 : decode cX6_joins 60 = .ok (.invokevirtual 114, 3) := by decide +kernel
theorem dX6_joins_63 : decode cX6_joins 63 = .ok (.aload_n 0, 1) := by decide +kernel
theorem dX6_joins_64 : decode cX6_joins 64 = .ok (.aload_n 0, 1) := by decide +kernel
theorem dX6_joins_65 : decode cX6_joins 65 = .ok (.iload 5, 2) := by decide +kernel
theorem dX6_joins_67 : decode cX6_joins 67 = .ok (.invokevirtual 120, 3) := by decide +kernel
theorem dX6_joins_70 : decode cX6_joins 70 = .ok (.invokevirtual 114, 3) := by decide +kernel
theorem dX6_joins_73 : decode cX6_joins 73 = .ok (.iadd, 1) := by decide +kernel
theorem dX6_joins_74 : decode cX6_joins 74 = .ok (.aload_n 0, 1) := by decide +kernel
theorem dX6_joins_75 : decode cX6_joins 75 = .ok (.aload_n 0, 1) := by decide +kernel
theorem dX6_joins_76 : decode cX6_joins 76 = .ok (.iload 4, 2) := by decide +kernel
theorem dX6_joins_78 : decode cX6_joins 78 = .ok (.invokevirtual 120, 3) := by decide +kernel
theorem dX6_joins_81 : decode cX6_joins 81 = .ok (.aload_n 0, 1) := by decide +kernel
theorem dX6_joins_82 : decode cX6_joins 82 = .ok (.iload 5, 2) := by decide +kernel
theorem dX6_joins_84 : decode cX6_joins 84 = .ok (.invokevirtual 120, 3) := by decide +kernel
theorem dX6_joins_87 : decode cX6_joins 87 = .ok (.ior, 1) := by decide +kernel
theorem dX6_joins_88 : decode cX6_joins 88 = .ok (.invokevirtual 114, 3) := by decide +kernel
theorem dX6_joins_91 : decode cX6_joins 91 = .ok (.isub, 1) := by decide +kernel
theorem dX6_joins_92 : decode cX6_joins 92 = .ok (.istore 6, 2) := by decide +kernel
theorem dX6_joins_94 : decode cX6_joins 94 = .ok (.iload 6, 2) := by decide +kernel
theorem dX6_joins_96 : decode cX6_joins 96 = .ok (.iload_n 1, 1) := by decide +kernel
theorem dX6_joins_97 : decode cX6_joins 97 = .ok (.if_icmp .le 8, 3) := by decide +kernel
theorem dX6_joins_100 : decode cX6_joins 100 = .ok (.iload 4, 2) := by decide +kernel
theorem dX6_joins_102 : decode cX6_joins 102 = .ok (.goto 4, 3) := by decide +kernel
theorem dX6_joins_105 : decode cX6_joins 105 = .ok (.iload_n 2, 1) := by decide +kernel
theorem dX6_joins_106 : decode cX6_joins 106 = .ok (.istore_n 2, 1) := by decide +kernel
theorem dX6_joins_107 : decode cX6_joins 107 = .ok (.iload 6, 2) := by decide +kernel
theorem dX6_joins_109 : decode cX6_joins 109 = .ok (.iload_n 1, 1) := by decide +kernel
theorem dX6_joins_110 : decode cX6_joins 110 = .ok (.if_icmp .le 8, 3) := by decide +kernel
theorem dX6_joins_113 : decode cX6_joins 113 = .ok (.iload 5, 2) := by decide +kernel
theorem dX6_joins_115 : decode cX6_joins 115 = .ok (.goto 4, 3) := by decide +kernel
theorem dX6_joins_118 : decode cX6_joins 118 = .ok (.iload_n 3, 1) := by decide +kernel
theorem dX6_joins_119 : decode cX6_joins 119 = .ok (.istore_n 3, 1) := by decide +kernel
theorem dX6_joins_120 : decode cX6_joins 120 = .ok (.iload 6, 2) := by decide +kernel
theorem dX6_joins_122 : decode cX6_joins 122 = .ok (.iload_n 1, 1) := by decide +kernel
theorem dX6_joins_123 : decode cX6_joins 123 = .ok (.if_icmp .le 8, 3) := by decide +kernel
theorem dX6_joins_126 : decode cX6_joins 126 = .ok (.iload 6, 2) := by decide +kernel
theorem dX6_joins_128 : decode cX6_joins 128 = .ok (.goto 4, 3) := by decide +kernel
theorem dX6_joins_131 : decode cX6_joins 131 = .ok (.iload_n 1, 1) := by decide +kernel
theorem dX6_joins_132 : decode cX6_joins 132 = .ok (.istore_n 1, 1) := by decide +kernel
theorem dX6_joins_133 : decode cX6_joins 133 = .ok (.iinc 5 1, 3) := by decide +kernel
theorem dX6_joins_136 : decode cX6_joins 136 = .ok (.goto (-112), 3) := by decide +kernel
theorem dX6_joins_139 : decode cX6_joins 139 = .ok (.iinc 4 1, 3) := by decide +kernel
theorem dX6_joins_142 : decode cX6_joins 142 = .ok (.goto (-133), 3) := by decide +kernel
theorem dX6_joins_145 : decode cX6_joins 145 = .ok (.iconst 0, 1) := by decide +kernel
theorem dX6_joins_146 : decode cX6_joins 146 = .ok (.istore 4, 2) := by decide +kernel
theorem dX6_joins_148 : decode cX6_joins 148 = .ok (.iload 4, 2) := by decide +kernel
theorem dX6_joins_150 : decode cX6_joins 150 = .ok (.aload_n 0, 1) := by decide +kernel
theorem dX6_joins_151 : decode cX6_joins 151 = .ok (.getfield 66, 3) := by decide +kernel
theorem dX6_joins_154 : decode cX6_joins 154 = .ok (.if_icmp .ge 42, 3) := by decide +kernel
theorem dX6_joins_157 : decode cX6_joins 157 = .ok (.iload_n 1, 1) := by decide +kernel
theorem dX6_joins_158 : decode cX6_joins 158 = .ok (.ifCond .le 38, 3) := by decide +kernel
theorem dX6_joins_161 : decode cX6_joins 161 = .ok (.aload_n 0, 1) := by decide +kernel
theorem dX6_joins_162 : decode cX6_joins 162 = .ok (.getfield 23, 3) := by decide +kernel
theorem dX6_joins_165 : decode cX6_joins 165 = .ok (.iload 4, 2) := by decide +kernel
theorem dX6_joins_167 : decode cX6_joins 167 = .ok (.aload_n 0, 1) := by decide +kernel
theorem dX6_joins_168 : decode cX6_joins 168 = .ok (.getfield 23, 3) := by decide +kernel
theorem dX6_joins_171 : decode cX6_joins 171 = .ok (.iload 4, 2) := by decide +kernel
theorem dX6_joins_173 : decode cX6_joins 173 = .ok (.iaload, 1) := by decide +kernel
theorem dX6_joins_174 : decode cX6_joins 174 = .ok (.iload_n 3, 1) := by decide +kernel
theorem dX6_joins_175 : decode cX6_joins 175 = .ok (.if_icmp .ne 7, 3) := by decide +kernel
theorem dX6_joins_178 : decode cX6_joins 178 = .ok (.iload_n 2, 1) := by decide +kernel
theorem dX6_joins_179 : decode cX6_joins 179 = .ok (.goto 10, 3) := by decide +kernel
theorem dX6_joins_182 : decode cX6_joins 182 = .ok (.aload_n 0, 1) := by decide +kernel
theorem dX6_joins_183 : decode cX6_joins 183 = .ok (.getfield 23, 3) := by decide +kernel
theorem dX6_joins_186 : decode cX6_joins 186 = .ok (.iload 4, 2) := by decide +kernel
theorem dX6_joins_188 : decode cX6_joins 188 = .ok (.iaload, 1) := by decide +kernel
theorem dX6_joins_189 : decode cX6_joins 189 = .ok (.iastore, 1) := by decide +kernel
theorem dX6_joins_190 : decode cX6_joins 190 = .ok (.iinc 4 1, 3) := by decide +kernel
theorem dX6_joins_193 : decode cX6_joins 193 = .ok (.goto (-45), 3) := by decide +kernel
theorem dX6_joins_196 : decode cX6_joins 196 = .ok (.iload_n 1, 1) := by decide +kernel
theorem dX6_joins_197 : decode cX6_joins 197 = .ok (.ifCond .le 8, 3) := by decide +kernel
theorem dX6_joins_200 : decode cX6_joins 200 = .ok (.aload_n 0, 1) := by decide +kernel
theorem dX6_joins_201 : decode cX6_joins 201 = .ok (.iload_n 3, 1) := by decide +kernel
theorem dX6_joins_202 : decode cX6_joins 202 = .ok (.invokevirtual 123, 3) := by decide +kernel
theorem dX6_joins_205 : decode cX6_joins 205 = .ok (.iload_n 1, 1) := by decide +kernel
theorem dX6_joins_206 : decode cX6_joins 206 = .ok (.ifCond .le 7, 3) := by decide +kernel
theorem dX6_joins_209 : decode cX6_joins 209 = .ok (.iconst 1, 1) := by decide +kernel
theorem dX6_joins_210 : decode cX6_joins 210 = .ok (.goto 4, 3) := by decide +kernel
theorem dX6_joins_213 : decode cX6_joins 213 = .ok (.iconst 0, 1) := by decide +kernel
theorem dX6_joins_214 : decode cX6_joins 214 = .ok (.ireturn, 1) := by decide +kernel
theorem dX6_planWave_0 : decode cX6_planWave 0 = .ok (.aload_n 0, 1) := by decide +kernel
theorem dX6_planWave_1 : decode cX6_planWave 1 = .ok (.iconst 0, 1) := by decide +kernel
theorem dX6_planWave_2 : decode cX6_planWave 2 = .ok (.putfield 59, 3) := by decide +kernel
theorem dX6_planWave_5 : decode cX6_planWave 5 = .ok (.iload_n 1, 1) := by decide +kernel
theorem dX6_planWave_6 : decode cX6_planWave 6 = .ok (.iconst 0, 1) := by decide +kernel
theorem dX6_planWave_7 : decode cX6_planWave 7 = .ok (.sipush 999, 3) := by decide +kernel
theorem dX6_planWave_10 : decode cX6_planWave 10 = .ok (.invokestatic 62, 3) := by decide +kernel
theorem dX6_planWave_13 : decode cX6_planWave 13 = .ok (.ifCond .ne 9, 3) := by decide +kernel
theorem dX6_planWave_16 : decode cX6_planWave 16 = .ok (.aload_n 0, 1) := by decide +kernel
theorem dX6_planWave_17 : decode cX6_planWave 17 = .ok (.iconst 1, 1) := by decide +kernel
theorem dX6_planWave_18 : decode cX6_planWave 18 = .ok (.invokevirtual 94, 3) := by decide +kernel
theorem dX6_planWave_21 : decode cX6_planWave 21 = .ok (.ireturn, 1) := by decide +kernel
theorem dX6_planWave_22 : decode cX6_planWave 22 = .ok (.iconst 0, 1) := by decide +kernel
theorem dX6_planWave_23 : decode cX6_planWave 23 = .ok (.istore_n 2, 1) := by decide +kernel
theorem dX6_planWave_24 : decode cX6_planWave 24 = .ok (.iconst 0, 1) := by decide +kernel
theorem dX6_planWave_25 : decode cX6_planWave 25 = .ok (.istore_n 3, 1) := by decide +kernel
theorem dX6_planWave_26 : decode cX6_planWave 26 = .ok (.iload_n 3, 1) := by decide +kernel
theorem dX6_planWave_27 : decode cX6_planWave 27 = .ok (.aload_n 0, 1) := by decide +kernel
theorem dX6_planWave_28 : decode cX6_planWave 28 = .ok (.getfield 66, 3) := by decide +kernel
theorem dX6_planWave_31 : decode cX6_planWave 31 = .ok (.if_icmp .ge 45, 3) := by decide +kernel
theorem dX6_planWave_34 : decode cX6_planWave 34 = .ok (.iload_n 2, 1) := by decide +kernel
theorem dX6_planWave_35 : decode cX6_planWave 35 = .ok (.aload_n 0, 1) := by decide +kernel
theorem dX6_planWave_36 : decode cX6_planWave 36 = .ok (.getfield 20, 3) := by decide +kernel
theorem dX6_planWave_39 : decode cX6_planWave 39 = .ok (.iload_n 3, 1) := by decide +kernel
theorem dX6_planWave_40 : decode cX6_planWave 40 = .ok (.iaload, 1) := by decide +kernel
theorem dX6_planWave_41 : decode cX6_planWave 41 = .ok (.ifCond .ne 26, 3) := by decide +kernel
theorem dX6_planWave_44 : decode cX6_planWave 44 = .ok (.aload_n 0, 1) := by decide +kernel
theorem dX6_planWave_45 : decode cX6_planWave 45 = .ok (.getfield 26, 3) := by decide +kernel
theorem dX6_planWave_48 : decode cX6_planWave 48 = .ok (.iload_n 3, 1) := by decide +kernel
theorem dX6_planWave_49 : decode cX6_planWave 49 = .ok (.iaload, 1) := by decide +kernel
theorem dX6_planWave_50 : decode cX6_planWave 50 = .ok (.ifCond .le 17, 3) := by decide +kernel
theorem dX6_planWave_53 : decode cX6_planWave 53 = .ok (.aload_n 0, 1) := by decide +kernel
theorem dX6_planWave_54 : decode cX6_planWave 54 = .ok (.getfield 17, 3) := by decide +kernel
theorem dX6_planWave_57 : decode cX6_planWave 57 = .ok (.iload_n 3, 1) := by decide +kernel
theorem dX6_planWave_58 : decode cX6_planWave 58 = .ok (.iaload, 1) := by decide +kernel
theorem dX6_planWave_59 : decode cX6_planWave 59 = .ok (.iload_n 1, 1) := by decide +kernel
theorem dX6_planWave_60 : decode cX6_planWave 60 = .ok (.if_icmp .gt 7, 3) := by decide +kernel
theorem dX6_planWave_63 : decode cX6_planWave 63 = .ok (.iconst 1, 1) := by decide +kernel
theorem dX6_planWave_64 : decode cX6_planWave 64 = .ok (.goto 4, 3) := by decide +kernel
theorem dX6_planWave_67 : decode cX6_planWave 67 = .ok (.iconst 0, 1) := by decide +kernel
theorem dX6_planWave_68 : decode cX6_planWave 68 = .ok (.iadd, 1) := by decide +kernel
theorem dX6_planWave_69 : decode cX6_planWave 69 = .ok (.istore_n 2, 1) := by decide +kernel
theorem dX6_planWave_70 : decode cX6_planWave 70 = .ok (.iinc 3 1, 3) := by decide +kernel
theorem dX6_planWave_73 : decode cX6_planWave 73 = .ok (.goto (-47), 3) := by decide +kernel
theorem dX6_planWave_76 : decode cX6_planWave 76 = .ok (.aload_n 0, 1) := by decide +kernel
theorem dX6_planWave_77 : decode cX6_planWave 77 = .ok (.getfield 69, 3) := by decide +kernel
theorem dX6_planWave_80 : decode cX6_planWave 80 = .ok (.ifCond .gt 7, 3) := by decide +kernel
theorem dX6_planWave_83 : decode cX6_planWave 83 = .ok (.iload_n 2, 1) := by decide +kernel
theorem dX6_planWave_84 : decode cX6_planWave 84 = .ok (.ifCond .ne 9, 3) := by decide +kernel
theorem dX6_planWave_87 : decode cX6_planWave 87 = .ok (.aload_n 0, 1) := by decide +kernel
theorem dX6_planWave_88 : decode cX6_planWave 88 = .ok (.iconst 2, 1) := by decide +kernel
theorem dX6_planWave_89 : decode cX6_planWave 89 = .ok (.invokevirtual 94, 3) := by decide +kernel
theorem dX6_planWave_92 : decode cX6_planWave 92 = .ok (.ireturn, 1) := by decide +kernel
theorem dX6_planWave_93 : decode cX6_planWave 93 = .ok (.iconst 0, 1) := by decide +kernel
theorem dX6_planWave_94 : decode cX6_planWave 94 = .ok (.istore_n 3, 1) := by decide +kernel
theorem dX6_planWave_95 : decode cX6_planWave 95 = .ok (.iload_n 3, 1) := by decide +kernel
theorem dX6_planWave_96 : decode cX6_planWave 96 = .ok (.aload_n 0, 1) := by decide +kernel
theorem dX6_planWave_97 : decode cX6_planWave 97 = .ok (.getfield 66, 3) := by decide +kernel
theorem dX6_planWave_100 : decode cX6_planWave 100 = .ok (.if_icmp .ge 64, 3) := by decide +kernel
theorem dX6_planWave_103 : decode cX6_planWave 103 = .ok (.aload_n 0, 1) := by decide +kernel
theorem dX6_planWave_104 : decode cX6_planWave 104 = .ok (.getfield 20, 3) := by decide +kernel
theorem dX6_planWave_107 : decode cX6_planWave 107 = .ok (.iload_n 3, 1) := by decide +kernel
theorem dX6_planWave_108 : decode cX6_planWave 108 = .ok (.iaload, 1) := by decide +kernel
theorem dX6_planWave_109 : decode cX6_planWave 109 = .ok (.ifCond .ne 49, 3) := by decide +kernel
theorem dX6_planWave_112 : decode cX6_planWave 112 = .ok (.aload_n 0, 1) := by decide +kernel
theorem dX6_planWave_113 : decode cX6_planWave 113 = .ok (.getfield 26, 3) := by decide +kernel
theorem dX6_planWave_116 : decode cX6_planWave 116 = .ok (.iload_n 3, 1) := by decide +kernel
theorem dX6_planWave_117 : decode cX6_planWave 117 = .ok (.iaload, 1) := by decide +kernel
theorem dX6_planWave_118 : decode cX6_planWave 118 = .ok (.ifCond .le 40, 3) := by decide +kernel
theorem dX6_planWave_121 : decode cX6_planWave 121 = .ok (.aload_n 0, 1) := by decide +kernel
theorem dX6_planWave_122 : decode cX6_planWave 122 = .ok (.getfield 17, 3) := by decide +kernel
theorem dX6_planWave_125 : decode cX6_planWave 125 = .ok (.iload_n 3, 1) := by decide +kernel
theorem dX6_planWave_126 : decode cX6_planWave 126 = .ok (.iaload, 1) := by decide +kernel
theorem dX6_planWave_127 : decode cX6_planWave 127 = .ok (.iload_n 1, 1) := by decide +kernel
theorem dX6_planWave_128 : decode cX6_planWave 128 = .ok (.if_icmp .gt 30, 3) := by decide +kernel
theorem dX6_planWave_131 : decode cX6_planWave 131 = .ok (.aload_n 0, 1) := by decide +kernel
theorem dX6_planWave_132 : decode cX6_planWave 132 = .ok (.getfield 20, 3) := by decide +kernel
theorem dX6_planWave_135 : decode cX6_planWave 135 = .ok (.iload_n 3, 1) := by decide +kernel
theorem dX6_planWave_136 : decode cX6_planWave 136 = .ok (.iconst 1, 1) := by decide +kernel
theorem dX6_planWave_137 : decode cX6_planWave 137 = .ok (.iastore, 1) := by decide +kernel
theorem dX6_planWave_138 : decode cX6_planWave 138 = .ok (.aload_n 0, 1) := by decide +kernel
theorem dX6_planWave_139 : decode cX6_planWave 139 = .ok (.getfield 23, 3) := by decide +kernel
theorem dX6_planWave_142 : decode cX6_planWave 142 = .ok (.iload_n 3, 1) := by decide +kernel
theorem dX6_planWave_143 : decode cX6_planWave 143 = .ok (.aload_n 0, 1) := by decide +kernel
theorem dX6_planWave_144 : decode cX6_planWave 144 = .ok (.getfield 69, 3) := by decide +kernel
theorem dX6_planWave_147 : decode cX6_planWave 147 = .ok (.iastore, 1) := by decide +kernel
theorem dX6_planWave_148 : decode cX6_planWave 148 = .ok (.aload_n 0, 1) := by decide +kernel
theorem dX6_planWave_149 : decode cX6_planWave 149 = .ok (.dup, 1) := by decide +kernel
theorem dX6_planWave_150 : decode cX6_planWave 150 = .ok (.getfield 69, 3) := by decide +kernel
theorem dX6_planWave_153 : decode cX6_planWave 153 = .ok (.iconst 1, 1) := by decide +kernel
theorem dX6_planWave_154 : decode cX6_planWave 154 = .ok (.iadd, 1) := by decide +kernel
theorem dX6_planWave_155 : decode cX6_planWave 155 = .ok (.putfield 69, 3) := by decide +kernel
theorem dX6_planWave_158 : decode cX6_planWave 158 = .ok (.iinc 3 1, 3) := by decide +kernel
theorem dX6_planWave_161 : decode cX6_planWave 161 = .ok (.goto (-66), 3) := by decide +kernel
theorem dX6_planWave_164 : decode cX6_planWave 164 = .ok (.iconst 1, 1) := by decide +kernel
theorem dX6_planWave_165 : decode cX6_planWave 165 = .ok (.istore_n 3, 1) := by decide +kernel
theorem dX6_planWave_166 : decode cX6_planWave 166 = .ok (.iload_n 3, 1) := by decide +kernel
theorem dX6_planWave_167 : decode cX6_planWave 167 = .ok (.ifCond .eq 11, 3) := by decide +kernel
theorem dX6_planWave_170 : decode cX6_planWave 170 = .ok (.aload_n 0, 1) := by decide +kernel
theorem dX6_planWave_171 : decode cX6_planWave 171 = .ok (.invokevirtual 126, 3) := by decide +kernel
theorem dX6_planWave_174 : decode cX6_planWave 174 = .ok (.istore_n 3, 1) := by decide +kernel
theorem dX6_planWave_175 : decode cX6_planWave 175 = .ok (.goto (-9), 3) := by decide +kernel
theorem dX6_planWave_178 : decode cX6_planWave 178 = .ok (.aload_n 0, 1) := by decide +kernel
theorem dX6_planWave_179 : decode cX6_planWave 179 = .ok (.getfield 69, 3) := by decide +kernel
theorem dX6_planWave_182 : decode cX6_planWave 182 = .ok (.ireturn, 1) := by decide +kernel
theorem dX6_pick_0 : decode cX6_pick 0 = .ok (.aload_n 0, 1) := by decide +kernel
theorem dX6_pick_1 : decode cX6_pick 1 = .ok (.iconst 0, 1) := by decide +kernel
theorem dX6_pick_2 : decode cX6_pick 2 = .ok (.putfield 59, 3) := by decide +kernel
theorem dX6_pick_5 : decode cX6_pick 5 = .ok (.aload_n 0, 1) := by decide +kernel
theorem dX6_pick_6 : decode cX6_pick 6 = .ok (.iload_n 1, 1) := by decide +kernel
theorem dX6_pick_7 : decode cX6_pick 7 = .ok (.invokevirtual 130, 3) := by decide +kernel
theorem dX6_pick_10 : decode cX6_pick 10 = .ok (.ifCond .ne 9, 3) := by decide +kernel
theorem dX6_pick_13 : decode cX6_pick 13 = .ok (.aload_n 0, 1) := by decide +kernel
theorem dX6_pick_14 : decode cX6_pick 14 = .ok (.iconst 1, 1) := by decide +kernel
theorem dX6_pick_15 : decode cX6_pick 15 = .ok (.invokevirtual 94, 3) := by decide +kernel
theorem dX6_pick_18 : decode cX6_pick 18 = .ok (.ireturn, 1) := by decide +kernel
theorem dX6_pick_19 : decode cX6_pick 19 = .ok (.aload_n 0, 1) := by decide +kernel
theorem dX6_pick_20 : decode cX6_pick 20 = .ok (.aload_n 0, 1) := by decide +kernel
theorem dX6_pick_21 : decode cX6_pick 21 = .ok (.iload_n 1, 1) := by decide +kernel
theorem dX6_pick_22 : decode cX6_pick 22 = .ok (.invokevirtual 120, 3) := by decide +kernel
theorem dX6_pick_25 : decode cX6_pick 25 = .ok (.invokevirtual 114, 3) := by decide +kernel
theorem dX6_pick_28 : decode cX6_pick 28 = .ok (.istore_n 2, 1) := by decide +kernel
theorem dX6_pick_29 : decode cX6_pick 29 = .ok (.iconst 0, 1) := by decide +kernel
theorem dX6_pick_30 : decode cX6_pick 30 = .ok (.istore_n 3, 1) := by decide +kernel
theorem dX6_pick_31 : decode cX6_pick 31 = .ok (.iload_n 3, 1) := by decide +kernel
theorem dX6_pick_32 : decode cX6_pick 32 = .ok (.aload_n 0, 1) := by decide +kernel
theorem dX6_pick_33 : decode cX6_pick 33 = .ok (.getfield 66, 3) := by decide +kernel
theorem dX6_pick_36 : decode cX6_pick 36 = .ok (.if_icmp .ge 52, 3) := by decide +kernel
theorem dX6_pick_39 : decode cX6_pick 39 = .ok (.aload_n 0, 1) := by decide +kernel
theorem dX6_pick_40 : decode cX6_pick 40 = .ok (.getfield 23, 3) := by decide +kernel
theorem dX6_pick_43 : decode cX6_pick 43 = .ok (.iload_n 3, 1) := by decide +kernel
theorem dX6_pick_44 : decode cX6_pick 44 = .ok (.iaload, 1) := by decide +kernel
theorem dX6_pick_45 : decode cX6_pick 45 = .ok (.iload_n 1, 1) := by decide +kernel
theorem dX6_pick_46 : decode cX6_pick 46 = .ok (.if_icmp .ne 36, 3) := by decide +kernel
theorem dX6_pick_49 : decode cX6_pick 49 = .ok (.aload_n 0, 1) := by decide +kernel
theorem dX6_pick_50 : decode cX6_pick 50 = .ok (.dup, 1) := by decide +kernel
theorem dX6_pick_51 : decode cX6_pick 51 = .ok (.getfield 133, 3) := by decide +kernel
theorem dX6_pick_54 : decode cX6_pick 54 = .ok (.aload_n 0, 1) := by decide +kernel
theorem dX6_pick_55 : decode cX6_pick 55 = .ok (.aload_n 0, 1) := by decide +kernel
theorem dX6_pick_56 : decode cX6_pick 56 = .ok (.iload_n 3, 1) := by decide +kernel
theorem dX6_pick_57 : decode cX6_pick 57 = .ok (.invokevirtual 111, 3) := by decide +kernel
theorem dX6_pick_60 : decode cX6_pick 60 = .ok (.invokevirtual 114, 3) := by decide +kernel
theorem dX6_pick_63 : decode cX6_pick 63 = .ok (.i2l, 1) := by decide +kernel
theorem dX6_pick_64 : decode cX6_pick 64 = .ok (.ladd, 1) := by decide +kernel
theorem dX6_pick_65 : decode cX6_pick 65 = .ok (.putfield 133, 3) := by decide +kernel
theorem dX6_pick_68 : decode cX6_pick 68 = .ok (.aload_n 0, 1) := by decide +kernel
theorem dX6_pick_69 : decode cX6_pick 69 = .ok (.getfield 20, 3) := by decide +kernel
theorem dX6_pick_72 : decode cX6_pick 72 = .ok (.iload_n 3, 1) := by decide +kernel
theorem dX6_pick_73 : decode cX6_pick 73 = .ok (.iconst 2, 1) := by decide +kernel
theorem dX6_pick_74 : decode cX6_pick 74 = .ok (.iastore, 1) := by decide +kernel
theorem dX6_pick_75 : decode cX6_pick 75 = .ok (.aload_n 0, 1) := by decide +kernel
theorem dX6_pick_76 : decode cX6_pick 76 = .ok (.getfield 23, 3) := by decide +kernel
theorem dX6_pick_79 : decode cX6_pick 79 = .ok (.iload_n 3, 1) := by decide +kernel
theorem dX6_pick_80 : decode cX6_pick 80 = .ok (.iconst (-1), 1) := by decide +kernel
theorem dX6_pick_81 : decode cX6_pick 81 = .ok (.iastore, 1) := by decide +kernel
theorem dX6_pick_82 : decode cX6_pick 82 = .ok (.iinc 3 1, 3) := by decide +kernel
theorem dX6_pick_85 : decode cX6_pick 85 = .ok (.goto (-54), 3) := by decide +kernel
theorem dX6_pick_88 : decode cX6_pick 88 = .ok (.aload_n 0, 1) := by decide +kernel
theorem dX6_pick_89 : decode cX6_pick 89 = .ok (.dup, 1) := by decide +kernel
theorem dX6_pick_90 : decode cX6_pick 90 = .ok (.getfield 137, 3) := by decide +kernel
theorem dX6_pick_93 : decode cX6_pick 93 = .ok (.iload_n 2, 1) := by decide +kernel
theorem dX6_pick_94 : decode cX6_pick 94 = .ok (.iadd, 1) := by decide +kernel
theorem dX6_pick_95 : decode cX6_pick 95 = .ok (.putfield 137, 3) := by decide +kernel
theorem dX6_pick_98 : decode cX6_pick 98 = .ok (.aload_n 0, 1) := by decide +kernel
theorem dX6_pick_99 : decode cX6_pick 99 = .ok (.iload_n 1, 1) := by decide +kernel
theorem dX6_pick_100 : decode cX6_pick 100 = .ok (.invokevirtual 123, 3) := by decide +kernel
theorem dX6_pick_103 : decode cX6_pick 103 = .ok (.iload_n 2, 1) := by decide +kernel
theorem dX6_pick_104 : decode cX6_pick 104 = .ok (.ireturn, 1) := by decide +kernel
theorem dX6_batches_0 : decode cX6_batches 0 = .ok (.aload_n 0, 1) := by decide +kernel
theorem dX6_batches_1 : decode cX6_batches 1 = .ok (.iconst 0, 1) := by decide +kernel
theorem dX6_batches_2 : decode cX6_batches 2 = .ok (.putfield 59, 3) := by decide +kernel
theorem dX6_batches_5 : decode cX6_batches 5 = .ok (.aload_n 0, 1) := by decide +kernel
theorem dX6_batches_6 : decode cX6_batches 6 = .ok (.getfield 69, 3) := by decide +kernel
theorem dX6_batches_9 : decode cX6_batches 9 = .ok (.ireturn, 1) := by decide +kernel
theorem dX6_batchOf_0 : decode cX6_batchOf 0 = .ok (.aload_n 0, 1) := by decide +kernel
theorem dX6_batchOf_1 : decode cX6_batchOf 1 = .ok (.iconst 0, 1) := by decide +kernel
theorem dX6_batchOf_2 : decode cX6_batchOf 2 = .ok (.putfield 59, 3) := by decide +kernel
theorem dX6_batchOf_5 : decode cX6_batchOf 5 = .ok (.aload_n 0, 1) := by decide +kernel
theorem dX6_batchOf_6 : decode cX6_batchOf 6 = .ok (.iload_n 1, 1) := by decide +kernel
theorem dX6_batchOf_7 : decode cX6_batchOf 7 = .ok (.invokevirtual 108, 3) := by decide +kernel
theorem dX6_batchOf_10 : decode cX6_batchOf 10 = .ok (.ifCond .eq 12, 3) := by decide +kernel
theorem dX6_batchOf_13 : decode cX6_batchOf 13 = .ok (.aload_n 0, 1) := by decide +kernel
theorem dX6_batchOf_14 : decode cX6_batchOf 14 = .ok (.getfield 23, 3) := by decide +kernel
theorem dX6_batchOf_17 : decode cX6_batchOf 17 = .ok (.iload_n 1, 1) := by decide +kernel
theorem dX6_batchOf_18 : decode cX6_batchOf 18 = .ok (.iaload, 1) := by decide +kernel
theorem dX6_batchOf_19 : decode cX6_batchOf 19 = .ok (.goto 8, 3) := by decide +kernel
theorem dX6_batchOf_22 : decode cX6_batchOf 22 = .ok (.aload_n 0, 1) := by decide +kernel
theorem dX6_batchOf_23 : decode cX6_batchOf 23 = .ok (.iconst 1, 1) := by decide +kernel
theorem dX6_batchOf_24 : decode cX6_batchOf 24 = .ok (.invokevirtual 94, 3) := by decide +kernel
theorem dX6_batchOf_27 : decode cX6_batchOf 27 = .ok (.ireturn, 1) := by decide +kernel
theorem dX6_linesOf_0 : decode cX6_linesOf 0 = .ok (.aload_n 0, 1) := by decide +kernel
theorem dX6_linesOf_1 : decode cX6_linesOf 1 = .ok (.iconst 0, 1) := by decide +kernel
theorem dX6_linesOf_2 : decode cX6_linesOf 2 = .ok (.putfield 59, 3) := by decide +kernel
theorem dX6_linesOf_5 : decode cX6_linesOf 5 = .ok (.aload_n 0, 1) := by decide +kernel
theorem dX6_linesOf_6 : decode cX6_linesOf 6 = .ok (.iload_n 1, 1) := by decide +kernel
theorem dX6_linesOf_7 : decode cX6_linesOf 7 = .ok (.invokevirtual 130, 3) := by decide +kernel
theorem dX6_linesOf_10 : decode cX6_linesOf 10 = .ok (.ifCond .eq 11, 3) := by decide +kernel
theorem dX6_linesOf_13 : decode cX6_linesOf 13 = .ok (.aload_n 0, 1) := by decide +kernel
theorem dX6_linesOf_14 : decode cX6_linesOf 14 = .ok (.iload_n 1, 1) := by decide +kernel
theorem dX6_linesOf_15 : decode cX6_linesOf 15 = .ok (.invokevirtual 117, 3) := by decide +kernel
theorem dX6_linesOf_18 : decode cX6_linesOf 18 = .ok (.goto 8, 3) := by decide +kernel
theorem dX6_linesOf_21 : decode cX6_linesOf 21 = .ok (.aload_n 0, 1) := by decide +kernel
theorem dX6_linesOf_22 : decode cX6_linesOf 22 = .ok (.iconst 1, 1) := by decide +kernel
theorem dX6_linesOf_23 : decode cX6_linesOf 23 = .ok (.invokevirtual 94, 3) := by decide +kernel
theorem dX6_linesOf_26 : decode cX6_linesOf 26 = .ok (.ireturn, 1) := by decide +kernel
theorem dX6_lengthOf_0 : decode cX6_lengthOf 0 = .ok (.aload_n 0, 1) := by decide +kernel
theorem dX6_lengthOf_1 : decode cX6_lengthOf 1 = .ok (.iconst 0, 1) := by decide +kernel
theorem dX6_lengthOf_2 : decode cX6_lengthOf 2 = .ok (.putfield 59, 3) := by decide +kernel
theorem dX6_lengthOf_5 : decode cX6_lengthOf 5 = .ok (.aload_n 0, 1) := by decide +kernel
theorem dX6_lengthOf_6 : decode cX6_lengthOf 6 = .ok (.iload_n 1, 1) := by decide +kernel
theorem dX6_lengthOf_7 : decode cX6_lengthOf 7 = .ok (.invokevirtual 130, 3) := by decide +kernel
theorem dX6_lengthOf_10 : decode cX6_lengthOf 10 = .ok (.ifCond .eq 15, 3) := by decide +kernel
theorem dX6_lengthOf_13 : decode cX6_lengthOf 13 = .ok (.aload_n 0, 1) := by decide +kernel
theorem dX6_lengthOf_14 : decode cX6_lengthOf 14 = .ok (.aload_n 0, 1) := by decide +kernel
theorem dX6_lengthOf_15 : decode cX6_lengthOf 15 = .ok (.iload_n 1, 1) := by decide +kernel
theorem dX6_lengthOf_16 : decode cX6_lengthOf 16 = .ok (.invokevirtual 120, 3) := by decide +kernel
theorem dX6_lengthOf_19 : decode cX6_lengthOf 19 = .ok (.invokevirtual 114, 3) := by decide +kernel
theorem dX6_lengthOf_22 : decode cX6_lengthOf 22 = .ok (.goto 8, 3) := by decide +kernel
theorem dX6_lengthOf_25 : decode cX6_lengthOf 25 = .ok (.aload_n 0, 1) := by decide +kernel
theorem dX6_lengthOf_26 : decode cX6_lengthOf 26 = .ok (.iconst 1, 1) := by decide +kernel
theorem dX6_lengthOf_27 : decode cX6_lengthOf 27 = .ok (.invokevirtual 94, 3) := by decide +kernel
theorem dX6_lengthOf_30 : decode cX6_lengthOf 30 = .ok (.ireturn, 1) := by decide +kernel
theorem dX6_lengthByTrying_0 : decode cX6_lengthByTrying 0 = .ok (.aload_n 0, 1) := by decide +kernel
theorem dX6_lengthByTrying_1 : decode cX6_lengthByTrying 1 = .ok (.iconst 0, 1) := by decide +kernel
theorem dX6_lengthByTrying_2 : decode cX6_lengthByTrying 2 = .ok (.putfield 59, 3) := by decide +kernel
theorem dX6_lengthByTrying_5 : decode cX6_lengthByTrying 5 = .ok (.aload_n 0, 1) := by decide +kernel
theorem dX6_lengthByTrying_6 : decode cX6_lengthByTrying 6 = .ok (.iload_n 1, 1) := by decide +kernel
theorem dX6_lengthByTrying_7 : decode cX6_lengthByTrying 7 = .ok (.invokevirtual 130, 3) := by decide +kernel
theorem dX6_lengthByTrying_10 : decode cX6_lengthByTrying 10 = .ok (.ifCond .ne 9, 3) := by decide +kernel
theorem dX6_lengthByTrying_13 : decode cX6_lengthByTrying 13 = .ok (.aload_n 0, 1) := by decide +kernel
theorem dX6_lengthByTrying_14 : decode cX6_lengthByTrying 14 = .ok (.iconst 1, 1) := by decide +kernel
theorem dX6_lengthByTrying_15 : decode cX6_lengthByTrying 15 = .ok (.invokevirtual 94, 3) := by decide +kernel
theorem dX6_lengthByTrying_18 : decode cX6_lengthByTrying 18 = .ok (.ireturn, 1) := by decide +kernel
theorem dX6_lengthByTrying_19 : decode cX6_lengthByTrying 19 = .ok (.aload_n 0, 1) := by decide +kernel
theorem dX6_lengthByTrying_20 : decode cX6_lengthByTrying 20 = .ok (.aload_n 0, 1) := by decide +kernel
theorem dX6_lengthByTrying_21 : decode cX6_lengthByTrying 21 = .ok (.iload_n 1, 1) := by decide +kernel
theorem dX6_lengthByTrying_22 : decode cX6_lengthByTrying 22 = .ok (.invokevirtual 120, 3) := by decide +kernel
theorem dX6_lengthByTrying_25 : decode cX6_lengthByTrying 25 = .ok (.invokevirtual 114, 3) := by decide +kernel
theorem dX6_lengthByTrying_28 : decode cX6_lengthByTrying 28 = .ok (.istore_n 2, 1) := by decide +kernel
theorem dX6_lengthByTrying_29 : decode cX6_lengthByTrying 29 = .ok (.aload_n 0, 1) := by decide +kernel
theorem dX6_lengthByTrying_30 : decode cX6_lengthByTrying 30 = .ok (.getfield 76, 3) := by decide +kernel
theorem dX6_lengthByTrying_33 : decode cX6_lengthByTrying 33 = .ok (.bipush 7, 2) := by decide +kernel
theorem dX6_lengthByTrying_35 : decode cX6_lengthByTrying 35 = .ok (.if_icmp .le 11, 3) := by decide +kernel
theorem dX6_lengthByTrying_38 : decode cX6_lengthByTrying 38 = .ok (.aload_n 0, 1) := by decide +kernel
theorem dX6_lengthByTrying_39 : decode cX6_lengthByTrying 39 = .ok (.iconst 2, 1) := by decide +kernel
theorem dX6_lengthByTrying_40 : decode cX6_lengthByTrying 40 = .ok (.invokevirtual 94, 3) := by decide +kernel
theorem dX6_lengthByTrying_43 : decode cX6_lengthByTrying 43 = .ok (.goto 4, 3) := by decide +kernel
theorem dX6_lengthByTrying_46 : decode cX6_lengthByTrying 46 = .ok (.iload_n 2, 1) := by decide +kernel
theorem dX6_lengthByTrying_47 : decode cX6_lengthByTrying 47 = .ok (.ireturn, 1) := by decide +kernel
theorem dX6_farthest_0 : decode cX6_farthest 0 = .ok (.aload_n 0, 1) := by decide +kernel
theorem dX6_farthest_1 : decode cX6_farthest 1 = .ok (.iload_n 1, 1) := by decide +kernel
theorem dX6_farthest_2 : decode cX6_farthest 2 = .ok (.invokevirtual 120, 3) := by decide +kernel
theorem dX6_farthest_5 : decode cX6_farthest 5 = .ok (.istore_n 3, 1) := by decide +kernel
theorem dX6_farthest_6 : decode cX6_farthest 6 = .ok (.iconst 0, 1) := by decide +kernel
theorem dX6_farthest_7 : decode cX6_farthest 7 = .ok (.istore 4, 2) := by decide +kernel
theorem dX6_farthest_9 : decode cX6_farthest 9 = .ok (.iconst 0, 1) := by decide +kernel
theorem dX6_farthest_10 : decode cX6_farthest 10 = .ok (.istore 5, 2) := by decide +kernel
theorem dX6_farthest_12 : decode cX6_farthest 12 = .ok (.iload 5, 2) := by decide +kernel
theorem dX6_farthest_14 : decode cX6_farthest 14 = .ok (.bipush 20, 2) := by decide +kernel
theorem dX6_farthest_16 : decode cX6_farthest 16 = .ok (.if_icmp .ge 77, 3) := by decide +kernel
theorem dX6_farthest_19 : decode cX6_farthest 19 = .ok (.iload_n 3, 1) := by decide +kernel
theorem dX6_farthest_20 : decode cX6_farthest 20 = .ok (.iload 5, 2) := by decide +kernel
theorem dX6_farthest_22 : decode cX6_farthest 22 = .ok (.ishr, 1) := by decide +kernel
theorem dX6_farthest_23 : decode cX6_farthest 23 = .ok (.iconst 1, 1) := by decide +kernel
theorem dX6_farthest_24 : decode cX6_farthest 24 = .ok (.iand, 1) := by decide +kernel
theorem dX6_farthest_25 : decode cX6_farthest 25 = .ok (.iconst 1, 1) := by decide +kernel
theorem dX6_farthest_26 : decode cX6_farthest 26 = .ok (.if_icmp .ne 21, 3) := by decide +kernel
theorem dX6_farthest_29 : decode cX6_farthest 29 = .ok (.aload_n 0, 1) := by decide +kernel
theorem dX6_farthest_30 : decode cX6_farthest 30 = .ok (.getfield 13, 3) := by decide +kernel
theorem dX6_farthest_33 : decode cX6_farthest 33 = .ok (.iload 5, 2) := by decide +kernel
theorem dX6_farthest_35 : decode cX6_farthest 35 = .ok (.iaload, 1) := by decide +kernel
theorem dX6_farthest_36 : decode cX6_farthest 36 = .ok (.bipush 100, 2) := by decide +kernel
theorem dX6_farthest_38 : decode cX6_farthest 38 = .ok (.idiv, 1) := by decide +kernel
theorem dX6_farthest_39 : decode cX6_farthest 39 = .ok (.iload_n 2, 1) := by decide +kernel
theorem dX6_farthest_40 : decode cX6_farthest 40 = .ok (.if_icmp .ne 7, 3) := by decide +kernel
theorem dX6_farthest_43 : decode cX6_farthest 43 = .ok (.iconst 1, 1) := by decide +kernel
theorem dX6_farthest_44 : decode cX6_farthest 44 = .ok (.goto 4, 3) := by decide +kernel
theorem dX6_farthest_47 : decode cX6_farthest 47 = .ok (.iconst 0, 1) := by decide +kernel
theorem dX6_farthest_48 : decode cX6_farthest 48 = .ok (.istore 6, 2) := by decide +kernel
theorem dX6_farthest_50 : decode cX6_farthest 50 = .ok (.iload 6, 2) := by decide +kernel
theorem dX6_farthest_52 : decode cX6_farthest 52 = .ok (.ifCond .eq 31, 3) := by decide +kernel
theorem dX6_farthest_55 : decode cX6_farthest 55 = .ok (.aload_n 0, 1) := by decide +kernel
theorem dX6_farthest_56 : decode cX6_farthest 56 = .ok (.getfield 13, 3) := by decide +kernel
theorem dX6_farthest_59 : decode cX6_farthest 59 = .ok (.iload 5, 2) := by decide +kernel
theorem dX6_farthest_61 : decode cX6_farthest 61 = .ok (.iaload, 1) := by decide +kernel
theorem dX6_farthest_62 : decode cX6_farthest 62 = .ok (.bipush 100, 2) := by decide +kernel
theorem dX6_farthest_64 : decode cX6_farthest 64 = .ok (.irem, 1) := by decide +kernel
theorem dX6_farthest_65 : decode cX6_farthest 65 = .ok (.iload 4, 2) := by decide +kernel
theorem dX6_farthest_67 : decode cX6_farthest 67 = .ok (.if_icmp .le 16, 3) := by decide +kernel
theorem dX6_farthest_70 : decode cX6_farthest 70 = .ok (.aload_n 0, 1) := by decide +kernel
theorem dX6_farthest_71 : decode cX6_farthest 71 = .ok (.getfield 13, 3) := by decide +kernel
theorem dX6_farthest_74 : decode cX6_farthest 74 = .ok (.iload 5, 2) := by decide +kernel
theorem dX6_farthest_76 : decode cX6_farthest 76 = .ok (.iaload, 1) := by decide +kernel
theorem dX6_farthest_77 : decode cX6_farthest 77 = .ok (.bipush 100, 2) := by decide +kernel
theorem dX6_farthest_79 : decode cX6_farthest 79 = .ok (.irem, 1) := by decide +kernel
theorem dX6_farthest_80 : decode cX6_farthest 80 = .ok (.goto 5, 3) := by decide +kernel
theorem dX6_farthest_83 : decode cX6_farthest 83 = .ok (.iload 4, 2) := by decide +kernel
theorem dX6_farthest_85 : decode cX6_farthest 85 = .ok (.istore 4, 2) := by decide +kernel
theorem dX6_farthest_87 : decode cX6_farthest 87 = .ok (.iinc 5 1, 3) := by decide +kernel
theorem dX6_farthest_90 : decode cX6_farthest 90 = .ok (.goto (-78), 3) := by decide +kernel
theorem dX6_farthest_93 : decode cX6_farthest 93 = .ok (.iload 4, 2) := by decide +kernel
theorem dX6_farthest_95 : decode cX6_farthest 95 = .ok (.ireturn, 1) := by decide +kernel
theorem dX6_lengthThrough_0 : decode cX6_lengthThrough 0 = .ok (.aload_n 0, 1) := by decide +kernel
theorem dX6_lengthThrough_1 : decode cX6_lengthThrough 1 = .ok (.iconst 0, 1) := by decide +kernel
theorem dX6_lengthThrough_2 : decode cX6_lengthThrough 2 = .ok (.putfield 59, 3) := by decide +kernel
theorem dX6_lengthThrough_5 : decode cX6_lengthThrough 5 = .ok (.aload_n 0, 1) := by decide +kernel
theorem dX6_lengthThrough_6 : decode cX6_lengthThrough 6 = .ok (.iload_n 1, 1) := by decide +kernel
theorem dX6_lengthThrough_7 : decode cX6_lengthThrough 7 = .ok (.invokevirtual 130, 3) := by decide +kernel
theorem dX6_lengthThrough_10 : decode cX6_lengthThrough 10 = .ok (.ifCond .ne 9, 3) := by decide +kernel
theorem dX6_lengthThrough_13 : decode cX6_lengthThrough 13 = .ok (.aload_n 0, 1) := by decide +kernel
theorem dX6_lengthThrough_14 : decode cX6_lengthThrough 14 = .ok (.iconst 1, 1) := by decide +kernel
theorem dX6_lengthThrough_15 : decode cX6_lengthThrough 15 = .ok (.invokevirtual 94, 3) := by decide +kernel
theorem dX6_lengthThrough_18 : decode cX6_lengthThrough 18 = .ok (.ireturn, 1) := by decide +kernel
theorem dX6_lengthThrough_19 : decode cX6_lengthThrough 19 = .ok (.iconst 0, 1) := by decide +kernel
theorem dX6_lengthThrough_20 : decode cX6_lengthThrough 20 = .ok (.istore_n 2, 1) := by decide +kernel
theorem dX6_lengthThrough_21 : decode cX6_lengthThrough 21 = .ok (.iconst 0, 1) := by decide +kernel
theorem dX6_lengthThrough_22 : decode cX6_lengthThrough 22 = .ok (.istore_n 3, 1) := by decide +kernel
theorem dX6_lengthThrough_23 : decode cX6_lengthThrough 23 = .ok (.iconst 0, 1) := by decide +kernel
theorem dX6_lengthThrough_24 : decode cX6_lengthThrough 24 = .ok (.istore 4, 2) := by decide +kernel
theorem dX6_lengthThrough_26 : decode cX6_lengthThrough 26 = .ok (.iload 4, 2) := by decide +kernel
theorem dX6_lengthThrough_28 : decode cX6_lengthThrough 28 = .ok (.aload_n 0, 1) := by decide +kernel
theorem dX6_lengthThrough_29 : decode cX6_lengthThrough 29 = .ok (.getfield 50, 3) := by decide +kernel
theorem dX6_lengthThrough_32 : decode cX6_lengthThrough 32 = .ok (.if_icmp .ge 44, 3) := by decide +kernel
theorem dX6_lengthThrough_35 : decode cX6_lengthThrough 35 = .ok (.aload_n 0, 1) := by decide +kernel
theorem dX6_lengthThrough_36 : decode cX6_lengthThrough 36 = .ok (.iload_n 1, 1) := by decide +kernel
theorem dX6_lengthThrough_37 : decode cX6_lengthThrough 37 = .ok (.iload 4, 2) := by decide +kernel
theorem dX6_lengthThrough_39 : decode cX6_lengthThrough 39 = .ok (.invokevirtual 140, 3) := by decide +kernel
theorem dX6_lengthThrough_42 : decode cX6_lengthThrough 42 = .ok (.ifCond .le 8, 3) := by decide +kernel
theorem dX6_lengthThrough_45 : decode cX6_lengthThrough 45 = .ok (.iload 4, 2) := by decide +kernel
theorem dX6_lengthThrough_47 : decode cX6_lengthThrough 47 = .ok (.goto 4, 3) := by decide +kernel
theorem dX6_lengthThrough_50 : decode cX6_lengthThrough 50 = .ok (.iload_n 2, 1) := by decide +kernel
theorem dX6_lengthThrough_51 : decode cX6_lengthThrough 51 = .ok (.istore_n 2, 1) := by decide +kernel
theorem dX6_lengthThrough_52 : decode cX6_lengthThrough 52 = .ok (.iload_n 3, 1) := by decide +kernel
theorem dX6_lengthThrough_53 : decode cX6_lengthThrough 53 = .ok (.aload_n 0, 1) := by decide +kernel
theorem dX6_lengthThrough_54 : decode cX6_lengthThrough 54 = .ok (.iload_n 1, 1) := by decide +kernel
theorem dX6_lengthThrough_55 : decode cX6_lengthThrough 55 = .ok (.iload 4, 2) := by decide +kernel
theorem dX6_lengthThrough_57 : decode cX6_lengthThrough 57 = .ok (.invokevirtual 140, 3) := by decide +kernel
theorem dX6_lengthThrough_60 : decode cX6_lengthThrough 60 = .ok (.ifCond .le 7, 3) := by decide +kernel
theorem dX6_lengthThrough_63 : decode cX6_lengthThrough 63 = .ok (.iconst 1, 1) := by decide +kernel
theorem dX6_lengthThrough_64 : decode cX6_lengthThrough 64 = .ok (.goto 4, 3) := by decide +kernel
theorem dX6_lengthThrough_67 : decode cX6_lengthThrough 67 = .ok (.iconst 0, 1) := by decide +kernel
theorem dX6_lengthThrough_68 : decode cX6_lengthThrough 68 = .ok (.iadd, 1) := by decide +kernel
theorem dX6_lengthThrough_69 : decode cX6_lengthThrough 69 = .ok (.istore_n 3, 1) := by decide +kernel
theorem dX6_lengthThrough_70 : decode cX6_lengthThrough 70 = .ok (.iinc 4 1, 3) := by decide +kernel
theorem dX6_lengthThrough_73 : decode cX6_lengthThrough 73 = .ok (.goto (-47), 3) := by decide +kernel
theorem dX6_lengthThrough_76 : decode cX6_lengthThrough 76 = .ok (.iload_n 3, 1) := by decide +kernel
theorem dX6_lengthThrough_77 : decode cX6_lengthThrough 77 = .ok (.iconst 2, 1) := by decide +kernel
theorem dX6_lengthThrough_78 : decode cX6_lengthThrough 78 = .ok (.irem, 1) := by decide +kernel
theorem dX6_lengthThrough_79 : decode cX6_lengthThrough 79 = .ok (.iconst 1, 1) := by decide +kernel
theorem dX6_lengthThrough_80 : decode cX6_lengthThrough 80 = .ok (.if_icmp .ne 14, 3) := by decide +kernel
theorem dX6_lengthThrough_83 : decode cX6_lengthThrough 83 = .ok (.iconst 2, 1) := by decide +kernel
theorem dX6_lengthThrough_84 : decode cX6_lengthThrough 84 = .ok (.aload_n 0, 1) := by decide +kernel
theorem dX6_lengthThrough_85 : decode cX6_lengthThrough 85 = .ok (.iload_n 1, 1) := by decide +kernel
theorem dX6_lengthThrough_86 : decode cX6_lengthThrough 86 = .ok (.iload_n 2, 1) := by decide +kernel
theorem dX6_lengthThrough_87 : decode cX6_lengthThrough 87 = .ok (.invokevirtual 140, 3) := by decide +kernel
theorem dX6_lengthThrough_90 : decode cX6_lengthThrough 90 = .ok (.imul, 1) := by decide +kernel
theorem dX6_lengthThrough_91 : decode cX6_lengthThrough 91 = .ok (.goto 9, 3) := by decide +kernel
theorem dX6_lengthThrough_94 : decode cX6_lengthThrough 94 = .ok (.aload_n 0, 1) := by decide +kernel
theorem dX6_lengthThrough_95 : decode cX6_lengthThrough 95 = .ok (.getfield 53, 3) := by decide +kernel
theorem dX6_lengthThrough_98 : decode cX6_lengthThrough 98 = .ok (.iconst 1, 1) := by decide +kernel
theorem dX6_lengthThrough_99 : decode cX6_lengthThrough 99 = .ok (.iadd, 1) := by decide +kernel
theorem dX6_lengthThrough_100 : decode cX6_lengthThrough 100 = .ok (.istore 4, 2) := by decide +kernel
theorem dX6_lengthThrough_102 : decode cX6_lengthThrough 102 = .ok (.iconst 2, 1) := by decide +kernel
theorem dX6_lengthThrough_103 : decode cX6_lengthThrough 103 = .ok (.iload_n 2, 1) := by decide +kernel
theorem dX6_lengthThrough_104 : decode cX6_lengthThrough 104 = .ok (.imul, 1) := by decide +kernel
theorem dX6_lengthThrough_105 : decode cX6_lengthThrough 105 = .ok (.aload_n 0, 1) := by decide +kernel
theorem dX6_lengthThrough_106 : decode cX6_lengthThrough 106 = .ok (.getfield 56, 3) := by decide +kernel
theorem dX6_lengthThrough_109 : decode cX6_lengthThrough 109 = .ok (.imul, 1) := by decide +kernel
theorem dX6_lengthThrough_110 : decode cX6_lengthThrough 110 = .ok (.iload_n 3, 1) := by decide +kernel
theorem dX6_lengthThrough_111 : decode cX6_lengthThrough 111 = .ok (.iconst 1, 1) := by decide +kernel
theorem dX6_lengthThrough_112 : decode cX6_lengthThrough 112 = .ok (.isub, 1) := by decide +kernel
theorem dX6_lengthThrough_113 : decode cX6_lengthThrough 113 = .ok (.aload_n 0, 1) := by decide +kernel
theorem dX6_lengthThrough_114 : decode cX6_lengthThrough 114 = .ok (.getfield 53, 3) := by decide +kernel
theorem dX6_lengthThrough_117 : decode cX6_lengthThrough 117 = .ok (.iconst 1, 1) := by decide +kernel
theorem dX6_lengthThrough_118 : decode cX6_lengthThrough 118 = .ok (.iadd, 1) := by decide +kernel
theorem dX6_lengthThrough_119 : decode cX6_lengthThrough 119 = .ok (.imul, 1) := by decide +kernel
theorem dX6_lengthThrough_120 : decode cX6_lengthThrough 120 = .ok (.iadd, 1) := by decide +kernel
theorem dX6_lengthThrough_121 : decode cX6_lengthThrough 121 = .ok (.iload 4, 2) := by decide +kernel
theorem dX6_lengthThrough_123 : decode cX6_lengthThrough 123 = .ok (.iadd, 1) := by decide +kernel
theorem dX6_lengthThrough_124 : decode cX6_lengthThrough 124 = .ok (.ireturn, 1) := by decide +kernel
theorem dX6_stops_0 : decode cX6_stops 0 = .ok (.aload_n 0, 1) := by decide +kernel
theorem dX6_stops_1 : decode cX6_stops 1 = .ok (.iconst 0, 1) := by decide +kernel
theorem dX6_stops_2 : decode cX6_stops 2 = .ok (.putfield 59, 3) := by decide +kernel
theorem dX6_stops_5 : decode cX6_stops 5 = .ok (.aload_n 0, 1) := by decide +kernel
theorem dX6_stops_6 : decode cX6_stops 6 = .ok (.iload_n 1, 1) := by decide +kernel
theorem dX6_stops_7 : decode cX6_stops 7 = .ok (.invokevirtual 130, 3) := by decide +kernel
theorem dX6_stops_10 : decode cX6_stops 10 = .ok (.ifCond .ne 9, 3) := by decide +kernel
theorem dX6_stops_13 : decode cX6_stops 13 = .ok (.aload_n 0, 1) := by decide +kernel
theorem dX6_stops_14 : decode cX6_stops 14 = .ok (.iconst 1, 1) := by decide +kernel
theorem dX6_stops_15 : decode cX6_stops 15 = .ok (.invokevirtual 94, 3) := by decide +kernel
theorem dX6_stops_18 : decode cX6_stops 18 = .ok (.ireturn, 1) := by decide +kernel
theorem dX6_stops_19 : decode cX6_stops 19 = .ok (.aload_n 0, 1) := by decide +kernel
theorem dX6_stops_20 : decode cX6_stops 20 = .ok (.aload_n 0, 1) := by decide +kernel
theorem dX6_stops_21 : decode cX6_stops 21 = .ok (.iload_n 1, 1) := by decide +kernel
theorem dX6_stops_22 : decode cX6_stops 22 = .ok (.invokevirtual 120, 3) := by decide +kernel
theorem dX6_stops_25 : decode cX6_stops 25 = .ok (.invokevirtual 86, 3) := by decide +kernel
theorem dX6_stops_28 : decode cX6_stops 28 = .ok (.aload_n 0, 1) := by decide +kernel
theorem dX6_stops_29 : decode cX6_stops 29 = .ok (.getfield 76, 3) := by decide +kernel
theorem dX6_stops_32 : decode cX6_stops 32 = .ok (.ireturn, 1) := by decide +kernel
theorem dX6_stopAt_0 : decode cX6_stopAt 0 = .ok (.aload_n 0, 1) := by decide +kernel
theorem dX6_stopAt_1 : decode cX6_stopAt 1 = .ok (.iconst 0, 1) := by decide +kernel
theorem dX6_stopAt_2 : decode cX6_stopAt 2 = .ok (.putfield 59, 3) := by decide +kernel
theorem dX6_stopAt_5 : decode cX6_stopAt 5 = .ok (.aload_n 0, 1) := by decide +kernel
theorem dX6_stopAt_6 : decode cX6_stopAt 6 = .ok (.iload_n 1, 1) := by decide +kernel
theorem dX6_stopAt_7 : decode cX6_stopAt 7 = .ok (.invokevirtual 130, 3) := by decide +kernel
theorem dX6_stopAt_10 : decode cX6_stopAt 10 = .ok (.ifCond .ne 9, 3) := by decide +kernel
theorem dX6_stopAt_13 : decode cX6_stopAt 13 = .ok (.aload_n 0, 1) := by decide +kernel
theorem dX6_stopAt_14 : decode cX6_stopAt 14 = .ok (.iconst 1, 1) := by decide +kernel
theorem dX6_stopAt_15 : decode cX6_stopAt 15 = .ok (.invokevirtual 94, 3) := by decide +kernel
theorem dX6_stopAt_18 : decode cX6_stopAt 18 = .ok (.ireturn, 1) := by decide +kernel
theorem dX6_stopAt_19 : decode cX6_stopAt 19 = .ok (.aload_n 0, 1) := by decide +kernel
theorem dX6_stopAt_20 : decode cX6_stopAt 20 = .ok (.aload_n 0, 1) := by decide +kernel
theorem dX6_stopAt_21 : decode cX6_stopAt 21 = .ok (.iload_n 1, 1) := by decide +kernel
theorem dX6_stopAt_22 : decode cX6_stopAt 22 = .ok (.invokevirtual 120, 3) := by decide +kernel
theorem dX6_stopAt_25 : decode cX6_stopAt 25 = .ok (.invokevirtual 143, 3) := by decide +kernel
theorem dX6_stopAt_28 : decode cX6_stopAt 28 = .ok (.iload_n 2, 1) := by decide +kernel
theorem dX6_stopAt_29 : decode cX6_stopAt 29 = .ok (.iconst 0, 1) := by decide +kernel
theorem dX6_stopAt_30 : decode cX6_stopAt 30 = .ok (.aload_n 0, 1) := by decide +kernel
theorem dX6_stopAt_31 : decode cX6_stopAt 31 = .ok (.getfield 76, 3) := by decide +kernel
theorem dX6_stopAt_34 : decode cX6_stopAt 34 = .ok (.iconst 1, 1) := by decide +kernel
theorem dX6_stopAt_35 : decode cX6_stopAt 35 = .ok (.isub, 1) := by decide +kernel
theorem dX6_stopAt_36 : decode cX6_stopAt 36 = .ok (.invokestatic 62, 3) := by decide +kernel
theorem dX6_stopAt_39 : decode cX6_stopAt 39 = .ok (.ifCond .eq 22, 3) := by decide +kernel
theorem dX6_stopAt_42 : decode cX6_stopAt 42 = .ok (.aload_n 0, 1) := by decide +kernel
theorem dX6_stopAt_43 : decode cX6_stopAt 43 = .ok (.getfield 13, 3) := by decide +kernel
theorem dX6_stopAt_46 : decode cX6_stopAt 46 = .ok (.aload_n 0, 1) := by decide +kernel
theorem dX6_stopAt_47 : decode cX6_stopAt 47 = .ok (.getfield 35, 3) := by decide +kernel
theorem dX6_stopAt_50 : decode cX6_stopAt 50 = .ok (.aload_n 0, 1) := by decide +kernel
theorem dX6_stopAt_51 : decode cX6_stopAt 51 = .ok (.getfield 41, 3) := by decide +kernel
theorem dX6_stopAt_54 : decode cX6_stopAt 54 = .ok (.iload_n 2, 1) := by decide +kernel
theorem dX6_stopAt_55 : decode cX6_stopAt 55 = .ok (.iaload, 1) := by decide +kernel
theorem dX6_stopAt_56 : decode cX6_stopAt 56 = .ok (.iaload, 1) := by decide +kernel
theorem dX6_stopAt_57 : decode cX6_stopAt 57 = .ok (.iaload, 1) := by decide +kernel
theorem dX6_stopAt_58 : decode cX6_stopAt 58 = .ok (.goto 8, 3) := by decide +kernel
theorem dX6_stopAt_61 : decode cX6_stopAt 61 = .ok (.aload_n 0, 1) := by decide +kernel
theorem dX6_stopAt_62 : decode cX6_stopAt 62 = .ok (.iconst 1, 1) := by decide +kernel
theorem dX6_stopAt_63 : decode cX6_stopAt 63 = .ok (.invokevirtual 94, 3) := by decide +kernel
theorem dX6_stopAt_66 : decode cX6_stopAt 66 = .ok (.ireturn, 1) := by decide +kernel
theorem dX6_inAisle_0 : decode cX6_inAisle 0 = .ok (.aload_n 0, 1) := by decide +kernel
theorem dX6_inAisle_1 : decode cX6_inAisle 1 = .ok (.iconst 0, 1) := by decide +kernel
theorem dX6_inAisle_2 : decode cX6_inAisle 2 = .ok (.putfield 59, 3) := by decide +kernel
theorem dX6_inAisle_5 : decode cX6_inAisle 5 = .ok (.iload_n 1, 1) := by decide +kernel
theorem dX6_inAisle_6 : decode cX6_inAisle 6 = .ok (.iconst 0, 1) := by decide +kernel
theorem dX6_inAisle_7 : decode cX6_inAisle 7 = .ok (.aload_n 0, 1) := by decide +kernel
theorem dX6_inAisle_8 : decode cX6_inAisle 8 = .ok (.getfield 50, 3) := by decide +kernel
theorem dX6_inAisle_11 : decode cX6_inAisle 11 = .ok (.iconst 1, 1) := by decide +kernel
theorem dX6_inAisle_12 : decode cX6_inAisle 12 = .ok (.isub, 1) := by decide +kernel
theorem dX6_inAisle_13 : decode cX6_inAisle 13 = .ok (.invokestatic 62, 3) := by decide +kernel
theorem dX6_inAisle_16 : decode cX6_inAisle 16 = .ok (.ifCond .ne 9, 3) := by decide +kernel
theorem dX6_inAisle_19 : decode cX6_inAisle 19 = .ok (.aload_n 0, 1) := by decide +kernel
theorem dX6_inAisle_20 : decode cX6_inAisle 20 = .ok (.iconst 1, 1) := by decide +kernel
theorem dX6_inAisle_21 : decode cX6_inAisle 21 = .ok (.invokevirtual 94, 3) := by decide +kernel
theorem dX6_inAisle_24 : decode cX6_inAisle 24 = .ok (.ireturn, 1) := by decide +kernel
theorem dX6_inAisle_25 : decode cX6_inAisle 25 = .ok (.iconst 0, 1) := by decide +kernel
theorem dX6_inAisle_26 : decode cX6_inAisle 26 = .ok (.istore_n 2, 1) := by decide +kernel
theorem dX6_inAisle_27 : decode cX6_inAisle 27 = .ok (.iconst 0, 1) := by decide +kernel
theorem dX6_inAisle_28 : decode cX6_inAisle 28 = .ok (.istore_n 3, 1) := by decide +kernel
theorem dX6_inAisle_29 : decode cX6_inAisle 29 = .ok (.iload_n 3, 1) := by decide +kernel
theorem dX6_inAisle_30 : decode cX6_inAisle 30 = .ok (.aload_n 0, 1) := by decide +kernel
theorem dX6_inAisle_31 : decode cX6_inAisle 31 = .ok (.getfield 69, 3) := by decide +kernel
theorem dX6_inAisle_34 : decode cX6_inAisle 34 = .ok (.if_icmp .ge 26, 3) := by decide +kernel
theorem dX6_inAisle_37 : decode cX6_inAisle 37 = .ok (.iload_n 2, 1) := by decide +kernel
theorem dX6_inAisle_38 : decode cX6_inAisle 38 = .ok (.aload_n 0, 1) := by decide +kernel
theorem dX6_inAisle_39 : decode cX6_inAisle 39 = .ok (.iload_n 3, 1) := by decide +kernel
theorem dX6_inAisle_40 : decode cX6_inAisle 40 = .ok (.iload_n 1, 1) := by decide +kernel
theorem dX6_inAisle_41 : decode cX6_inAisle 41 = .ok (.invokevirtual 140, 3) := by decide +kernel
theorem dX6_inAisle_44 : decode cX6_inAisle 44 = .ok (.ifCond .le 7, 3) := by decide +kernel
theorem dX6_inAisle_47 : decode cX6_inAisle 47 = .ok (.iconst 1, 1) := by decide +kernel
theorem dX6_inAisle_48 : decode cX6_inAisle 48 = .ok (.goto 4, 3) := by decide +kernel
theorem dX6_inAisle_51 : decode cX6_inAisle 51 = .ok (.iconst 0, 1) := by decide +kernel
theorem dX6_inAisle_52 : decode cX6_inAisle 52 = .ok (.iadd, 1) := by decide +kernel
theorem dX6_inAisle_53 : decode cX6_inAisle 53 = .ok (.istore_n 2, 1) := by decide +kernel
theorem dX6_inAisle_54 : decode cX6_inAisle 54 = .ok (.iinc 3 1, 3) := by decide +kernel
theorem dX6_inAisle_57 : decode cX6_inAisle 57 = .ok (.goto (-28), 3) := by decide +kernel
theorem dX6_inAisle_60 : decode cX6_inAisle 60 = .ok (.iload_n 2, 1) := by decide +kernel
theorem dX6_inAisle_61 : decode cX6_inAisle 61 = .ok (.ireturn, 1) := by decide +kernel
theorem dX6_walked_0 : decode cX6_walked 0 = .ok (.aload_n 0, 1) := by decide +kernel
theorem dX6_walked_1 : decode cX6_walked 1 = .ok (.iconst 0, 1) := by decide +kernel
theorem dX6_walked_2 : decode cX6_walked 2 = .ok (.putfield 59, 3) := by decide +kernel
theorem dX6_walked_5 : decode cX6_walked 5 = .ok (.aload_n 0, 1) := by decide +kernel
theorem dX6_walked_6 : decode cX6_walked 6 = .ok (.getfield 137, 3) := by decide +kernel
theorem dX6_walked_9 : decode cX6_walked 9 = .ok (.ireturn, 1) := by decide +kernel
theorem dX6_share_0 : decode cX6_share 0 = .ok (.aload_n 0, 1) := by decide +kernel
theorem dX6_share_1 : decode cX6_share 1 = .ok (.iconst 0, 1) := by decide +kernel
theorem dX6_share_2 : decode cX6_share 2 = .ok (.putfield 59, 3) := by decide +kernel
theorem dX6_share_5 : decode cX6_share 5 = .ok (.aload_n 0, 1) := by decide +kernel
theorem dX6_share_6 : decode cX6_share 6 = .ok (.getfield 133, 3) := by decide +kernel
theorem dX6_share_9 : decode cX6_share 9 = .ok (.lconst 0, 1) := by decide +kernel
theorem dX6_share_10 : decode cX6_share 10 = .ok (.lcmp, 1) := by decide +kernel
theorem dX6_share_11 : decode cX6_share 11 = .ok (.ifCond .ne 7, 3) := by decide +kernel
theorem dX6_share_14 : decode cX6_share 14 = .ok (.dconst 1, 1) := by decide +kernel
theorem dX6_share_15 : decode cX6_share 15 = .ok (.goto 14, 3) := by decide +kernel
theorem dX6_share_18 : decode cX6_share 18 = .ok (.aload_n 0, 1) := by decide +kernel
theorem dX6_share_19 : decode cX6_share 19 = .ok (.getfield 137, 3) := by decide +kernel
theorem dX6_share_22 : decode cX6_share 22 = .ok (.i2d, 1) := by decide +kernel
theorem dX6_share_23 : decode cX6_share 23 = .ok (.aload_n 0, 1) := by decide +kernel
theorem dX6_share_24 : decode cX6_share 24 = .ok (.getfield 133, 3) := by decide +kernel
theorem dX6_share_27 : decode cX6_share 27 = .ok (.l2d, 1) := by decide +kernel
theorem dX6_share_28 : decode cX6_share 28 = .ok (.ddiv, 1) := by decide +kernel
theorem dX6_share_29 : decode cX6_share 29 = .ok (.dreturn, 1) := by decide +kernel
end
section
theorem dL_cell_0 : decode cL_cell 0 = .ok (.iload_n 1, 1) := by decide +kernel
theorem dL_cell_1 : decode cL_cell 1 = .ok (.aload_n 0, 1) := by decide +kernel
theorem dL_cell_2 : decode cL_cell 2 = .ok (.arraylength, 1) := by decide +kernel
theorem dL_cell_3 : decode cL_cell 3 = .ok (.if_icmp .ge 9, 3) := by decide +kernel
theorem dL_cell_6 : decode cL_cell 6 = .ok (.aload_n 0, 1) := by decide +kernel
theorem dL_cell_7 : decode cL_cell 7 = .ok (.iload_n 1, 1) := by decide +kernel
theorem dL_cell_8 : decode cL_cell 8 = .ok (.iaload, 1) := by decide +kernel
theorem dL_cell_9 : decode cL_cell 9 = .ok (.goto 4, 3) := by decide +kernel
theorem dL_cell_12 : decode cL_cell 12 = .ok (.iconst 0, 1) := by decide +kernel
theorem dL_cell_13 : decode cL_cell 13 = .ok (.ireturn, 1) := by decide +kernel
theorem dL_put_0 : decode cL_put 0 = .ok (.aload 4, 2) := by decide +kernel
theorem dL_put_2 : decode cL_put 2 = .ok (.iconst 0, 1) := by decide +kernel
theorem dL_put_3 : decode cL_put 3 = .ok (.aload_n 0, 1) := by decide +kernel
theorem dL_put_4 : decode cL_put 4 = .ok (.iload_n 1, 1) := by decide +kernel
theorem dL_put_5 : decode cL_put 5 = .ok (.iload_n 2, 1) := by decide +kernel
theorem dL_put_6 : decode cL_put 6 = .ok (.iload_n 3, 1) := by decide +kernel
theorem dL_put_7 : decode cL_put 7 = .ok (.invokevirtual 7, 3) := by decide +kernel
theorem dL_put_10 : decode cL_put 10 = .ok (.i2l, 1) := by decide +kernel
theorem dL_put_11 : decode cL_put 11 = .ok (.lastore, 1) := by decide +kernel
theorem dL_put_12 : decode cL_put 12 = .ok (.goto 11, 3) := by decide +kernel
theorem dL_put_15 : decode cL_put 15 = .ok (.astore 5, 2) := by decide +kernel
theorem dL_put_17 : decode cL_put 17 = .ok (.iconst 1, 1) := by decide +kernel
theorem dL_put_18 : decode cL_put 18 = .ok (.ireturn, 1) := by decide +kernel
theorem dL_put_19 : decode cL_put 19 = .ok (.astore 5, 2) := by decide +kernel
theorem dL_put_21 : decode cL_put 21 = .ok (.iconst 2, 1) := by decide +kernel
theorem dL_put_22 : decode cL_put 22 = .ok (.ireturn, 1) := by decide +kernel
theorem dL_put_23 : decode cL_put 23 = .ok (.iconst 0, 1) := by decide +kernel
theorem dL_put_24 : decode cL_put 24 = .ok (.ireturn, 1) := by decide +kernel
theorem dL_layOut_0 : decode cL_layOut 0 = .ok (.aload_n 1, 1) := by decide +kernel
theorem dL_layOut_1 : decode cL_layOut 1 = .ok (.iconst 0, 1) := by decide +kernel
theorem dL_layOut_2 : decode cL_layOut 2 = .ok (.aload_n 0, 1) := by decide +kernel
theorem dL_layOut_3 : decode cL_layOut 3 = .ok (.invokevirtual 17, 3) := by decide +kernel
theorem dL_layOut_6 : decode cL_layOut 6 = .ok (.i2l, 1) := by decide +kernel
theorem dL_layOut_7 : decode cL_layOut 7 = .ok (.lastore, 1) := by decide +kernel
theorem dL_layOut_8 : decode cL_layOut 8 = .ok (.goto 6, 3) := by decide +kernel
theorem dL_layOut_11 : decode cL_layOut 11 = .ok (.astore_n 2, 1) := by decide +kernel
theorem dL_layOut_12 : decode cL_layOut 12 = .ok (.iconst 1, 1) := by decide +kernel
theorem dL_layOut_13 : decode cL_layOut 13 = .ok (.ireturn, 1) := by decide +kernel
theorem dL_layOut_14 : decode cL_layOut 14 = .ok (.iconst 0, 1) := by decide +kernel
theorem dL_layOut_15 : decode cL_layOut 15 = .ok (.ireturn, 1) := by decide +kernel
theorem dL_placeOf_0 : decode cL_placeOf 0 = .ok (.aload_n 2, 1) := by decide +kernel
theorem dL_placeOf_1 : decode cL_placeOf 1 = .ok (.iconst 0, 1) := by decide +kernel
theorem dL_placeOf_2 : decode cL_placeOf 2 = .ok (.aload_n 0, 1) := by decide +kernel
theorem dL_placeOf_3 : decode cL_placeOf 3 = .ok (.iload_n 1, 1) := by decide +kernel
theorem dL_placeOf_4 : decode cL_placeOf 4 = .ok (.invokevirtual 21, 3) := by decide +kernel
theorem dL_placeOf_7 : decode cL_placeOf 7 = .ok (.i2l, 1) := by decide +kernel
theorem dL_placeOf_8 : decode cL_placeOf 8 = .ok (.lastore, 1) := by decide +kernel
theorem dL_placeOf_9 : decode cL_placeOf 9 = .ok (.goto 6, 3) := by decide +kernel
theorem dL_placeOf_12 : decode cL_placeOf 12 = .ok (.astore_n 3, 1) := by decide +kernel
theorem dL_placeOf_13 : decode cL_placeOf 13 = .ok (.iconst 1, 1) := by decide +kernel
theorem dL_placeOf_14 : decode cL_placeOf 14 = .ok (.ireturn, 1) := by decide +kernel
theorem dL_placeOf_15 : decode cL_placeOf 15 = .ok (.iconst 0, 1) := by decide +kernel
theorem dL_placeOf_16 : decode cL_placeOf 16 = .ok (.ireturn, 1) := by decide +kernel
theorem dL_turnover_0 : decode cL_turnover 0 = .ok (.aload_n 2, 1) := by decide +kernel
theorem dL_turnover_1 : decode cL_turnover 1 = .ok (.iconst 0, 1) := by decide +kernel
theorem dL_turnover_2 : decode cL_turnover 2 = .ok (.aload_n 0, 1) := by decide +kernel
theorem dL_turnover_3 : decode cL_turnover 3 = .ok (.iload_n 1, 1) := by decide +kernel
theorem dL_turnover_4 : decode cL_turnover 4 = .ok (.invokevirtual 25, 3) := by decide +kernel
theorem dL_turnover_7 : decode cL_turnover 7 = .ok (.i2l, 1) := by decide +kernel
theorem dL_turnover_8 : decode cL_turnover 8 = .ok (.lastore, 1) := by decide +kernel
theorem dL_turnover_9 : decode cL_turnover 9 = .ok (.goto 6, 3) := by decide +kernel
theorem dL_turnover_12 : decode cL_turnover 12 = .ok (.astore_n 3, 1) := by decide +kernel
theorem dL_turnover_13 : decode cL_turnover 13 = .ok (.iconst 1, 1) := by decide +kernel
theorem dL_turnover_14 : decode cL_turnover 14 = .ok (.ireturn, 1) := by decide +kernel
theorem dL_turnover_15 : decode cL_turnover 15 = .ok (.iconst 0, 1) := by decide +kernel
theorem dL_turnover_16 : decode cL_turnover 16 = .ok (.ireturn, 1) := by decide +kernel
theorem dL_distance_0 : decode cL_distance 0 = .ok (.aload_n 3, 1) := by decide +kernel
theorem dL_distance_1 : decode cL_distance 1 = .ok (.iconst 0, 1) := by decide +kernel
theorem dL_distance_2 : decode cL_distance 2 = .ok (.aload_n 0, 1) := by decide +kernel
theorem dL_distance_3 : decode cL_distance 3 = .ok (.iload_n 1, 1) := by decide +kernel
theorem dL_distance_4 : decode cL_distance 4 = .ok (.iload_n 2, 1) := by decide +kernel
theorem dL_distance_5 : decode cL_distance 5 = .ok (.invokevirtual 28, 3) := by decide +kernel
theorem dL_distance_8 : decode cL_distance 8 = .ok (.i2l, 1) := by decide +kernel
theorem dL_distance_9 : decode cL_distance 9 = .ok (.lastore, 1) := by decide +kernel
theorem dL_distance_10 : decode cL_distance 10 = .ok (.goto 11, 3) := by decide +kernel
theorem dL_distance_13 : decode cL_distance 13 = .ok (.astore 4, 2) := by decide +kernel
theorem dL_distance_15 : decode cL_distance 15 = .ok (.iconst 1, 1) := by decide +kernel
theorem dL_distance_16 : decode cL_distance 16 = .ok (.ireturn, 1) := by decide +kernel
theorem dL_distance_17 : decode cL_distance 17 = .ok (.astore 4, 2) := by decide +kernel
theorem dL_distance_19 : decode cL_distance 19 = .ok (.iconst 2, 1) := by decide +kernel
theorem dL_distance_20 : decode cL_distance 20 = .ok (.ireturn, 1) := by decide +kernel
theorem dL_distance_21 : decode cL_distance 21 = .ok (.iconst 0, 1) := by decide +kernel
theorem dL_distance_22 : decode cL_distance 22 = .ok (.ireturn, 1) := by decide +kernel
theorem dL_order_0 : decode cL_order 0 = .ok (.aload_n 2, 1) := by decide +kernel
theorem dL_order_1 : decode cL_order 1 = .ok (.iconst 0, 1) := by decide +kernel
theorem dL_order_2 : decode cL_order 2 = .ok (.aload_n 0, 1) := by decide +kernel
theorem dL_order_3 : decode cL_order 3 = .ok (.iload_n 1, 1) := by decide +kernel
theorem dL_order_4 : decode cL_order 4 = .ok (.invokevirtual 32, 3) := by decide +kernel
theorem dL_order_7 : decode cL_order 7 = .ok (.i2l, 1) := by decide +kernel
theorem dL_order_8 : decode cL_order 8 = .ok (.lastore, 1) := by decide +kernel
theorem dL_order_9 : decode cL_order 9 = .ok (.goto 9, 3) := by decide +kernel
theorem dL_order_12 : decode cL_order 12 = .ok (.astore_n 3, 1) := by decide +kernel
theorem dL_order_13 : decode cL_order 13 = .ok (.iconst 1, 1) := by decide +kernel
theorem dL_order_14 : decode cL_order 14 = .ok (.ireturn, 1) := by decide +kernel
theorem dL_order_15 : decode cL_order 15 = .ok (.astore_n 3, 1) := by decide +kernel
theorem dL_order_16 : decode cL_order 16 = .ok (.iconst 2, 1) := by decide +kernel
theorem dL_order_17 : decode cL_order 17 = .ok (.ireturn, 1) := by decide +kernel
theorem dL_order_18 : decode cL_order 18 = .ok (.iconst 0, 1) := by decide +kernel
theorem dL_order_19 : decode cL_order 19 = .ok (.ireturn, 1) := by decide +kernel
theorem dL_line_0 : decode cL_line 0 = .ok (.aload 4, 2) := by decide +kernel
theorem dL_line_2 : decode cL_line 2 = .ok (.iconst 0, 1) := by decide +kernel
theorem dL_line_3 : decode cL_line 3 = .ok (.aload_n 0, 1) := by decide +kernel
theorem dL_line_4 : decode cL_line 4 = .ok (.iload_n 1, 1) := by decide +kernel
theorem dL_line_5 : decode cL_line 5 = .ok (.iload_n 2, 1) := by decide +kernel
theorem dL_line_6 : decode cL_line 6 = .ok (.iload_n 3, 1) := by decide +kernel
theorem dL_line_7 : decode cL_line 7 = .ok (.invokevirtual 37, 3) := by decide +kernel
theorem dL_line_10 : decode cL_line 10 = .ok (.i2l, 1) := by decide +kernel
theorem dL_line_11 : decode cL_line 11 = .ok (.lastore, 1) := by decide +kernel
theorem dL_line_12 : decode cL_line 12 = .ok (.goto 15, 3) := by decide +kernel
theorem dL_line_15 : decode cL_line 15 = .ok (.astore 5, 2) := by decide +kernel
theorem dL_line_17 : decode cL_line 17 = .ok (.iconst 1, 1) := by decide +kernel
theorem dL_line_18 : decode cL_line 18 = .ok (.ireturn, 1) := by decide +kernel
theorem dL_line_19 : decode cL_line 19 = .ok (.astore 5, 2) := by decide +kernel
theorem dL_line_21 : decode cL_line 21 = .ok (.iconst 2, 1) := by decide +kernel
theorem dL_line_22 : decode cL_line 22 = .ok (.ireturn, 1) := by decide +kernel
theorem dL_line_23 : decode cL_line 23 = .ok (.astore 5, 2) := by decide +kernel
theorem dL_line_25 : decode cL_line 25 = .ok (.iconst 3, 1) := by decide +kernel
theorem dL_line_26 : decode cL_line 26 = .ok (.ireturn, 1) := by decide +kernel
theorem dL_line_27 : decode cL_line 27 = .ok (.iconst 0, 1) := by decide +kernel
theorem dL_line_28 : decode cL_line 28 = .ok (.ireturn, 1) := by decide +kernel
theorem dL_stateOf_0 : decode cL_stateOf 0 = .ok (.aload_n 2, 1) := by decide +kernel
theorem dL_stateOf_1 : decode cL_stateOf 1 = .ok (.iconst 0, 1) := by decide +kernel
theorem dL_stateOf_2 : decode cL_stateOf 2 = .ok (.aload_n 0, 1) := by decide +kernel
theorem dL_stateOf_3 : decode cL_stateOf 3 = .ok (.iload_n 1, 1) := by decide +kernel
theorem dL_stateOf_4 : decode cL_stateOf 4 = .ok (.invokevirtual 40, 3) := by decide +kernel
theorem dL_stateOf_7 : decode cL_stateOf 7 = .ok (.i2l, 1) := by decide +kernel
theorem dL_stateOf_8 : decode cL_stateOf 8 = .ok (.lastore, 1) := by decide +kernel
theorem dL_stateOf_9 : decode cL_stateOf 9 = .ok (.goto 6, 3) := by decide +kernel
theorem dL_stateOf_12 : decode cL_stateOf 12 = .ok (.astore_n 3, 1) := by decide +kernel
theorem dL_stateOf_13 : decode cL_stateOf 13 = .ok (.iconst 1, 1) := by decide +kernel
theorem dL_stateOf_14 : decode cL_stateOf 14 = .ok (.ireturn, 1) := by decide +kernel
theorem dL_stateOf_15 : decode cL_stateOf 15 = .ok (.iconst 0, 1) := by decide +kernel
theorem dL_stateOf_16 : decode cL_stateOf 16 = .ok (.ireturn, 1) := by decide +kernel
theorem dL_lengthAlone_0 : decode cL_lengthAlone 0 = .ok (.aload_n 2, 1) := by decide +kernel
theorem dL_lengthAlone_1 : decode cL_lengthAlone 1 = .ok (.iconst 0, 1) := by decide +kernel
theorem dL_lengthAlone_2 : decode cL_lengthAlone 2 = .ok (.aload_n 0, 1) := by decide +kernel
theorem dL_lengthAlone_3 : decode cL_lengthAlone 3 = .ok (.iload_n 1, 1) := by decide +kernel
theorem dL_lengthAlone_4 : decode cL_lengthAlone 4 = .ok (.invokevirtual 43, 3) := by decide +kernel
theorem dL_lengthAlone_7 : decode cL_lengthAlone 7 = .ok (.i2l, 1) := by decide +kernel
theorem dL_lengthAlone_8 : decode cL_lengthAlone 8 = .ok (.lastore, 1) := by decide +kernel
theorem dL_lengthAlone_9 : decode cL_lengthAlone 9 = .ok (.goto 6, 3) := by decide +kernel
theorem dL_lengthAlone_12 : decode cL_lengthAlone 12 = .ok (.astore_n 3, 1) := by decide +kernel
theorem dL_lengthAlone_13 : decode cL_lengthAlone 13 = .ok (.iconst 1, 1) := by decide +kernel
theorem dL_lengthAlone_14 : decode cL_lengthAlone 14 = .ok (.ireturn, 1) := by decide +kernel
theorem dL_lengthAlone_15 : decode cL_lengthAlone 15 = .ok (.iconst 0, 1) := by decide +kernel
theorem dL_lengthAlone_16 : decode cL_lengthAlone 16 = .ok (.ireturn, 1) := by decide +kernel
theorem dL_setCapacity_0 : decode cL_setCapacity 0 = .ok (.aload_n 2, 1) := by decide +kernel
theorem dL_setCapacity_1 : decode cL_setCapacity 1 = .ok (.iconst 0, 1) := by decide +kernel
theorem dL_setCapacity_2 : decode cL_setCapacity 2 = .ok (.aload_n 0, 1) := by decide +kernel
theorem dL_setCapacity_3 : decode cL_setCapacity 3 = .ok (.iload_n 1, 1) := by decide +kernel
theorem dL_setCapacity_4 : decode cL_setCapacity 4 = .ok (.invokevirtual 46, 3) := by decide +kernel
theorem dL_setCapacity_7 : decode cL_setCapacity 7 = .ok (.i2l, 1) := by decide +kernel
theorem dL_setCapacity_8 : decode cL_setCapacity 8 = .ok (.lastore, 1) := by decide +kernel
theorem dL_setCapacity_9 : decode cL_setCapacity 9 = .ok (.goto 9, 3) := by decide +kernel
theorem dL_setCapacity_12 : decode cL_setCapacity 12 = .ok (.astore_n 3, 1) := by decide +kernel
theorem dL_setCapacity_13 : decode cL_setCapacity 13 = .ok (.iconst 1, 1) := by decide +kernel
theorem dL_setCapacity_14 : decode cL_setCapacity 14 = .ok (.ireturn, 1) := by decide +kernel
theorem dL_setCapacity_15 : decode cL_setCapacity 15 = .ok (.astore_n 3, 1) := by decide +kernel
theorem dL_setCapacity_16 : decode cL_setCapacity 16 = .ok (.iconst 2, 1) := by decide +kernel
theorem dL_setCapacity_17 : decode cL_setCapacity 17 = .ok (.ireturn, 1) := by decide +kernel
theorem dL_setCapacity_18 : decode cL_setCapacity 18 = .ok (.iconst 0, 1) := by decide +kernel
theorem dL_setCapacity_19 : decode cL_setCapacity 19 = .ok (.ireturn, 1) := by decide +kernel
theorem dL_planWave_0 : decode cL_planWave 0 = .ok (.aload_n 2, 1) := by decide +kernel
theorem dL_planWave_1 : decode cL_planWave 1 = .ok (.iconst 0, 1) := by decide +kernel
theorem dL_planWave_2 : decode cL_planWave 2 = .ok (.aload_n 0, 1) := by decide +kernel
theorem dL_planWave_3 : decode cL_planWave 3 = .ok (.iload_n 1, 1) := by decide +kernel
theorem dL_planWave_4 : decode cL_planWave 4 = .ok (.invokevirtual 49, 3) := by decide +kernel
theorem dL_planWave_7 : decode cL_planWave 7 = .ok (.i2l, 1) := by decide +kernel
theorem dL_planWave_8 : decode cL_planWave 8 = .ok (.lastore, 1) := by decide +kernel
theorem dL_planWave_9 : decode cL_planWave 9 = .ok (.goto 9, 3) := by decide +kernel
theorem dL_planWave_12 : decode cL_planWave 12 = .ok (.astore_n 3, 1) := by decide +kernel
theorem dL_planWave_13 : decode cL_planWave 13 = .ok (.iconst 1, 1) := by decide +kernel
theorem dL_planWave_14 : decode cL_planWave 14 = .ok (.ireturn, 1) := by decide +kernel
theorem dL_planWave_15 : decode cL_planWave 15 = .ok (.astore_n 3, 1) := by decide +kernel
theorem dL_planWave_16 : decode cL_planWave 16 = .ok (.iconst 2, 1) := by decide +kernel
theorem dL_planWave_17 : decode cL_planWave 17 = .ok (.ireturn, 1) := by decide +kernel
theorem dL_planWave_18 : decode cL_planWave 18 = .ok (.iconst 0, 1) := by decide +kernel
theorem dL_planWave_19 : decode cL_planWave 19 = .ok (.ireturn, 1) := by decide +kernel
theorem dL_pick_0 : decode cL_pick 0 = .ok (.aload_n 2, 1) := by decide +kernel
theorem dL_pick_1 : decode cL_pick 1 = .ok (.iconst 0, 1) := by decide +kernel
theorem dL_pick_2 : decode cL_pick 2 = .ok (.aload_n 0, 1) := by decide +kernel
theorem dL_pick_3 : decode cL_pick 3 = .ok (.iload_n 1, 1) := by decide +kernel
theorem dL_pick_4 : decode cL_pick 4 = .ok (.invokevirtual 52, 3) := by decide +kernel
theorem dL_pick_7 : decode cL_pick 7 = .ok (.i2l, 1) := by decide +kernel
theorem dL_pick_8 : decode cL_pick 8 = .ok (.lastore, 1) := by decide +kernel
theorem dL_pick_9 : decode cL_pick 9 = .ok (.goto 6, 3) := by decide +kernel
theorem dL_pick_12 : decode cL_pick 12 = .ok (.astore_n 3, 1) := by decide +kernel
theorem dL_pick_13 : decode cL_pick 13 = .ok (.iconst 1, 1) := by decide +kernel
theorem dL_pick_14 : decode cL_pick 14 = .ok (.ireturn, 1) := by decide +kernel
theorem dL_pick_15 : decode cL_pick 15 = .ok (.iconst 0, 1) := by decide +kernel
theorem dL_pick_16 : decode cL_pick 16 = .ok (.ireturn, 1) := by decide +kernel
theorem dL_batchOf_0 : decode cL_batchOf 0 = .ok (.aload_n 2, 1) := by decide +kernel
theorem dL_batchOf_1 : decode cL_batchOf 1 = .ok (.iconst 0, 1) := by decide +kernel
theorem dL_batchOf_2 : decode cL_batchOf 2 = .ok (.aload_n 0, 1) := by decide +kernel
theorem dL_batchOf_3 : decode cL_batchOf 3 = .ok (.iload_n 1, 1) := by decide +kernel
theorem dL_batchOf_4 : decode cL_batchOf 4 = .ok (.invokevirtual 55, 3) := by decide +kernel
theorem dL_batchOf_7 : decode cL_batchOf 7 = .ok (.i2l, 1) := by decide +kernel
theorem dL_batchOf_8 : decode cL_batchOf 8 = .ok (.lastore, 1) := by decide +kernel
theorem dL_batchOf_9 : decode cL_batchOf 9 = .ok (.goto 6, 3) := by decide +kernel
theorem dL_batchOf_12 : decode cL_batchOf 12 = .ok (.astore_n 3, 1) := by decide +kernel
theorem dL_batchOf_13 : decode cL_batchOf 13 = .ok (.iconst 1, 1) := by decide +kernel
theorem dL_batchOf_14 : decode cL_batchOf 14 = .ok (.ireturn, 1) := by decide +kernel
theorem dL_batchOf_15 : decode cL_batchOf 15 = .ok (.iconst 0, 1) := by decide +kernel
theorem dL_batchOf_16 : decode cL_batchOf 16 = .ok (.ireturn, 1) := by decide +kernel
theorem dL_linesOf_0 : decode cL_linesOf 0 = .ok (.aload_n 2, 1) := by decide +kernel
theorem dL_linesOf_1 : decode cL_linesOf 1 = .ok (.iconst 0, 1) := by decide +kernel
theorem dL_linesOf_2 : decode cL_linesOf 2 = .ok (.aload_n 0, 1) := by decide +kernel
theorem dL_linesOf_3 : decode cL_linesOf 3 = .ok (.iload_n 1, 1) := by decide +kernel
theorem dL_linesOf_4 : decode cL_linesOf 4 = .ok (.invokevirtual 58, 3) := by decide +kernel
theorem dL_linesOf_7 : decode cL_linesOf 7 = .ok (.i2l, 1) := by decide +kernel
theorem dL_linesOf_8 : decode cL_linesOf 8 = .ok (.lastore, 1) := by decide +kernel
theorem dL_linesOf_9 : decode cL_linesOf 9 = .ok (.goto 6, 3) := by decide +kernel
theorem dL_linesOf_12 : decode cL_linesOf 12 = .ok (.astore_n 3, 1) := by decide +kernel
theorem dL_linesOf_13 : decode cL_linesOf 13 = .ok (.iconst 1, 1) := by decide +kernel
theorem dL_linesOf_14 : decode cL_linesOf 14 = .ok (.ireturn, 1) := by decide +kernel
theorem dL_linesOf_15 : decode cL_linesOf 15 = .ok (.iconst 0, 1) := by decide +kernel
theorem dL_linesOf_16 : decode cL_linesOf 16 = .ok (.ireturn, 1) := by decide +kernel
theorem dL_lengthOf_0 : decode cL_lengthOf 0 = .ok (.aload_n 2, 1) := by decide +kernel
theorem dL_lengthOf_1 : decode cL_lengthOf 1 = .ok (.iconst 0, 1) := by decide +kernel
theorem dL_lengthOf_2 : decode cL_lengthOf 2 = .ok (.aload_n 0, 1) := by decide +kernel
theorem dL_lengthOf_3 : decode cL_lengthOf 3 = .ok (.iload_n 1, 1) := by decide +kernel
theorem dL_lengthOf_4 : decode cL_lengthOf 4 = .ok (.invokevirtual 61, 3) := by decide +kernel
theorem dL_lengthOf_7 : decode cL_lengthOf 7 = .ok (.i2l, 1) := by decide +kernel
theorem dL_lengthOf_8 : decode cL_lengthOf 8 = .ok (.lastore, 1) := by decide +kernel
theorem dL_lengthOf_9 : decode cL_lengthOf 9 = .ok (.goto 6, 3) := by decide +kernel
theorem dL_lengthOf_12 : decode cL_lengthOf 12 = .ok (.astore_n 3, 1) := by decide +kernel
theorem dL_lengthOf_13 : decode cL_lengthOf 13 = .ok (.iconst 1, 1) := by decide +kernel
theorem dL_lengthOf_14 : decode cL_lengthOf 14 = .ok (.ireturn, 1) := by decide +kernel
theorem dL_lengthOf_15 : decode cL_lengthOf 15 = .ok (.iconst 0, 1) := by decide +kernel
theorem dL_lengthOf_16 : decode cL_lengthOf 16 = .ok (.ireturn, 1) := by decide +kernel
theorem dL_lengthByTrying_0 : decode cL_lengthByTrying 0 = .ok (.aload_n 2, 1) := by decide +kernel
theorem dL_lengthByTrying_1 : decode cL_lengthByTrying 1 = .ok (.iconst 0, 1) := by decide +kernel
theorem dL_lengthByTrying_2 : decode cL_lengthByTrying 2 = .ok (.aload_n 0, 1) := by decide +kernel
theorem dL_lengthByTrying_3 : decode cL_lengthByTrying 3 = .ok (.iload_n 1, 1) := by decide +kernel
theorem dL_lengthByTrying_4 : decode cL_lengthByTrying 4 = .ok (.invokevirtual 64, 3) := by decide +kernel
theorem dL_lengthByTrying_7 : decode cL_lengthByTrying 7 = .ok (.i2l, 1) := by decide +kernel
theorem dL_lengthByTrying_8 : decode cL_lengthByTrying 8 = .ok (.lastore, 1) := by decide +kernel
theorem dL_lengthByTrying_9 : decode cL_lengthByTrying 9 = .ok (.goto 9, 3) := by decide +kernel
theorem dL_lengthByTrying_12 : decode cL_lengthByTrying 12 = .ok (.astore_n 3, 1) := by decide +kernel
theorem dL_lengthByTrying_13 : decode cL_lengthByTrying 13 = .ok (.iconst 1, 1) := by decide +kernel
theorem dL_lengthByTrying_14 : decode cL_lengthByTrying 14 = .ok (.ireturn, 1) := by decide +kernel
theorem dL_lengthByTrying_15 : decode cL_lengthByTrying 15 = .ok (.astore_n 3, 1) := by decide +kernel
theorem dL_lengthByTrying_16 : decode cL_lengthByTrying 16 = .ok (.iconst 2, 1) := by decide +kernel
theorem dL_lengthByTrying_17 : decode cL_lengthByTrying 17 = .ok (.ireturn, 1) := by decide +kernel
theorem dL_lengthByTrying_18 : decode cL_lengthByTrying 18 = .ok (.iconst 0, 1) := by decide +kernel
theorem dL_lengthByTrying_19 : decode cL_lengthByTrying 19 = .ok (.ireturn, 1) := by decide +kernel
theorem dL_lengthThrough_0 : decode cL_lengthThrough 0 = .ok (.aload_n 2, 1) := by decide +kernel
theorem dL_lengthThrough_1 : decode cL_lengthThrough 1 = .ok (.iconst 0, 1) := by decide +kernel
theorem dL_lengthThrough_2 : decode cL_lengthThrough 2 = .ok (.aload_n 0, 1) := by decide +kernel
theorem dL_lengthThrough_3 : decode cL_lengthThrough 3 = .ok (.iload_n 1, 1) := by decide +kernel
theorem dL_lengthThrough_4 : decode cL_lengthThrough 4 = .ok (.invokevirtual 67, 3) := by decide +kernel
theorem dL_lengthThrough_7 : decode cL_lengthThrough 7 = .ok (.i2l, 1) := by decide +kernel
theorem dL_lengthThrough_8 : decode cL_lengthThrough 8 = .ok (.lastore, 1) := by decide +kernel
theorem dL_lengthThrough_9 : decode cL_lengthThrough 9 = .ok (.goto 6, 3) := by decide +kernel
theorem dL_lengthThrough_12 : decode cL_lengthThrough 12 = .ok (.astore_n 3, 1) := by decide +kernel
theorem dL_lengthThrough_13 : decode cL_lengthThrough 13 = .ok (.iconst 1, 1) := by decide +kernel
theorem dL_lengthThrough_14 : decode cL_lengthThrough 14 = .ok (.ireturn, 1) := by decide +kernel
theorem dL_lengthThrough_15 : decode cL_lengthThrough 15 = .ok (.iconst 0, 1) := by decide +kernel
theorem dL_lengthThrough_16 : decode cL_lengthThrough 16 = .ok (.ireturn, 1) := by decide +kernel
theorem dL_stops_0 : decode cL_stops 0 = .ok (.aload_n 2, 1) := by decide +kernel
theorem dL_stops_1 : decode cL_stops 1 = .ok (.iconst 0, 1) := by decide +kernel
theorem dL_stops_2 : decode cL_stops 2 = .ok (.aload_n 0, 1) := by decide +kernel
theorem dL_stops_3 : decode cL_stops 3 = .ok (.iload_n 1, 1) := by decide +kernel
theorem dL_stops_4 : decode cL_stops 4 = .ok (.invokevirtual 70, 3) := by decide +kernel
theorem dL_stops_7 : decode cL_stops 7 = .ok (.i2l, 1) := by decide +kernel
theorem dL_stops_8 : decode cL_stops 8 = .ok (.lastore, 1) := by decide +kernel
theorem dL_stops_9 : decode cL_stops 9 = .ok (.goto 6, 3) := by decide +kernel
theorem dL_stops_12 : decode cL_stops 12 = .ok (.astore_n 3, 1) := by decide +kernel
theorem dL_stops_13 : decode cL_stops 13 = .ok (.iconst 1, 1) := by decide +kernel
theorem dL_stops_14 : decode cL_stops 14 = .ok (.ireturn, 1) := by decide +kernel
theorem dL_stops_15 : decode cL_stops 15 = .ok (.iconst 0, 1) := by decide +kernel
theorem dL_stops_16 : decode cL_stops 16 = .ok (.ireturn, 1) := by decide +kernel
theorem dL_stopAt_0 : decode cL_stopAt 0 = .ok (.aload_n 3, 1) := by decide +kernel
theorem dL_stopAt_1 : decode cL_stopAt 1 = .ok (.iconst 0, 1) := by decide +kernel
theorem dL_stopAt_2 : decode cL_stopAt 2 = .ok (.aload_n 0, 1) := by decide +kernel
theorem dL_stopAt_3 : decode cL_stopAt 3 = .ok (.iload_n 1, 1) := by decide +kernel
theorem dL_stopAt_4 : decode cL_stopAt 4 = .ok (.iload_n 2, 1) := by decide +kernel
theorem dL_stopAt_5 : decode cL_stopAt 5 = .ok (.invokevirtual 73, 3) := by decide +kernel
theorem dL_stopAt_8 : decode cL_stopAt 8 = .ok (.i2l, 1) := by decide +kernel
theorem dL_stopAt_9 : decode cL_stopAt 9 = .ok (.lastore, 1) := by decide +kernel
theorem dL_stopAt_10 : decode cL_stopAt 10 = .ok (.goto 7, 3) := by decide +kernel
theorem dL_stopAt_13 : decode cL_stopAt 13 = .ok (.astore 4, 2) := by decide +kernel
theorem dL_stopAt_15 : decode cL_stopAt 15 = .ok (.iconst 1, 1) := by decide +kernel
theorem dL_stopAt_16 : decode cL_stopAt 16 = .ok (.ireturn, 1) := by decide +kernel
theorem dL_stopAt_17 : decode cL_stopAt 17 = .ok (.iconst 0, 1) := by decide +kernel
theorem dL_stopAt_18 : decode cL_stopAt 18 = .ok (.ireturn, 1) := by decide +kernel
theorem dL_inAisle_0 : decode cL_inAisle 0 = .ok (.aload_n 2, 1) := by decide +kernel
theorem dL_inAisle_1 : decode cL_inAisle 1 = .ok (.iconst 0, 1) := by decide +kernel
theorem dL_inAisle_2 : decode cL_inAisle 2 = .ok (.aload_n 0, 1) := by decide +kernel
theorem dL_inAisle_3 : decode cL_inAisle 3 = .ok (.iload_n 1, 1) := by decide +kernel
theorem dL_inAisle_4 : decode cL_inAisle 4 = .ok (.invokevirtual 76, 3) := by decide +kernel
theorem dL_inAisle_7 : decode cL_inAisle 7 = .ok (.i2l, 1) := by decide +kernel
theorem dL_inAisle_8 : decode cL_inAisle 8 = .ok (.lastore, 1) := by decide +kernel
theorem dL_inAisle_9 : decode cL_inAisle 9 = .ok (.goto 6, 3) := by decide +kernel
theorem dL_inAisle_12 : decode cL_inAisle 12 = .ok (.astore_n 3, 1) := by decide +kernel
theorem dL_inAisle_13 : decode cL_inAisle 13 = .ok (.iconst 1, 1) := by decide +kernel
theorem dL_inAisle_14 : decode cL_inAisle 14 = .ok (.ireturn, 1) := by decide +kernel
theorem dL_inAisle_15 : decode cL_inAisle 15 = .ok (.iconst 0, 1) := by decide +kernel
theorem dL_inAisle_16 : decode cL_inAisle 16 = .ok (.ireturn, 1) := by decide +kernel
theorem dL_law_0 : decode cL_law 0 = .ok (.new 8, 3) := by decide +kernel
theorem dL_law_3 : decode cL_law 3 = .ok (.dup, 1) := by decide +kernel
theorem dL_law_4 : decode cL_law 4 = .ok (.aload_n 0, 1) := by decide +kernel
theorem dL_law_5 : decode cL_law 5 = .ok (.iconst 0, 1) := by decide +kernel
theorem dL_law_6 : decode cL_law 6 = .ok (.invokestatic 79, 3) := by decide +kernel
theorem dL_law_9 : decode cL_law 9 = .ok (.aload_n 0, 1) := by decide +kernel
theorem dL_law_10 : decode cL_law 10 = .ok (.iconst 1, 1) := by decide +kernel
theorem dL_law_11 : decode cL_law 11 = .ok (.invokestatic 79, 3) := by decide +kernel
theorem dL_law_14 : decode cL_law 14 = .ok (.aload_n 0, 1) := by decide +kernel
theorem dL_law_15 : decode cL_law 15 = .ok (.iconst 2, 1) := by decide +kernel
theorem dL_law_16 : decode cL_law 16 = .ok (.invokestatic 79, 3) := by decide +kernel
theorem dL_law_19 : decode cL_law 19 = .ok (.invokespecial 85, 3) := by decide +kernel
theorem dL_law_22 : decode cL_law 22 = .ok (.astore_n 1, 1) := by decide +kernel
theorem dL_law_23 : decode cL_law 23 = .ok (.new 88, 3) := by decide +kernel
theorem dL_law_26 : decode cL_law 26 = .ok (.dup, 1) := by decide +kernel
theorem dL_law_27 : decode cL_law 27 = .ok (.aload_n 0, 1) := by decide +kernel
theorem dL_law_28 : decode cL_law 28 = .ok (.iconst 0, 1) := by decide +kernel
theorem dL_law_29 : decode cL_law 29 = .ok (.invokestatic 79, 3) := by decide +kernel
theorem dL_law_32 : decode cL_law 32 = .ok (.aload_n 0, 1) := by decide +kernel
theorem dL_law_33 : decode cL_law 33 = .ok (.iconst 1, 1) := by decide +kernel
theorem dL_law_34 : decode cL_law 34 = .ok (.invokestatic 79, 3) := by decide +kernel
theorem dL_law_37 : decode cL_law 37 = .ok (.aload_n 0, 1) := by decide +kernel
theorem dL_law_38 : decode cL_law 38 = .ok (.iconst 2, 1) := by decide +kernel
theorem dL_law_39 : decode cL_law 39 = .ok (.invokestatic 79, 3) := by decide +kernel
theorem dL_law_42 : decode cL_law 42 = .ok (.invokespecial 90, 3) := by decide +kernel
theorem dL_law_45 : decode cL_law 45 = .ok (.astore_n 2, 1) := by decide +kernel
theorem dL_law_46 : decode cL_law 46 = .ok (.iconst 1, 1) := by decide +kernel
theorem dL_law_47 : decode cL_law 47 = .ok (.newarray .long, 2) := by decide +kernel
theorem dL_law_49 : decode cL_law 49 = .ok (.astore_n 3, 1) := by decide +kernel
theorem dL_law_50 : decode cL_law 50 = .ok (.iconst 3, 1) := by decide +kernel
theorem dL_law_51 : decode cL_law 51 = .ok (.istore 4, 2) := by decide +kernel
theorem dL_law_53 : decode cL_law 53 = .ok (.iload 4, 2) := by decide +kernel
theorem dL_law_55 : decode cL_law 55 = .ok (.aload_n 0, 1) := by decide +kernel
theorem dL_law_56 : decode cL_law 56 = .ok (.arraylength, 1) := by decide +kernel
theorem dL_law_57 : decode cL_law 57 = .ok (.iconst 4, 1) := by decide +kernel
theorem dL_law_58 : decode cL_law 58 = .ok (.isub, 1) := by decide +kernel
theorem dL_law_59 : decode cL_law 59 = .ok (.if_icmp .gt 1387, 3) := by decide +kernel
theorem dL_law_62 : decode cL_law 62 = .ok (.aload_n 0, 1) := by decide +kernel
theorem dL_law_63 : decode cL_law 63 = .ok (.iload 4, 2) := by decide +kernel
theorem dL_law_65 : decode cL_law 65 = .ok (.iaload, 1) := by decide +kernel
theorem dL_law_66 : decode cL_law 66 = .ok (.bipush 31, 2) := by decide +kernel
theorem dL_law_68 : decode cL_law 68 = .ok (.iand, 1) := by decide +kernel
theorem dL_law_69 : decode cL_law 69 = .ok (.tableswitch 1371 0 23 #[111, 191, 235, 291, 347, 415, 471, 551, 564, 620, 676, 732, 788, 844, 857, 913, 969, 1025, 1081, 1137, 1193, 1261, 1317, 1330], 111) := by decide +kernel
theorem dL_law_180 : decode cL_law 180 = .ok (.aload_n 1, 1) := by decide +kernel
theorem dL_law_181 : decode cL_law 181 = .ok (.aload_n 0, 1) := by decide +kernel
theorem dL_law_182 : decode cL_law 182 = .ok (.iload 4, 2) := by decide +kernel
theorem dL_law_184 : decode cL_law 184 = .ok (.iconst 1, 1) := by decide +kernel
theorem dL_law_185 : decode cL_law 185 = .ok (.iadd, 1) := by decide +kernel
theorem dL_law_186 : decode cL_law 186 = .ok (.iaload, 1) := by decide +kernel
theorem dL_law_187 : decode cL_law 187 = .ok (.aload_n 0, 1) := by decide +kernel
theorem dL_law_188 : decode cL_law 188 = .ok (.iload 4, 2) := by decide +kernel
theorem dL_law_190 : decode cL_law 190 = .ok (.iconst 2, 1) := by decide +kernel
theorem dL_law_191 : decode cL_law 191 = .ok (.iadd, 1) := by decide +kernel
theorem dL_law_192 : decode cL_law 192 = .ok (.iaload, 1) := by decide +kernel
theorem dL_law_193 : decode cL_law 193 = .ok (.aload_n 0, 1) := by decide +kernel
theorem dL_law_194 : decode cL_law 194 = .ok (.iload 4, 2) := by decide +kernel
theorem dL_law_196 : decode cL_law 196 = .ok (.iconst 3, 1) := by decide +kernel
theorem dL_law_197 : decode cL_law 197 = .ok (.iadd, 1) := by decide +kernel
theorem dL_law_198 : decode cL_law 198 = .ok (.iaload, 1) := by decide +kernel
theorem dL_law_199 : decode cL_law 199 = .ok (.aload_n 3, 1) := by decide +kernel
theorem dL_law_200 : decode cL_law 200 = .ok (.invokestatic 91, 3) := by decide +kernel
theorem dL_law_203 : decode cL_law 203 = .ok (.istore 5, 2) := by decide +kernel
theorem dL_law_205 : decode cL_law 205 = .ok (.aload_n 2, 1) := by decide +kernel
theorem dL_law_206 : decode cL_law 206 = .ok (.aload_n 0, 1) := by decide +kernel
theorem dL_law_207 : decode cL_law 207 = .ok (.iload 4, 2) := by decide +kernel
theorem dL_law_209 : decode cL_law 209 = .ok (.iconst 1, 1) := by decide +kernel
theorem dL_law_210 : decode cL_law 210 = .ok (.iadd, 1) := by decide +kernel
theorem dL_law_211 : decode cL_law 211 = .ok (.iaload, 1) := by decide +kernel
theorem dL_law_212 : decode cL_law 212 = .ok (.aload_n 0, 1) := by decide +kernel
theorem dL_law_213 : decode cL_law 213 = .ok (.iload 4, 2) := by decide +kernel
theorem dL_law_215 : decode cL_law 215 = .ok (.iconst 2, 1) := by decide +kernel
theorem dL_law_216 : decode cL_law 216 = .ok (.iadd, 1) := by decide +kernel
theorem dL_law_217 : decode cL_law 217 = .ok (.iaload, 1) := by decide +kernel
theorem dL_law_218 : decode cL_law 218 = .ok (.aload_n 0, 1) := by decide +kernel
theorem dL_law_219 : decode cL_law 219 = .ok (.iload 4, 2) := by decide +kernel
theorem dL_law_221 : decode cL_law 221 = .ok (.iconst 3, 1) := by decide +kernel
theorem dL_law_222 : decode cL_law 222 = .ok (.iadd, 1) := by decide +kernel
theorem dL_law_223 : decode cL_law 223 = .ok (.iaload, 1) := by decide +kernel
theorem dL_law_224 : decode cL_law 224 = .ok (.invokevirtual 94, 3) := by decide +kernel
theorem dL_law_227 : decode cL_law 227 = .ok (.istore 6, 2) := by decide +kernel
theorem dL_law_229 : decode cL_law 229 = .ok (.aload_n 2, 1) := by decide +kernel
theorem dL_law_230 : decode cL_law 230 = .ok (.invokevirtual 95, 3) := by decide +kernel
theorem dL_law_233 : decode cL_law 233 = .ok (.iload 5, 2) := by decide +kernel
theorem dL_law_235 : decode cL_law 235 = .ok (.if_icmp .eq 5, 3) := by decide +kernel
theorem dL_law_238 : decode cL_law 238 = .ok (.iconst 0, 1) := by decide +kernel
theorem dL_law_239 : decode cL_law 239 = .ok (.ireturn, 1) := by decide +kernel
theorem dL_law_240 : decode cL_law 240 = .ok (.iload 5, 2) := by decide +kernel
theorem dL_law_242 : decode cL_law 242 = .ok (.ifCond .ne 15, 3) := by decide +kernel
theorem dL_law_245 : decode cL_law 245 = .ok (.aload_n 3, 1) := by decide +kernel
theorem dL_law_246 : decode cL_law 246 = .ok (.iconst 0, 1) := by decide +kernel
theorem dL_law_247 : decode cL_law 247 = .ok (.laload, 1) := by decide +kernel
theorem dL_law_248 : decode cL_law 248 = .ok (.iload 6, 2) := by decide +kernel
theorem dL_law_250 : decode cL_law 250 = .ok (.i2l, 1) := by decide +kernel
theorem dL_law_251 : decode cL_law 251 = .ok (.lcmp, 1) := by decide +kernel
theorem dL_law_252 : decode cL_law 252 = .ok (.ifCond .eq 5, 3) := by decide +kernel
theorem dL_law_255 : decode cL_law 255 = .ok (.iconst 0, 1) := by decide +kernel
theorem dL_law_256 : decode cL_law 256 = .ok (.ireturn, 1) := by decide +kernel
theorem dL_law_257 : decode cL_law 257 = .ok (.goto 1183, 3) := by decide +kernel
theorem dL_law_260 : decode cL_law 260 = .ok (.aload_n 1, 1) := by decide +kernel
theorem dL_law_261 : decode cL_law 261 = .ok (.aload_n 3, 1) := by decide +kernel
theorem dL_law_262 : decode cL_law 262 = .ok (.invokestatic 98, 3) := by decide +kernel
theorem dL_law_265 : decode cL_law 265 = .ok (.istore 5, 2) := by decide +kernel
theorem dL_law_267 : decode cL_law 267 = .ok (.aload_n 2, 1) := by decide +kernel
theorem dL_law_268 : decode cL_law 268 = .ok (.invokevirtual 101, 3) := by decide +kernel
theorem dL_law_271 : decode cL_law 271 = .ok (.istore 6, 2) := by decide +kernel
theorem dL_law_273 : decode cL_law 273 = .ok (.aload_n 2, 1) := by decide +kernel
theorem dL_law_274 : decode cL_law 274 = .ok (.invokevirtual 95, 3) := by decide +kernel
theorem dL_law_277 : decode cL_law 277 = .ok (.iload 5, 2) := by decide +kernel
theorem dL_law_279 : decode cL_law 279 = .ok (.if_icmp .eq 5, 3) := by decide +kernel
theorem dL_law_282 : decode cL_law 282 = .ok (.iconst 0, 1) := by decide +kernel
theorem dL_law_283 : decode cL_law 283 = .ok (.ireturn, 1) := by decide +kernel
theorem dL_law_284 : decode cL_law 284 = .ok (.iload 5, 2) := by decide +kernel
theorem dL_law_286 : decode cL_law 286 = .ok (.ifCond .ne 15, 3) := by decide +kernel
theorem dL_law_289 : decode cL_law 289 = .ok (.aload_n 3, 1) := by decide +kernel
theorem dL_law_290 : decode cL_law 290 = .ok (.iconst 0, 1) := by decide +kernel
theorem dL_law_291 : decode cL_law 291 = .ok (.laload, 1) := by decide +kernel
theorem dL_law_292 : decode cL_law 292 = .ok (.iload 6, 2) := by decide +kernel
theorem dL_law_294 : decode cL_law 294 = .ok (.i2l, 1) := by decide +kernel
theorem dL_law_295 : decode cL_law 295 = .ok (.lcmp, 1) := by decide +kernel
theorem dL_law_296 : decode cL_law 296 = .ok (.ifCond .eq 5, 3) := by decide +kernel
theorem dL_law_299 : decode cL_law 299 = .ok (.iconst 0, 1) := by decide +kernel
theorem dL_law_300 : decode cL_law 300 = .ok (.ireturn, 1) := by decide +kernel
theorem dL_law_301 : decode cL_law 301 = .ok (.goto 1139, 3) := by decide +kernel
theorem dL_law_304 : decode cL_law 304 = .ok (.aload_n 1, 1) := by decide +kernel
theorem dL_law_305 : decode cL_law 305 = .ok (.aload_n 0, 1) := by decide +kernel
theorem dL_law_306 : decode cL_law 306 = .ok (.iload 4, 2) := by decide +kernel
theorem dL_law_308 : decode cL_law 308 = .ok (.iconst 1, 1) := by decide +kernel
theorem dL_law_309 : decode cL_law 309 = .ok (.iadd, 1) := by decide +kernel
theorem dL_law_310 : decode cL_law 310 = .ok (.iaload, 1) := by decide +kernel
theorem dL_law_311 : decode cL_law 311 = .ok (.aload_n 3, 1) := by decide +kernel
theorem dL_law_312 : decode cL_law 312 = .ok (.invokestatic 102, 3) := by decide +kernel
theorem dL_law_315 : decode cL_law 315 = .ok (.istore 5, 2) := by decide +kernel
theorem dL_law_317 : decode cL_law 317 = .ok (.aload_n 2, 1) := by decide +kernel
theorem dL_law_318 : decode cL_law 318 = .ok (.aload_n 0, 1) := by decide +kernel
theorem dL_law_319 : decode cL_law 319 = .ok (.iload 4, 2) := by decide +kernel
theorem dL_law_321 : decode cL_law 321 = .ok (.iconst 1, 1) := by decide +kernel
theorem dL_law_322 : decode cL_law 322 = .ok (.iadd, 1) := by decide +kernel
theorem dL_law_323 : decode cL_law 323 = .ok (.iaload, 1) := by decide +kernel
theorem dL_law_324 : decode cL_law 324 = .ok (.invokevirtual 105, 3) := by decide +kernel
theorem dL_law_327 : decode cL_law 327 = .ok (.istore 6, 2) := by decide +kernel
theorem dL_law_329 : decode cL_law 329 = .ok (.aload_n 2, 1) := by decide +kernel
theorem dL_law_330 : decode cL_law 330 = .ok (.invokevirtual 95, 3) := by decide +kernel
theorem dL_law_333 : decode cL_law 333 = .ok (.iload 5, 2) := by decide +kernel
theorem dL_law_335 : decode cL_law 335 = .ok (.if_icmp .eq 5, 3) := by decide +kernel
theorem dL_law_338 : decode cL_law 338 = .ok (.iconst 0, 1) := by decide +kernel
theorem dL_law_339 : decode cL_law 339 = .ok (.ireturn, 1) := by decide +kernel
theorem dL_law_340 : decode cL_law 340 = .ok (.iload 5, 2) := by decide +kernel
theorem dL_law_342 : decode cL_law 342 = .ok (.ifCond .ne 15, 3) := by decide +kernel
theorem dL_law_345 : decode cL_law 345 = .ok (.aload_n 3, 1) := by decide +kernel
theorem dL_law_346 : decode cL_law 346 = .ok (.iconst 0, 1) := by decide +kernel
theorem dL_law_347 : decode cL_law 347 = .ok (.laload, 1) := by decide +kernel
theorem dL_law_348 : decode cL_law 348 = .ok (.iload 6, 2) := by decide +kernel
theorem dL_law_350 : decode cL_law 350 = .ok (.i2l, 1) := by decide +kernel
theorem dL_law_351 : decode cL_law 351 = .ok (.lcmp, 1) := by decide +kernel
theorem dL_law_352 : decode cL_law 352 = .ok (.ifCond .eq 5, 3) := by decide +kernel
theorem dL_law_355 : decode cL_law 355 = .ok (.iconst 0, 1) := by decide +kernel
theorem dL_law_356 : decode cL_law 356 = .ok (.ireturn, 1) := by decide +kernel
theorem dL_law_357 : decode cL_law 357 = .ok (.goto 1083, 3) := by decide +kernel
theorem dL_law_360 : decode cL_law 360 = .ok (.aload_n 1, 1) := by decide +kernel
theorem dL_law_361 : decode cL_law 361 = .ok (.aload_n 0, 1) := by decide +kernel
theorem dL_law_362 : decode cL_law 362 = .ok (.iload 4, 2) := by decide +kernel
theorem dL_law_364 : decode cL_law 364 = .ok (.iconst 1, 1) := by decide +kernel
theorem dL_law_365 : decode cL_law 365 = .ok (.iadd, 1) := by decide +kernel
theorem dL_law_366 : decode cL_law 366 = .ok (.iaload, 1) := by decide +kernel
theorem dL_law_367 : decode cL_law 367 = .ok (.aload_n 3, 1) := by decide +kernel
theorem dL_law_368 : decode cL_law 368 = .ok (.invokestatic 106, 3) := by decide +kernel
theorem dL_law_371 : decode cL_law 371 = .ok (.istore 5, 2) := by decide +kernel
theorem dL_law_373 : decode cL_law 373 = .ok (.aload_n 2, 1) := by decide +kernel
theorem dL_law_374 : decode cL_law 374 = .ok (.aload_n 0, 1) := by decide +kernel
theorem dL_law_375 : decode cL_law 375 = .ok (.iload 4, 2) := by decide +kernel
theorem dL_law_377 : decode cL_law 377 = .ok (.iconst 1, 1) := by decide +kernel
theorem dL_law_378 : decode cL_law 378 = .ok (.iadd, 1) := by decide +kernel
theorem dL_law_379 : decode cL_law 379 = .ok (.iaload, 1) := by decide +kernel
theorem dL_law_380 : decode cL_law 380 = .ok (.invokevirtual 108, 3) := by decide +kernel
theorem dL_law_383 : decode cL_law 383 = .ok (.istore 6, 2) := by decide +kernel
theorem dL_law_385 : decode cL_law 385 = .ok (.aload_n 2, 1) := by decide +kernel
theorem dL_law_386 : decode cL_law 386 = .ok (.invokevirtual 95, 3) := by decide +kernel
theorem dL_law_389 : decode cL_law 389 = .ok (.iload 5, 2) := by decide +kernel
theorem dL_law_391 : decode cL_law 391 = .ok (.if_icmp .eq 5, 3) := by decide +kernel
theorem dL_law_394 : decode cL_law 394 = .ok (.iconst 0, 1) := by decide +kernel
theorem dL_law_395 : decode cL_law 395 = .ok (.ireturn, 1) := by decide +kernel
theorem dL_law_396 : decode cL_law 396 = .ok (.iload 5, 2) := by decide +kernel
theorem dL_law_398 : decode cL_law 398 = .ok (.ifCond .ne 15, 3) := by decide +kernel
theorem dL_law_401 : decode cL_law 401 = .ok (.aload_n 3, 1) := by decide +kernel
theorem dL_law_402 : decode cL_law 402 = .ok (.iconst 0, 1) := by decide +kernel
theorem dL_law_403 : decode cL_law 403 = .ok (.laload, 1) := by decide +kernel
theorem dL_law_404 : decode cL_law 404 = .ok (.iload 6, 2) := by decide +kernel
theorem dL_law_406 : decode cL_law 406 = .ok (.i2l, 1) := by decide +kernel
theorem dL_law_407 : decode cL_law 407 = .ok (.lcmp, 1) := by decide +kernel
theorem dL_law_408 : decode cL_law 408 = .ok (.ifCond .eq 5, 3) := by decide +kernel
theorem dL_law_411 : decode cL_law 411 = .ok (.iconst 0, 1) := by decide +kernel
theorem dL_law_412 : decode cL_law 412 = .ok (.ireturn, 1) := by decide +kernel
theorem dL_law_413 : decode cL_law 413 = .ok (.goto 1027, 3) := by decide +kernel
theorem dL_law_416 : decode cL_law 416 = .ok (.aload_n 1, 1) := by decide +kernel
theorem dL_law_417 : decode cL_law 417 = .ok (.aload_n 0, 1) := by decide +kernel
theorem dL_law_418 : decode cL_law 418 = .ok (.iload 4, 2) := by decide +kernel
theorem dL_law_420 : decode cL_law 420 = .ok (.iconst 1, 1) := by decide +kernel
theorem dL_law_421 : decode cL_law 421 = .ok (.iadd, 1) := by decide +kernel
theorem dL_law_422 : decode cL_law 422 = .ok (.iaload, 1) := by decide +kernel
theorem dL_law_423 : decode cL_law 423 = .ok (.aload_n 0, 1) := by decide +kernel
theorem dL_law_424 : decode cL_law 424 = .ok (.iload 4, 2) := by decide +kernel
theorem dL_law_426 : decode cL_law 426 = .ok (.iconst 2, 1) := by decide +kernel
theorem dL_law_427 : decode cL_law 427 = .ok (.iadd, 1) := by decide +kernel
theorem dL_law_428 : decode cL_law 428 = .ok (.iaload, 1) := by decide +kernel
theorem dL_law_429 : decode cL_law 429 = .ok (.aload_n 3, 1) := by decide +kernel
theorem dL_law_430 : decode cL_law 430 = .ok (.invokestatic 109, 3) := by decide +kernel
theorem dL_law_433 : decode cL_law 433 = .ok (.istore 5, 2) := by decide +kernel
theorem dL_law_435 : decode cL_law 435 = .ok (.aload_n 2, 1) := by decide +kernel
theorem dL_law_436 : decode cL_law 436 = .ok (.aload_n 0, 1) := by decide +kernel
theorem dL_law_437 : decode cL_law 437 = .ok (.iload 4, 2) := by decide +kernel
theorem dL_law_439 : decode cL_law 439 = .ok (.iconst 1, 1) := by decide +kernel
theorem dL_law_440 : decode cL_law 440 = .ok (.iadd, 1) := by decide +kernel
theorem dL_law_441 : decode cL_law 441 = .ok (.iaload, 1) := by decide +kernel
theorem dL_law_442 : decode cL_law 442 = .ok (.aload_n 0, 1) := by decide +kernel
theorem dL_law_443 : decode cL_law 443 = .ok (.iload 4, 2) := by decide +kernel
theorem dL_law_445 : decode cL_law 445 = .ok (.iconst 2, 1) := by decide +kernel
theorem dL_law_446 : decode cL_law 446 = .ok (.iadd, 1) := by decide +kernel
theorem dL_law_447 : decode cL_law 447 = .ok (.iaload, 1) := by decide +kernel
theorem dL_law_448 : decode cL_law 448 = .ok (.invokevirtual 112, 3) := by decide +kernel
theorem dL_law_451 : decode cL_law 451 = .ok (.istore 6, 2) := by decide +kernel
theorem dL_law_453 : decode cL_law 453 = .ok (.aload_n 2, 1) := by decide +kernel
theorem dL_law_454 : decode cL_law 454 = .ok (.invokevirtual 95, 3) := by decide +kernel
theorem dL_law_457 : decode cL_law 457 = .ok (.iload 5, 2) := by decide +kernel
theorem dL_law_459 : decode cL_law 459 = .ok (.if_icmp .eq 5, 3) := by decide +kernel
theorem dL_law_462 : decode cL_law 462 = .ok (.iconst 0, 1) := by decide +kernel
theorem dL_law_463 : decode cL_law 463 = .ok (.ireturn, 1) := by decide +kernel
theorem dL_law_464 : decode cL_law 464 = .ok (.iload 5, 2) := by decide +kernel
theorem dL_law_466 : decode cL_law 466 = .ok (.ifCond .ne 15, 3) := by decide +kernel
theorem dL_law_469 : decode cL_law 469 = .ok (.aload_n 3, 1) := by decide +kernel
theorem dL_law_470 : decode cL_law 470 = .ok (.iconst 0, 1) := by decide +kernel
theorem dL_law_471 : decode cL_law 471 = .ok (.laload, 1) := by decide +kernel
theorem dL_law_472 : decode cL_law 472 = .ok (.iload 6, 2) := by decide +kernel
theorem dL_law_474 : decode cL_law 474 = .ok (.i2l, 1) := by decide +kernel
theorem dL_law_475 : decode cL_law 475 = .ok (.lcmp, 1) := by decide +kernel
theorem dL_law_476 : decode cL_law 476 = .ok (.ifCond .eq 5, 3) := by decide +kernel
theorem dL_law_479 : decode cL_law 479 = .ok (.iconst 0, 1) := by decide +kernel
theorem dL_law_480 : decode cL_law 480 = .ok (.ireturn, 1) := by decide +kernel
theorem dL_law_481 : decode cL_law 481 = .ok (.goto 959, 3) := by decide +kernel
theorem dL_law_484 : decode cL_law 484 = .ok (.aload_n 1, 1) := by decide +kernel
theorem dL_law_485 : decode cL_law 485 = .ok (.aload_n 0, 1) := by decide +kernel
theorem dL_law_486 : decode cL_law 486 = .ok (.iload 4, 2) := by decide +kernel
theorem dL_law_488 : decode cL_law 488 = .ok (.iconst 1, 1) := by decide +kernel
theorem dL_law_489 : decode cL_law 489 = .ok (.iadd, 1) := by decide +kernel
theorem dL_law_490 : decode cL_law 490 = .ok (.iaload, 1) := by decide +kernel
theorem dL_law_491 : decode cL_law 491 = .ok (.aload_n 3, 1) := by decide +kernel
theorem dL_law_492 : decode cL_law 492 = .ok (.invokestatic 113, 3) := by decide +kernel
theorem dL_law_495 : decode cL_law 495 = .ok (.istore 5, 2) := by decide +kernel
theorem dL_law_497 : decode cL_law 497 = .ok (.aload_n 2, 1) := by decide +kernel
theorem dL_law_498 : decode cL_law 498 = .ok (.aload_n 0, 1) := by decide +kernel
theorem dL_law_499 : decode cL_law 499 = .ok (.iload 4, 2) := by decide +kernel
theorem dL_law_501 : decode cL_law 501 = .ok (.iconst 1, 1) := by decide +kernel
theorem dL_law_502 : decode cL_law 502 = .ok (.iadd, 1) := by decide +kernel
theorem dL_law_503 : decode cL_law 503 = .ok (.iaload, 1) := by decide +kernel
theorem dL_law_504 : decode cL_law 504 = .ok (.invokevirtual 115, 3) := by decide +kernel
theorem dL_law_507 : decode cL_law 507 = .ok (.istore 6, 2) := by decide +kernel
theorem dL_law_509 : decode cL_law 509 = .ok (.aload_n 2, 1) := by decide +kernel
theorem dL_law_510 : decode cL_law 510 = .ok (.invokevirtual 95, 3) := by decide +kernel
theorem dL_law_513 : decode cL_law 513 = .ok (.iload 5, 2) := by decide +kernel
theorem dL_law_515 : decode cL_law 515 = .ok (.if_icmp .eq 5, 3) := by decide +kernel
theorem dL_law_518 : decode cL_law 518 = .ok (.iconst 0, 1) := by decide +kernel
theorem dL_law_519 : decode cL_law 519 = .ok (.ireturn, 1) := by decide +kernel
theorem dL_law_520 : decode cL_law 520 = .ok (.iload 5, 2) := by decide +kernel
theorem dL_law_522 : decode cL_law 522 = .ok (.ifCond .ne 15, 3) := by decide +kernel
theorem dL_law_525 : decode cL_law 525 = .ok (.aload_n 3, 1) := by decide +kernel
theorem dL_law_526 : decode cL_law 526 = .ok (.iconst 0, 1) := by decide +kernel
theorem dL_law_527 : decode cL_law 527 = .ok (.laload, 1) := by decide +kernel
theorem dL_law_528 : decode cL_law 528 = .ok (.iload 6, 2) := by decide +kernel
theorem dL_law_530 : decode cL_law 530 = .ok (.i2l, 1) := by decide +kernel
theorem dL_law_531 : decode cL_law 531 = .ok (.lcmp, 1) := by decide +kernel
theorem dL_law_532 : decode cL_law 532 = .ok (.ifCond .eq 5, 3) := by decide +kernel
theorem dL_law_535 : decode cL_law 535 = .ok (.iconst 0, 1) := by decide +kernel
theorem dL_law_536 : decode cL_law 536 = .ok (.ireturn, 1) := by decide +kernel
theorem dL_law_537 : decode cL_law 537 = .ok (.goto 903, 3) := by decide +kernel
theorem dL_law_540 : decode cL_law 540 = .ok (.aload_n 1, 1) := by decide +kernel
theorem dL_law_541 : decode cL_law 541 = .ok (.aload_n 0, 1) := by decide +kernel
theorem dL_law_542 : decode cL_law 542 = .ok (.iload 4, 2) := by decide +kernel
theorem dL_law_544 : decode cL_law 544 = .ok (.iconst 1, 1) := by decide +kernel
theorem dL_law_545 : decode cL_law 545 = .ok (.iadd, 1) := by decide +kernel
theorem dL_law_546 : decode cL_law 546 = .ok (.iaload, 1) := by decide +kernel
theorem dL_law_547 : decode cL_law 547 = .ok (.aload_n 0, 1) := by decide +kernel
theorem dL_law_548 : decode cL_law 548 = .ok (.iload 4, 2) := by decide +kernel
theorem dL_law_550 : decode cL_law 550 = .ok (.iconst 2, 1) := by decide +kernel
theorem dL_law_551 : decode cL_law 551 = .ok (.iadd, 1) := by decide +kernel
theorem dL_law_552 : decode cL_law 552 = .ok (.iaload, 1) := by decide +kernel
theorem dL_law_553 : decode cL_law 553 = .ok (.aload_n 0, 1) := by decide +kernel
theorem dL_law_554 : decode cL_law 554 = .ok (.iload 4, 2) := by decide +kernel
theorem dL_law_556 : decode cL_law 556 = .ok (.iconst 3, 1) := by decide +kernel
theorem dL_law_557 : decode cL_law 557 = .ok (.iadd, 1) := by decide +kernel
theorem dL_law_558 : decode cL_law 558 = .ok (.iaload, 1) := by decide +kernel
theorem dL_law_559 : decode cL_law 559 = .ok (.aload_n 3, 1) := by decide +kernel
theorem dL_law_560 : decode cL_law 560 = .ok (.invokestatic 116, 3) := by decide +kernel
theorem dL_law_563 : decode cL_law 563 = .ok (.istore 5, 2) := by decide +kernel
theorem dL_law_565 : decode cL_law 565 = .ok (.aload_n 2, 1) := by decide +kernel
theorem dL_law_566 : decode cL_law 566 = .ok (.aload_n 0, 1) := by decide +kernel
theorem dL_law_567 : decode cL_law 567 = .ok (.iload 4, 2) := by decide +kernel
theorem dL_law_569 : decode cL_law 569 = .ok (.iconst 1, 1) := by decide +kernel
theorem dL_law_570 : decode cL_law 570 = .ok (.iadd, 1) := by decide +kernel
theorem dL_law_571 : decode cL_law 571 = .ok (.iaload, 1) := by decide +kernel
theorem dL_law_572 : decode cL_law 572 = .ok (.aload_n 0, 1) := by decide +kernel
theorem dL_law_573 : decode cL_law 573 = .ok (.iload 4, 2) := by decide +kernel
theorem dL_law_575 : decode cL_law 575 = .ok (.iconst 2, 1) := by decide +kernel
theorem dL_law_576 : decode cL_law 576 = .ok (.iadd, 1) := by decide +kernel
theorem dL_law_577 : decode cL_law 577 = .ok (.iaload, 1) := by decide +kernel
theorem dL_law_578 : decode cL_law 578 = .ok (.aload_n 0, 1) := by decide +kernel
theorem dL_law_579 : decode cL_law 579 = .ok (.iload 4, 2) := by decide +kernel
theorem dL_law_581 : decode cL_law 581 = .ok (.iconst 3, 1) := by decide +kernel
theorem dL_law_582 : decode cL_law 582 = .ok (.iadd, 1) := by decide +kernel
theorem dL_law_583 : decode cL_law 583 = .ok (.iaload, 1) := by decide +kernel
theorem dL_law_584 : decode cL_law 584 = .ok (.invokevirtual 118, 3) := by decide +kernel
theorem dL_law_587 : decode cL_law 587 = .ok (.istore 6, 2) := by decide +kernel
theorem dL_law_589 : decode cL_law 589 = .ok (.aload_n 2, 1) := by decide +kernel
theorem dL_law_590 : decode cL_law 590 = .ok (.invokevirtual 95, 3) := by decide +kernel
theorem dL_law_593 : decode cL_law 593 = .ok (.iload 5, 2) := by decide +kernel
theorem dL_law_595 : decode cL_law 595 = .ok (.if_icmp .eq 5, 3) := by decide +kernel
theorem dL_law_598 : decode cL_law 598 = .ok (.iconst 0, 1) := by decide +kernel
theorem dL_law_599 : decode cL_law 599 = .ok (.ireturn, 1) := by decide +kernel
theorem dL_law_600 : decode cL_law 600 = .ok (.iload 5, 2) := by decide +kernel
theorem dL_law_602 : decode cL_law 602 = .ok (.ifCond .ne 15, 3) := by decide +kernel
theorem dL_law_605 : decode cL_law 605 = .ok (.aload_n 3, 1) := by decide +kernel
theorem dL_law_606 : decode cL_law 606 = .ok (.iconst 0, 1) := by decide +kernel
theorem dL_law_607 : decode cL_law 607 = .ok (.laload, 1) := by decide +kernel
theorem dL_law_608 : decode cL_law 608 = .ok (.iload 6, 2) := by decide +kernel
theorem dL_law_610 : decode cL_law 610 = .ok (.i2l, 1) := by decide +kernel
theorem dL_law_611 : decode cL_law 611 = .ok (.lcmp, 1) := by decide +kernel
theorem dL_law_612 : decode cL_law 612 = .ok (.ifCond .eq 5, 3) := by decide +kernel
theorem dL_law_615 : decode cL_law 615 = .ok (.iconst 0, 1) := by decide +kernel
theorem dL_law_616 : decode cL_law 616 = .ok (.ireturn, 1) := by decide +kernel
theorem dL_law_617 : decode cL_law 617 = .ok (.goto 823, 3) := by decide +kernel
theorem dL_law_620 : decode cL_law 620 = .ok (.aload_n 1, 1) := by decide +kernel
theorem dL_law_621 : decode cL_law 621 = .ok (.invokevirtual 119, 3) := by decide +kernel
theorem dL_law_624 : decode cL_law 624 = .ok (.aload_n 2, 1) := by decide +kernel
theorem dL_law_625 : decode cL_law 625 = .ok (.invokevirtual 122, 3) := by decide +kernel
theorem dL_law_628 : decode cL_law 628 = .ok (.if_icmp .eq 812, 3) := by decide +kernel
theorem dL_law_631 : decode cL_law 631 = .ok (.iconst 0, 1) := by decide +kernel
theorem dL_law_632 : decode cL_law 632 = .ok (.ireturn, 1) := by decide +kernel
theorem dL_law_633 : decode cL_law 633 = .ok (.aload_n 1, 1) := by decide +kernel
theorem dL_law_634 : decode cL_law 634 = .ok (.aload_n 0, 1) := by decide +kernel
theorem dL_law_635 : decode cL_law 635 = .ok (.iload 4, 2) := by decide +kernel
theorem dL_law_637 : decode cL_law 637 = .ok (.iconst 1, 1) := by decide +kernel
theorem dL_law_638 : decode cL_law 638 = .ok (.iadd, 1) := by decide +kernel
theorem dL_law_639 : decode cL_law 639 = .ok (.iaload, 1) := by decide +kernel
theorem dL_law_640 : decode cL_law 640 = .ok (.aload_n 3, 1) := by decide +kernel
theorem dL_law_641 : decode cL_law 641 = .ok (.invokestatic 123, 3) := by decide +kernel
theorem dL_law_644 : decode cL_law 644 = .ok (.istore 5, 2) := by decide +kernel
theorem dL_law_646 : decode cL_law 646 = .ok (.aload_n 2, 1) := by decide +kernel
theorem dL_law_647 : decode cL_law 647 = .ok (.aload_n 0, 1) := by decide +kernel
theorem dL_law_648 : decode cL_law 648 = .ok (.iload 4, 2) := by decide +kernel
theorem dL_law_650 : decode cL_law 650 = .ok (.iconst 1, 1) := by decide +kernel
theorem dL_law_651 : decode cL_law 651 = .ok (.iadd, 1) := by decide +kernel
theorem dL_law_652 : decode cL_law 652 = .ok (.iaload, 1) := by decide +kernel
theorem dL_law_653 : decode cL_law 653 = .ok (.invokevirtual 125, 3) := by decide +kernel
theorem dL_law_656 : decode cL_law 656 = .ok (.istore 6, 2) := by decide +kernel
theorem dL_law_658 : decode cL_law 658 = .ok (.aload_n 2, 1) := by decide +kernel
theorem dL_law_659 : decode cL_law 659 = .ok (.invokevirtual 95, 3) := by decide +kernel
theorem dL_law_662 : decode cL_law 662 = .ok (.iload 5, 2) := by decide +kernel
theorem dL_law_664 : decode cL_law 664 = .ok (.if_icmp .eq 5, 3) := by decide +kernel
theorem dL_law_667 : decode cL_law 667 = .ok (.iconst 0, 1) := by decide +kernel
theorem dL_law_668 : decode cL_law 668 = .ok (.ireturn, 1) := by decide +kernel
theorem dL_law_669 : decode cL_law 669 = .ok (.iload 5, 2) := by decide +kernel
theorem dL_law_671 : decode cL_law 671 = .ok (.ifCond .ne 15, 3) := by decide +kernel
theorem dL_law_674 : decode cL_law 674 = .ok (.aload_n 3, 1) := by decide +kernel
theorem dL_law_675 : decode cL_law 675 = .ok (.iconst 0, 1) := by decide +kernel
theorem dL_law_676 : decode cL_law 676 = .ok (.laload, 1) := by decide +kernel
theorem dL_law_677 : decode cL_law 677 = .ok (.iload 6, 2) := by decide +kernel
theorem dL_law_679 : decode cL_law 679 = .ok (.i2l, 1) := by decide +kernel
theorem dL_law_680 : decode cL_law 680 = .ok (.lcmp, 1) := by decide +kernel
theorem dL_law_681 : decode cL_law 681 = .ok (.ifCond .eq 5, 3) := by decide +kernel
theorem dL_law_684 : decode cL_law 684 = .ok (.iconst 0, 1) := by decide +kernel
theorem dL_law_685 : decode cL_law 685 = .ok (.ireturn, 1) := by decide +kernel
theorem dL_law_686 : decode cL_law 686 = .ok (.goto 754, 3) := by decide +kernel
theorem dL_law_689 : decode cL_law 689 = .ok (.aload_n 1, 1) := by decide +kernel
theorem dL_law_690 : decode cL_law 690 = .ok (.aload_n 0, 1) := by decide +kernel
theorem dL_law_691 : decode cL_law 691 = .ok (.iload 4, 2) := by decide +kernel
theorem dL_law_693 : decode cL_law 693 = .ok (.iconst 1, 1) := by decide +kernel
theorem dL_law_694 : decode cL_law 694 = .ok (.iadd, 1) := by decide +kernel
theorem dL_law_695 : decode cL_law 695 = .ok (.iaload, 1) := by decide +kernel
theorem dL_law_696 : decode cL_law 696 = .ok (.aload_n 3, 1) := by decide +kernel
theorem dL_law_697 : decode cL_law 697 = .ok (.invokestatic 126, 3) := by decide +kernel
theorem dL_law_700 : decode cL_law 700 = .ok (.istore 5, 2) := by decide +kernel
theorem dL_law_702 : decode cL_law 702 = .ok (.aload_n 2, 1) := by decide +kernel
theorem dL_law_703 : decode cL_law 703 = .ok (.aload_n 0, 1) := by decide +kernel
theorem dL_law_704 : decode cL_law 704 = .ok (.iload 4, 2) := by decide +kernel
theorem dL_law_706 : decode cL_law 706 = .ok (.iconst 1, 1) := by decide +kernel
theorem dL_law_707 : decode cL_law 707 = .ok (.iadd, 1) := by decide +kernel
theorem dL_law_708 : decode cL_law 708 = .ok (.iaload, 1) := by decide +kernel
theorem dL_law_709 : decode cL_law 709 = .ok (.invokevirtual 128, 3) := by decide +kernel
theorem dL_law_712 : decode cL_law 712 = .ok (.istore 6, 2) := by decide +kernel
theorem dL_law_714 : decode cL_law 714 = .ok (.aload_n 2, 1) := by decide +kernel
theorem dL_law_715 : decode cL_law 715 = .ok (.invokevirtual 95, 3) := by decide +kernel
theorem dL_law_718 : decode cL_law 718 = .ok (.iload 5, 2) := by decide +kernel
theorem dL_law_720 : decode cL_law 720 = .ok (.if_icmp .eq 5, 3) := by decide +kernel
theorem dL_law_723 : decode cL_law 723 = .ok (.iconst 0, 1) := by decide +kernel
theorem dL_law_724 : decode cL_law 724 = .ok (.ireturn, 1) := by decide +kernel
theorem dL_law_725 : decode cL_law 725 = .ok (.iload 5, 2) := by decide +kernel
theorem dL_law_727 : decode cL_law 727 = .ok (.ifCond .ne 15, 3) := by decide +kernel
theorem dL_law_730 : decode cL_law 730 = .ok (.aload_n 3, 1) := by decide +kernel
theorem dL_law_731 : decode cL_law 731 = .ok (.iconst 0, 1) := by decide +kernel
theorem dL_law_732 : decode cL_law 732 = .ok (.laload, 1) := by decide +kernel
theorem dL_law_733 : decode cL_law 733 = .ok (.iload 6, 2) := by decide +kernel
theorem dL_law_735 : decode cL_law 735 = .ok (.i2l, 1) := by decide +kernel
theorem dL_law_736 : decode cL_law 736 = .ok (.lcmp, 1) := by decide +kernel
theorem dL_law_737 : decode cL_law 737 = .ok (.ifCond .eq 5, 3) := by decide +kernel
theorem dL_law_740 : decode cL_law 740 = .ok (.iconst 0, 1) := by decide +kernel
theorem dL_law_741 : decode cL_law 741 = .ok (.ireturn, 1) := by decide +kernel
theorem dL_law_742 : decode cL_law 742 = .ok (.goto 698, 3) := by decide +kernel
theorem dL_law_745 : decode cL_law 745 = .ok (.aload_n 1, 1) := by decide +kernel
theorem dL_law_746 : decode cL_law 746 = .ok (.aload_n 0, 1) := by decide +kernel
theorem dL_law_747 : decode cL_law 747 = .ok (.iload 4, 2) := by decide +kernel
theorem dL_law_749 : decode cL_law 749 = .ok (.iconst 1, 1) := by decide +kernel
theorem dL_law_750 : decode cL_law 750 = .ok (.iadd, 1) := by decide +kernel
theorem dL_law_751 : decode cL_law 751 = .ok (.iaload, 1) := by decide +kernel
theorem dL_law_752 : decode cL_law 752 = .ok (.aload_n 3, 1) := by decide +kernel
theorem dL_law_753 : decode cL_law 753 = .ok (.invokestatic 129, 3) := by decide +kernel
theorem dL_law_756 : decode cL_law 756 = .ok (.istore 5, 2) := by decide +kernel
theorem dL_law_758 : decode cL_law 758 = .ok (.aload_n 2, 1) := by decide +kernel
theorem dL_law_759 : decode cL_law 759 = .ok (.aload_n 0, 1) := by decide +kernel
theorem dL_law_760 : decode cL_law 760 = .ok (.iload 4, 2) := by decide +kernel
theorem dL_law_762 : decode cL_law 762 = .ok (.iconst 1, 1) := by decide +kernel
theorem dL_law_763 : decode cL_law 763 = .ok (.iadd, 1) := by decide +kernel
theorem dL_law_764 : decode cL_law 764 = .ok (.iaload, 1) := by decide +kernel
theorem dL_law_765 : decode cL_law 765 = .ok (.invokevirtual 131, 3) := by decide +kernel
theorem dL_law_768 : decode cL_law 768 = .ok (.istore 6, 2) := by decide +kernel
theorem dL_law_770 : decode cL_law 770 = .ok (.aload_n 2, 1) := by decide +kernel
theorem dL_law_771 : decode cL_law 771 = .ok (.invokevirtual 95, 3) := by decide +kernel
theorem dL_law_774 : decode cL_law 774 = .ok (.iload 5, 2) := by decide +kernel
theorem dL_law_776 : decode cL_law 776 = .ok (.if_icmp .eq 5, 3) := by decide +kernel
theorem dL_law_779 : decode cL_law 779 = .ok (.iconst 0, 1) := by decide +kernel
theorem dL_law_780 : decode cL_law 780 = .ok (.ireturn, 1) := by decide +kernel
theorem dL_law_781 : decode cL_law 781 = .ok (.iload 5, 2) := by decide +kernel
theorem dL_law_783 : decode cL_law 783 = .ok (.ifCond .ne 15, 3) := by decide +kernel
theorem dL_law_786 : decode cL_law 786 = .ok (.aload_n 3, 1) := by decide +kernel
theorem dL_law_787 : decode cL_law 787 = .ok (.iconst 0, 1) := by decide +kernel
theorem dL_law_788 : decode cL_law 788 = .ok (.laload, 1) := by decide +kernel
theorem dL_law_789 : decode cL_law 789 = .ok (.iload 6, 2) := by decide +kernel
theorem dL_law_791 : decode cL_law 791 = .ok (.i2l, 1) := by decide +kernel
theorem dL_law_792 : decode cL_law 792 = .ok (.lcmp, 1) := by decide +kernel
theorem dL_law_793 : decode cL_law 793 = .ok (.ifCond .eq 5, 3) := by decide +kernel
theorem dL_law_796 : decode cL_law 796 = .ok (.iconst 0, 1) := by decide +kernel
theorem dL_law_797 : decode cL_law 797 = .ok (.ireturn, 1) := by decide +kernel
theorem dL_law_798 : decode cL_law 798 = .ok (.goto 642, 3) := by decide +kernel
theorem dL_law_801 : decode cL_law 801 = .ok (.aload_n 1, 1) := by decide +kernel
theorem dL_law_802 : decode cL_law 802 = .ok (.aload_n 0, 1) := by decide +kernel
theorem dL_law_803 : decode cL_law 803 = .ok (.iload 4, 2) := by decide +kernel
theorem dL_law_805 : decode cL_law 805 = .ok (.iconst 1, 1) := by decide +kernel
theorem dL_law_806 : decode cL_law 806 = .ok (.iadd, 1) := by decide +kernel
theorem dL_law_807 : decode cL_law 807 = .ok (.iaload, 1) := by decide +kernel
theorem dL_law_808 : decode cL_law 808 = .ok (.aload_n 3, 1) := by decide +kernel
theorem dL_law_809 : decode cL_law 809 = .ok (.invokestatic 132, 3) := by decide +kernel
theorem dL_law_812 : decode cL_law 812 = .ok (.istore 5, 2) := by decide +kernel
theorem dL_law_814 : decode cL_law 814 = .ok (.aload_n 2, 1) := by decide +kernel
theorem dL_law_815 : decode cL_law 815 = .ok (.aload_n 0, 1) := by decide +kernel
theorem dL_law_816 : decode cL_law 816 = .ok (.iload 4, 2) := by decide +kernel
theorem dL_law_818 : decode cL_law 818 = .ok (.iconst 1, 1) := by decide +kernel
theorem dL_law_819 : decode cL_law 819 = .ok (.iadd, 1) := by decide +kernel
theorem dL_law_820 : decode cL_law 820 = .ok (.iaload, 1) := by decide +kernel
theorem dL_law_821 : decode cL_law 821 = .ok (.invokevirtual 134, 3) := by decide +kernel
theorem dL_law_824 : decode cL_law 824 = .ok (.istore 6, 2) := by decide +kernel
theorem dL_law_826 : decode cL_law 826 = .ok (.aload_n 2, 1) := by decide +kernel
theorem dL_law_827 : decode cL_law 827 = .ok (.invokevirtual 95, 3) := by decide +kernel
theorem dL_law_830 : decode cL_law 830 = .ok (.iload 5, 2) := by decide +kernel
theorem dL_law_832 : decode cL_law 832 = .ok (.if_icmp .eq 5, 3) := by decide +kernel
theorem dL_law_835 : decode cL_law 835 = .ok (.iconst 0, 1) := by decide +kernel
theorem dL_law_836 : decode cL_law 836 = .ok (.ireturn, 1) := by decide +kernel
theorem dL_law_837 : decode cL_law 837 = .ok (.iload 5, 2) := by decide +kernel
theorem dL_law_839 : decode cL_law 839 = .ok (.ifCond .ne 15, 3) := by decide +kernel
theorem dL_law_842 : decode cL_law 842 = .ok (.aload_n 3, 1) := by decide +kernel
theorem dL_law_843 : decode cL_law 843 = .ok (.iconst 0, 1) := by decide +kernel
theorem dL_law_844 : decode cL_law 844 = .ok (.laload, 1) := by decide +kernel
theorem dL_law_845 : decode cL_law 845 = .ok (.iload 6, 2) := by decide +kernel
theorem dL_law_847 : decode cL_law 847 = .ok (.i2l, 1) := by decide +kernel
theorem dL_law_848 : decode cL_law 848 = .ok (.lcmp, 1) := by decide +kernel
theorem dL_law_849 : decode cL_law 849 = .ok (.ifCond .eq 5, 3) := by decide +kernel
theorem dL_law_852 : decode cL_law 852 = .ok (.iconst 0, 1) := by decide +kernel
theorem dL_law_853 : decode cL_law 853 = .ok (.ireturn, 1) := by decide +kernel
theorem dL_law_854 : decode cL_law 854 = .ok (.goto 586, 3) := by decide +kernel
theorem dL_law_857 : decode cL_law 857 = .ok (.aload_n 1, 1) := by decide +kernel
theorem dL_law_858 : decode cL_law 858 = .ok (.aload_n 0, 1) := by decide +kernel
theorem dL_law_859 : decode cL_law 859 = .ok (.iload 4, 2) := by decide +kernel
theorem dL_law_861 : decode cL_law 861 = .ok (.iconst 1, 1) := by decide +kernel
theorem dL_law_862 : decode cL_law 862 = .ok (.iadd, 1) := by decide +kernel
theorem dL_law_863 : decode cL_law 863 = .ok (.iaload, 1) := by decide +kernel
theorem dL_law_864 : decode cL_law 864 = .ok (.aload_n 3, 1) := by decide +kernel
theorem dL_law_865 : decode cL_law 865 = .ok (.invokestatic 135, 3) := by decide +kernel
theorem dL_law_868 : decode cL_law 868 = .ok (.istore 5, 2) := by decide +kernel
theorem dL_law_870 : decode cL_law 870 = .ok (.aload_n 2, 1) := by decide +kernel
theorem dL_law_871 : decode cL_law 871 = .ok (.aload_n 0, 1) := by decide +kernel
theorem dL_law_872 : decode cL_law 872 = .ok (.iload 4, 2) := by decide +kernel
theorem dL_law_874 : decode cL_law 874 = .ok (.iconst 1, 1) := by decide +kernel
theorem dL_law_875 : decode cL_law 875 = .ok (.iadd, 1) := by decide +kernel
theorem dL_law_876 : decode cL_law 876 = .ok (.iaload, 1) := by decide +kernel
theorem dL_law_877 : decode cL_law 877 = .ok (.invokevirtual 137, 3) := by decide +kernel
theorem dL_law_880 : decode cL_law 880 = .ok (.istore 6, 2) := by decide +kernel
theorem dL_law_882 : decode cL_law 882 = .ok (.aload_n 2, 1) := by decide +kernel
theorem dL_law_883 : decode cL_law 883 = .ok (.invokevirtual 95, 3) := by decide +kernel
theorem dL_law_886 : decode cL_law 886 = .ok (.iload 5, 2) := by decide +kernel
theorem dL_law_888 : decode cL_law 888 = .ok (.if_icmp .eq 5, 3) := by decide +kernel
theorem dL_law_891 : decode cL_law 891 = .ok (.iconst 0, 1) := by decide +kernel
theorem dL_law_892 : decode cL_law 892 = .ok (.ireturn, 1) := by decide +kernel
theorem dL_law_893 : decode cL_law 893 = .ok (.iload 5, 2) := by decide +kernel
theorem dL_law_895 : decode cL_law 895 = .ok (.ifCond .ne 15, 3) := by decide +kernel
theorem dL_law_898 : decode cL_law 898 = .ok (.aload_n 3, 1) := by decide +kernel
theorem dL_law_899 : decode cL_law 899 = .ok (.iconst 0, 1) := by decide +kernel
theorem dL_law_900 : decode cL_law 900 = .ok (.laload, 1) := by decide +kernel
theorem dL_law_901 : decode cL_law 901 = .ok (.iload 6, 2) := by decide +kernel
theorem dL_law_903 : decode cL_law 903 = .ok (.i2l, 1) := by decide +kernel
theorem dL_law_904 : decode cL_law 904 = .ok (.lcmp, 1) := by decide +kernel
theorem dL_law_905 : decode cL_law 905 = .ok (.ifCond .eq 5, 3) := by decide +kernel
theorem dL_law_908 : decode cL_law 908 = .ok (.iconst 0, 1) := by decide +kernel
theorem dL_law_909 : decode cL_law 909 = .ok (.ireturn, 1) := by decide +kernel
theorem dL_law_910 : decode cL_law 910 = .ok (.goto 530, 3) := by decide +kernel
theorem dL_law_913 : decode cL_law 913 = .ok (.aload_n 1, 1) := by decide +kernel
theorem dL_law_914 : decode cL_law 914 = .ok (.invokevirtual 138, 3) := by decide +kernel
theorem dL_law_917 : decode cL_law 917 = .ok (.aload_n 2, 1) := by decide +kernel
theorem dL_law_918 : decode cL_law 918 = .ok (.invokevirtual 141, 3) := by decide +kernel
theorem dL_law_921 : decode cL_law 921 = .ok (.if_icmp .eq 519, 3) := by decide +kernel
theorem dL_law_924 : decode cL_law 924 = .ok (.iconst 0, 1) := by decide +kernel
theorem dL_law_925 : decode cL_law 925 = .ok (.ireturn, 1) := by decide +kernel
theorem dL_law_926 : decode cL_law 926 = .ok (.aload_n 1, 1) := by decide +kernel
theorem dL_law_927 : decode cL_law 927 = .ok (.aload_n 0, 1) := by decide +kernel
theorem dL_law_928 : decode cL_law 928 = .ok (.iload 4, 2) := by decide +kernel
theorem dL_law_930 : decode cL_law 930 = .ok (.iconst 1, 1) := by decide +kernel
theorem dL_law_931 : decode cL_law 931 = .ok (.iadd, 1) := by decide +kernel
theorem dL_law_932 : decode cL_law 932 = .ok (.iaload, 1) := by decide +kernel
theorem dL_law_933 : decode cL_law 933 = .ok (.aload_n 3, 1) := by decide +kernel
theorem dL_law_934 : decode cL_law 934 = .ok (.invokestatic 142, 3) := by decide +kernel
theorem dL_law_937 : decode cL_law 937 = .ok (.istore 5, 2) := by decide +kernel
theorem dL_law_939 : decode cL_law 939 = .ok (.aload_n 2, 1) := by decide +kernel
theorem dL_law_940 : decode cL_law 940 = .ok (.aload_n 0, 1) := by decide +kernel
theorem dL_law_941 : decode cL_law 941 = .ok (.iload 4, 2) := by decide +kernel
theorem dL_law_943 : decode cL_law 943 = .ok (.iconst 1, 1) := by decide +kernel
theorem dL_law_944 : decode cL_law 944 = .ok (.iadd, 1) := by decide +kernel
theorem dL_law_945 : decode cL_law 945 = .ok (.iaload, 1) := by decide +kernel
theorem dL_law_946 : decode cL_law 946 = .ok (.invokevirtual 144, 3) := by decide +kernel
theorem dL_law_949 : decode cL_law 949 = .ok (.istore 6, 2) := by decide +kernel
theorem dL_law_951 : decode cL_law 951 = .ok (.aload_n 2, 1) := by decide +kernel
theorem dL_law_952 : decode cL_law 952 = .ok (.invokevirtual 95, 3) := by decide +kernel
theorem dL_law_955 : decode cL_law 955 = .ok (.iload 5, 2) := by decide +kernel
theorem dL_law_957 : decode cL_law 957 = .ok (.if_icmp .eq 5, 3) := by decide +kernel
theorem dL_law_960 : decode cL_law 960 = .ok (.iconst 0, 1) := by decide +kernel
theorem dL_law_961 : decode cL_law 961 = .ok (.ireturn, 1) := by decide +kernel
theorem dL_law_962 : decode cL_law 962 = .ok (.iload 5, 2) := by decide +kernel
theorem dL_law_964 : decode cL_law 964 = .ok (.ifCond .ne 15, 3) := by decide +kernel
theorem dL_law_967 : decode cL_law 967 = .ok (.aload_n 3, 1) := by decide +kernel
theorem dL_law_968 : decode cL_law 968 = .ok (.iconst 0, 1) := by decide +kernel
theorem dL_law_969 : decode cL_law 969 = .ok (.laload, 1) := by decide +kernel
theorem dL_law_970 : decode cL_law 970 = .ok (.iload 6, 2) := by decide +kernel
theorem dL_law_972 : decode cL_law 972 = .ok (.i2l, 1) := by decide +kernel
theorem dL_law_973 : decode cL_law 973 = .ok (.lcmp, 1) := by decide +kernel
theorem dL_law_974 : decode cL_law 974 = .ok (.ifCond .eq 5, 3) := by decide +kernel
theorem dL_law_977 : decode cL_law 977 = .ok (.iconst 0, 1) := by decide +kernel
theorem dL_law_978 : decode cL_law 978 = .ok (.ireturn, 1) := by decide +kernel
theorem dL_law_979 : decode cL_law 979 = .ok (.goto 461, 3) := by decide +kernel
theorem dL_law_982 : decode cL_law 982 = .ok (.aload_n 1, 1) := by decide +kernel
theorem dL_law_983 : decode cL_law 983 = .ok (.aload_n 0, 1) := by decide +kernel
theorem dL_law_984 : decode cL_law 984 = .ok (.iload 4, 2) := by decide +kernel
theorem dL_law_986 : decode cL_law 986 = .ok (.iconst 1, 1) := by decide +kernel
theorem dL_law_987 : decode cL_law 987 = .ok (.iadd, 1) := by decide +kernel
theorem dL_law_988 : decode cL_law 988 = .ok (.iaload, 1) := by decide +kernel
theorem dL_law_989 : decode cL_law 989 = .ok (.aload_n 3, 1) := by decide +kernel
theorem dL_law_990 : decode cL_law 990 = .ok (.invokestatic 145, 3) := by decide +kernel
theorem dL_law_993 : decode cL_law 993 = .ok (.istore 5, 2) := by decide +kernel
theorem dL_law_995 : decode cL_law 995 = .ok (.aload_n 2, 1) := by decide +kernel
theorem dL_law_996 : decode cL_law 996 = .ok (.aload_n 0, 1) := by decide +kernel
theorem dL_law_997 : decode cL_law 997 = .ok (.iload 4, 2) := by decide +kernel
theorem dL_law_999 : decode cL_law 999 = .ok (.iconst 1, 1) := by decide +kernel
theorem dL_law_1000 : decode cL_law 1000 = .ok (.iadd, 1) := by decide +kernel
theorem dL_law_1001 : decode cL_law 1001 = .ok (.iaload, 1) := by decide +kernel
theorem dL_law_1002 : decode cL_law 1002 = .ok (.invokevirtual 147, 3) := by decide +kernel
theorem dL_law_1005 : decode cL_law 1005 = .ok (.istore 6, 2) := by decide +kernel
theorem dL_law_1007 : decode cL_law 1007 = .ok (.aload_n 2, 1) := by decide +kernel
theorem dL_law_1008 : decode cL_law 1008 = .ok (.invokevirtual 95, 3) := by decide +kernel
theorem dL_law_1011 : decode cL_law 1011 = .ok (.iload 5, 2) := by decide +kernel
theorem dL_law_1013 : decode cL_law 1013 = .ok (.if_icmp .eq 5, 3) := by decide +kernel
theorem dL_law_1016 : decode cL_law 1016 = .ok (.iconst 0, 1) := by decide +kernel
theorem dL_law_1017 : decode cL_law 1017 = .ok (.ireturn, 1) := by decide +kernel
theorem dL_law_1018 : decode cL_law 1018 = .ok (.iload 5, 2) := by decide +kernel
theorem dL_law_1020 : decode cL_law 1020 = .ok (.ifCond .ne 15, 3) := by decide +kernel
theorem dL_law_1023 : decode cL_law 1023 = .ok (.aload_n 3, 1) := by decide +kernel
theorem dL_law_1024 : decode cL_law 1024 = .ok (.iconst 0, 1) := by decide +kernel
theorem dL_law_1025 : decode cL_law 1025 = .ok (.laload, 1) := by decide +kernel
theorem dL_law_1026 : decode cL_law 1026 = .ok (.iload 6, 2) := by decide +kernel
theorem dL_law_1028 : decode cL_law 1028 = .ok (.i2l, 1) := by decide +kernel
theorem dL_law_1029 : decode cL_law 1029 = .ok (.lcmp, 1) := by decide +kernel
theorem dL_law_1030 : decode cL_law 1030 = .ok (.ifCond .eq 5, 3) := by decide +kernel
theorem dL_law_1033 : decode cL_law 1033 = .ok (.iconst 0, 1) := by decide +kernel
theorem dL_law_1034 : decode cL_law 1034 = .ok (.ireturn, 1) := by decide +kernel
theorem dL_law_1035 : decode cL_law 1035 = .ok (.goto 405, 3) := by decide +kernel
theorem dL_law_1038 : decode cL_law 1038 = .ok (.aload_n 1, 1) := by decide +kernel
theorem dL_law_1039 : decode cL_law 1039 = .ok (.aload_n 0, 1) := by decide +kernel
theorem dL_law_1040 : decode cL_law 1040 = .ok (.iload 4, 2) := by decide +kernel
theorem dL_law_1042 : decode cL_law 1042 = .ok (.iconst 1, 1) := by decide +kernel
theorem dL_law_1043 : decode cL_law 1043 = .ok (.iadd, 1) := by decide +kernel
theorem dL_law_1044 : decode cL_law 1044 = .ok (.iaload, 1) := by decide +kernel
theorem dL_law_1045 : decode cL_law 1045 = .ok (.aload_n 3, 1) := by decide +kernel
theorem dL_law_1046 : decode cL_law 1046 = .ok (.invokestatic 148, 3) := by decide +kernel
theorem dL_law_1049 : decode cL_law 1049 = .ok (.istore 5, 2) := by decide +kernel
theorem dL_law_1051 : decode cL_law 1051 = .ok (.aload_n 2, 1) := by decide +kernel
theorem dL_law_1052 : decode cL_law 1052 = .ok (.aload_n 0, 1) := by decide +kernel
theorem dL_law_1053 : decode cL_law 1053 = .ok (.iload 4, 2) := by decide +kernel
theorem dL_law_1055 : decode cL_law 1055 = .ok (.iconst 1, 1) := by decide +kernel
theorem dL_law_1056 : decode cL_law 1056 = .ok (.iadd, 1) := by decide +kernel
theorem dL_law_1057 : decode cL_law 1057 = .ok (.iaload, 1) := by decide +kernel
theorem dL_law_1058 : decode cL_law 1058 = .ok (.invokevirtual 150, 3) := by decide +kernel
theorem dL_law_1061 : decode cL_law 1061 = .ok (.istore 6, 2) := by decide +kernel
theorem dL_law_1063 : decode cL_law 1063 = .ok (.aload_n 2, 1) := by decide +kernel
theorem dL_law_1064 : decode cL_law 1064 = .ok (.invokevirtual 95, 3) := by decide +kernel
theorem dL_law_1067 : decode cL_law 1067 = .ok (.iload 5, 2) := by decide +kernel
theorem dL_law_1069 : decode cL_law 1069 = .ok (.if_icmp .eq 5, 3) := by decide +kernel
theorem dL_law_1072 : decode cL_law 1072 = .ok (.iconst 0, 1) := by decide +kernel
theorem dL_law_1073 : decode cL_law 1073 = .ok (.ireturn, 1) := by decide +kernel
theorem dL_law_1074 : decode cL_law 1074 = .ok (.iload 5, 2) := by decide +kernel
theorem dL_law_1076 : decode cL_law 1076 = .ok (.ifCond .ne 15, 3) := by decide +kernel
theorem dL_law_1079 : decode cL_law 1079 = .ok (.aload_n 3, 1) := by decide +kernel
theorem dL_law_1080 : decode cL_law 1080 = .ok (.iconst 0, 1) := by decide +kernel
theorem dL_law_1081 : decode cL_law 1081 = .ok (.laload, 1) := by decide +kernel
theorem dL_law_1082 : decode cL_law 1082 = .ok (.iload 6, 2) := by decide +kernel
theorem dL_law_1084 : decode cL_law 1084 = .ok (.i2l, 1) := by decide +kernel
theorem dL_law_1085 : decode cL_law 1085 = .ok (.lcmp, 1) := by decide +kernel
theorem dL_law_1086 : decode cL_law 1086 = .ok (.ifCond .eq 5, 3) := by decide +kernel
theorem dL_law_1089 : decode cL_law 1089 = .ok (.iconst 0, 1) := by decide +kernel
theorem dL_law_1090 : decode cL_law 1090 = .ok (.ireturn, 1) := by decide +kernel
theorem dL_law_1091 : decode cL_law 1091 = .ok (.goto 349, 3) := by decide +kernel
theorem dL_law_1094 : decode cL_law 1094 = .ok (.aload_n 1, 1) := by decide +kernel
theorem dL_law_1095 : decode cL_law 1095 = .ok (.aload_n 0, 1) := by decide +kernel
theorem dL_law_1096 : decode cL_law 1096 = .ok (.iload 4, 2) := by decide +kernel
theorem dL_law_1098 : decode cL_law 1098 = .ok (.iconst 1, 1) := by decide +kernel
theorem dL_law_1099 : decode cL_law 1099 = .ok (.iadd, 1) := by decide +kernel
theorem dL_law_1100 : decode cL_law 1100 = .ok (.iaload, 1) := by decide +kernel
theorem dL_law_1101 : decode cL_law 1101 = .ok (.aload_n 3, 1) := by decide +kernel
theorem dL_law_1102 : decode cL_law 1102 = .ok (.invokestatic 151, 3) := by decide +kernel
theorem dL_law_1105 : decode cL_law 1105 = .ok (.istore 5, 2) := by decide +kernel
theorem dL_law_1107 : decode cL_law 1107 = .ok (.aload_n 2, 1) := by decide +kernel
theorem dL_law_1108 : decode cL_law 1108 = .ok (.aload_n 0, 1) := by decide +kernel
theorem dL_law_1109 : decode cL_law 1109 = .ok (.iload 4, 2) := by decide +kernel
theorem dL_law_1111 : decode cL_law 1111 = .ok (.iconst 1, 1) := by decide +kernel
theorem dL_law_1112 : decode cL_law 1112 = .ok (.iadd, 1) := by decide +kernel
theorem dL_law_1113 : decode cL_law 1113 = .ok (.iaload, 1) := by decide +kernel
theorem dL_law_1114 : decode cL_law 1114 = .ok (.invokevirtual 153, 3) := by decide +kernel
theorem dL_law_1117 : decode cL_law 1117 = .ok (.istore 6, 2) := by decide +kernel
theorem dL_law_1119 : decode cL_law 1119 = .ok (.aload_n 2, 1) := by decide +kernel
theorem dL_law_1120 : decode cL_law 1120 = .ok (.invokevirtual 95, 3) := by decide +kernel
theorem dL_law_1123 : decode cL_law 1123 = .ok (.iload 5, 2) := by decide +kernel
theorem dL_law_1125 : decode cL_law 1125 = .ok (.if_icmp .eq 5, 3) := by decide +kernel
theorem dL_law_1128 : decode cL_law 1128 = .ok (.iconst 0, 1) := by decide +kernel
theorem dL_law_1129 : decode cL_law 1129 = .ok (.ireturn, 1) := by decide +kernel
theorem dL_law_1130 : decode cL_law 1130 = .ok (.iload 5, 2) := by decide +kernel
theorem dL_law_1132 : decode cL_law 1132 = .ok (.ifCond .ne 15, 3) := by decide +kernel
theorem dL_law_1135 : decode cL_law 1135 = .ok (.aload_n 3, 1) := by decide +kernel
theorem dL_law_1136 : decode cL_law 1136 = .ok (.iconst 0, 1) := by decide +kernel
theorem dL_law_1137 : decode cL_law 1137 = .ok (.laload, 1) := by decide +kernel
theorem dL_law_1138 : decode cL_law 1138 = .ok (.iload 6, 2) := by decide +kernel
theorem dL_law_1140 : decode cL_law 1140 = .ok (.i2l, 1) := by decide +kernel
theorem dL_law_1141 : decode cL_law 1141 = .ok (.lcmp, 1) := by decide +kernel
theorem dL_law_1142 : decode cL_law 1142 = .ok (.ifCond .eq 5, 3) := by decide +kernel
theorem dL_law_1145 : decode cL_law 1145 = .ok (.iconst 0, 1) := by decide +kernel
theorem dL_law_1146 : decode cL_law 1146 = .ok (.ireturn, 1) := by decide +kernel
theorem dL_law_1147 : decode cL_law 1147 = .ok (.goto 293, 3) := by decide +kernel
theorem dL_law_1150 : decode cL_law 1150 = .ok (.aload_n 1, 1) := by decide +kernel
theorem dL_law_1151 : decode cL_law 1151 = .ok (.aload_n 0, 1) := by decide +kernel
theorem dL_law_1152 : decode cL_law 1152 = .ok (.iload 4, 2) := by decide +kernel
theorem dL_law_1154 : decode cL_law 1154 = .ok (.iconst 1, 1) := by decide +kernel
theorem dL_law_1155 : decode cL_law 1155 = .ok (.iadd, 1) := by decide +kernel
theorem dL_law_1156 : decode cL_law 1156 = .ok (.iaload, 1) := by decide +kernel
theorem dL_law_1157 : decode cL_law 1157 = .ok (.aload_n 3, 1) := by decide +kernel
theorem dL_law_1158 : decode cL_law 1158 = .ok (.invokestatic 154, 3) := by decide +kernel
theorem dL_law_1161 : decode cL_law 1161 = .ok (.istore 5, 2) := by decide +kernel
theorem dL_law_1163 : decode cL_law 1163 = .ok (.aload_n 2, 1) := by decide +kernel
theorem dL_law_1164 : decode cL_law 1164 = .ok (.aload_n 0, 1) := by decide +kernel
theorem dL_law_1165 : decode cL_law 1165 = .ok (.iload 4, 2) := by decide +kernel
theorem dL_law_1167 : decode cL_law 1167 = .ok (.iconst 1, 1) := by decide +kernel
theorem dL_law_1168 : decode cL_law 1168 = .ok (.iadd, 1) := by decide +kernel
theorem dL_law_1169 : decode cL_law 1169 = .ok (.iaload, 1) := by decide +kernel
theorem dL_law_1170 : decode cL_law 1170 = .ok (.invokevirtual 156, 3) := by decide +kernel
theorem dL_law_1173 : decode cL_law 1173 = .ok (.istore 6, 2) := by decide +kernel
theorem dL_law_1175 : decode cL_law 1175 = .ok (.aload_n 2, 1) := by decide +kernel
theorem dL_law_1176 : decode cL_law 1176 = .ok (.invokevirtual 95, 3) := by decide +kernel
theorem dL_law_1179 : decode cL_law 1179 = .ok (.iload 5, 2) := by decide +kernel
theorem dL_law_1181 : decode cL_law 1181 = .ok (.if_icmp .eq 5, 3) := by decide +kernel
theorem dL_law_1184 : decode cL_law 1184 = .ok (.iconst 0, 1) := by decide +kernel
theorem dL_law_1185 : decode cL_law 1185 = .ok (.ireturn, 1) := by decide +kernel
theorem dL_law_1186 : decode cL_law 1186 = .ok (.iload 5, 2) := by decide +kernel
theorem dL_law_1188 : decode cL_law 1188 = .ok (.ifCond .ne 15, 3) := by decide +kernel
theorem dL_law_1191 : decode cL_law 1191 = .ok (.aload_n 3, 1) := by decide +kernel
theorem dL_law_1192 : decode cL_law 1192 = .ok (.iconst 0, 1) := by decide +kernel
theorem dL_law_1193 : decode cL_law 1193 = .ok (.laload, 1) := by decide +kernel
theorem dL_law_1194 : decode cL_law 1194 = .ok (.iload 6, 2) := by decide +kernel
theorem dL_law_1196 : decode cL_law 1196 = .ok (.i2l, 1) := by decide +kernel
theorem dL_law_1197 : decode cL_law 1197 = .ok (.lcmp, 1) := by decide +kernel
theorem dL_law_1198 : decode cL_law 1198 = .ok (.ifCond .eq 5, 3) := by decide +kernel
theorem dL_law_1201 : decode cL_law 1201 = .ok (.iconst 0, 1) := by decide +kernel
theorem dL_law_1202 : decode cL_law 1202 = .ok (.ireturn, 1) := by decide +kernel
theorem dL_law_1203 : decode cL_law 1203 = .ok (.goto 237, 3) := by decide +kernel
theorem dL_law_1206 : decode cL_law 1206 = .ok (.aload_n 1, 1) := by decide +kernel
theorem dL_law_1207 : decode cL_law 1207 = .ok (.aload_n 0, 1) := by decide +kernel
theorem dL_law_1208 : decode cL_law 1208 = .ok (.iload 4, 2) := by decide +kernel
theorem dL_law_1210 : decode cL_law 1210 = .ok (.iconst 1, 1) := by decide +kernel
theorem dL_law_1211 : decode cL_law 1211 = .ok (.iadd, 1) := by decide +kernel
theorem dL_law_1212 : decode cL_law 1212 = .ok (.iaload, 1) := by decide +kernel
theorem dL_law_1213 : decode cL_law 1213 = .ok (.aload_n 3, 1) := by decide +kernel
theorem dL_law_1214 : decode cL_law 1214 = .ok (.invokestatic 157, 3) := by decide +kernel
theorem dL_law_1217 : decode cL_law 1217 = .ok (.istore 5, 2) := by decide +kernel
theorem dL_law_1219 : decode cL_law 1219 = .ok (.aload_n 2, 1) := by decide +kernel
theorem dL_law_1220 : decode cL_law 1220 = .ok (.aload_n 0, 1) := by decide +kernel
theorem dL_law_1221 : decode cL_law 1221 = .ok (.iload 4, 2) := by decide +kernel
theorem dL_law_1223 : decode cL_law 1223 = .ok (.iconst 1, 1) := by decide +kernel
theorem dL_law_1224 : decode cL_law 1224 = .ok (.iadd, 1) := by decide +kernel
theorem dL_law_1225 : decode cL_law 1225 = .ok (.iaload, 1) := by decide +kernel
theorem dL_law_1226 : decode cL_law 1226 = .ok (.invokevirtual 159, 3) := by decide +kernel
theorem dL_law_1229 : decode cL_law 1229 = .ok (.istore 6, 2) := by decide +kernel
theorem dL_law_1231 : decode cL_law 1231 = .ok (.aload_n 2, 1) := by decide +kernel
theorem dL_law_1232 : decode cL_law 1232 = .ok (.invokevirtual 95, 3) := by decide +kernel
theorem dL_law_1235 : decode cL_law 1235 = .ok (.iload 5, 2) := by decide +kernel
theorem dL_law_1237 : decode cL_law 1237 = .ok (.if_icmp .eq 5, 3) := by decide +kernel
theorem dL_law_1240 : decode cL_law 1240 = .ok (.iconst 0, 1) := by decide +kernel
theorem dL_law_1241 : decode cL_law 1241 = .ok (.ireturn, 1) := by decide +kernel
theorem dL_law_1242 : decode cL_law 1242 = .ok (.iload 5, 2) := by decide +kernel
theorem dL_law_1244 : decode cL_law 1244 = .ok (.ifCond .ne 15, 3) := by decide +kernel
theorem dL_law_1247 : decode cL_law 1247 = .ok (.aload_n 3, 1) := by decide +kernel
theorem dL_law_1248 : decode cL_law 1248 = .ok (.iconst 0, 1) := by decide +kernel
theorem dL_law_1249 : decode cL_law 1249 = .ok (.laload, 1) := by decide +kernel
theorem dL_law_1250 : decode cL_law 1250 = .ok (.iload 6, 2) := by decide +kernel
theorem dL_law_1252 : decode cL_law 1252 = .ok (.i2l, 1) := by decide +kernel
theorem dL_law_1253 : decode cL_law 1253 = .ok (.lcmp, 1) := by decide +kernel
theorem dL_law_1254 : decode cL_law 1254 = .ok (.ifCond .eq 5, 3) := by decide +kernel
theorem dL_law_1257 : decode cL_law 1257 = .ok (.iconst 0, 1) := by decide +kernel
theorem dL_law_1258 : decode cL_law 1258 = .ok (.ireturn, 1) := by decide +kernel
theorem dL_law_1259 : decode cL_law 1259 = .ok (.goto 181, 3) := by decide +kernel
theorem dL_law_1262 : decode cL_law 1262 = .ok (.aload_n 1, 1) := by decide +kernel
theorem dL_law_1263 : decode cL_law 1263 = .ok (.aload_n 0, 1) := by decide +kernel
theorem dL_law_1264 : decode cL_law 1264 = .ok (.iload 4, 2) := by decide +kernel
theorem dL_law_1266 : decode cL_law 1266 = .ok (.iconst 1, 1) := by decide +kernel
theorem dL_law_1267 : decode cL_law 1267 = .ok (.iadd, 1) := by decide +kernel
theorem dL_law_1268 : decode cL_law 1268 = .ok (.iaload, 1) := by decide +kernel
theorem dL_law_1269 : decode cL_law 1269 = .ok (.aload_n 0, 1) := by decide +kernel
theorem dL_law_1270 : decode cL_law 1270 = .ok (.iload 4, 2) := by decide +kernel
theorem dL_law_1272 : decode cL_law 1272 = .ok (.iconst 2, 1) := by decide +kernel
theorem dL_law_1273 : decode cL_law 1273 = .ok (.iadd, 1) := by decide +kernel
theorem dL_law_1274 : decode cL_law 1274 = .ok (.iaload, 1) := by decide +kernel
theorem dL_law_1275 : decode cL_law 1275 = .ok (.aload_n 3, 1) := by decide +kernel
theorem dL_law_1276 : decode cL_law 1276 = .ok (.invokestatic 160, 3) := by decide +kernel
theorem dL_law_1279 : decode cL_law 1279 = .ok (.istore 5, 2) := by decide +kernel
theorem dL_law_1281 : decode cL_law 1281 = .ok (.aload_n 2, 1) := by decide +kernel
theorem dL_law_1282 : decode cL_law 1282 = .ok (.aload_n 0, 1) := by decide +kernel
theorem dL_law_1283 : decode cL_law 1283 = .ok (.iload 4, 2) := by decide +kernel
theorem dL_law_1285 : decode cL_law 1285 = .ok (.iconst 1, 1) := by decide +kernel
theorem dL_law_1286 : decode cL_law 1286 = .ok (.iadd, 1) := by decide +kernel
theorem dL_law_1287 : decode cL_law 1287 = .ok (.iaload, 1) := by decide +kernel
theorem dL_law_1288 : decode cL_law 1288 = .ok (.aload_n 0, 1) := by decide +kernel
theorem dL_law_1289 : decode cL_law 1289 = .ok (.iload 4, 2) := by decide +kernel
theorem dL_law_1291 : decode cL_law 1291 = .ok (.iconst 2, 1) := by decide +kernel
theorem dL_law_1292 : decode cL_law 1292 = .ok (.iadd, 1) := by decide +kernel
theorem dL_law_1293 : decode cL_law 1293 = .ok (.iaload, 1) := by decide +kernel
theorem dL_law_1294 : decode cL_law 1294 = .ok (.invokevirtual 162, 3) := by decide +kernel
theorem dL_law_1297 : decode cL_law 1297 = .ok (.istore 6, 2) := by decide +kernel
theorem dL_law_1299 : decode cL_law 1299 = .ok (.aload_n 2, 1) := by decide +kernel
theorem dL_law_1300 : decode cL_law 1300 = .ok (.invokevirtual 95, 3) := by decide +kernel
theorem dL_law_1303 : decode cL_law 1303 = .ok (.iload 5, 2) := by decide +kernel
theorem dL_law_1305 : decode cL_law 1305 = .ok (.if_icmp .eq 5, 3) := by decide +kernel
theorem dL_law_1308 : decode cL_law 1308 = .ok (.iconst 0, 1) := by decide +kernel
theorem dL_law_1309 : decode cL_law 1309 = .ok (.ireturn, 1) := by decide +kernel
theorem dL_law_1310 : decode cL_law 1310 = .ok (.iload 5, 2) := by decide +kernel
theorem dL_law_1312 : decode cL_law 1312 = .ok (.ifCond .ne 15, 3) := by decide +kernel
theorem dL_law_1315 : decode cL_law 1315 = .ok (.aload_n 3, 1) := by decide +kernel
theorem dL_law_1316 : decode cL_law 1316 = .ok (.iconst 0, 1) := by decide +kernel
theorem dL_law_1317 : decode cL_law 1317 = .ok (.laload, 1) := by decide +kernel
theorem dL_law_1318 : decode cL_law 1318 = .ok (.iload 6, 2) := by decide +kernel
theorem dL_law_1320 : decode cL_law 1320 = .ok (.i2l, 1) := by decide +kernel
theorem dL_law_1321 : decode cL_law 1321 = .ok (.lcmp, 1) := by decide +kernel
theorem dL_law_1322 : decode cL_law 1322 = .ok (.ifCond .eq 5, 3) := by decide +kernel
theorem dL_law_1325 : decode cL_law 1325 = .ok (.iconst 0, 1) := by decide +kernel
theorem dL_law_1326 : decode cL_law 1326 = .ok (.ireturn, 1) := by decide +kernel
theorem dL_law_1327 : decode cL_law 1327 = .ok (.goto 113, 3) := by decide +kernel
theorem dL_law_1330 : decode cL_law 1330 = .ok (.aload_n 1, 1) := by decide +kernel
theorem dL_law_1331 : decode cL_law 1331 = .ok (.aload_n 0, 1) := by decide +kernel
theorem dL_law_1332 : decode cL_law 1332 = .ok (.iload 4, 2) := by decide +kernel
theorem dL_law_1334 : decode cL_law 1334 = .ok (.iconst 1, 1) := by decide +kernel
theorem dL_law_1335 : decode cL_law 1335 = .ok (.iadd, 1) := by decide +kernel
theorem dL_law_1336 : decode cL_law 1336 = .ok (.iaload, 1) := by decide +kernel
theorem dL_law_1337 : decode cL_law 1337 = .ok (.aload_n 3, 1) := by decide +kernel
theorem dL_law_1338 : decode cL_law 1338 = .ok (.invokestatic 163, 3) := by decide +kernel
theorem dL_law_1341 : decode cL_law 1341 = .ok (.istore 5, 2) := by decide +kernel
theorem dL_law_1343 : decode cL_law 1343 = .ok (.aload_n 2, 1) := by decide +kernel
theorem dL_law_1344 : decode cL_law 1344 = .ok (.aload_n 0, 1) := by decide +kernel
theorem dL_law_1345 : decode cL_law 1345 = .ok (.iload 4, 2) := by decide +kernel
theorem dL_law_1347 : decode cL_law 1347 = .ok (.iconst 1, 1) := by decide +kernel
theorem dL_law_1348 : decode cL_law 1348 = .ok (.iadd, 1) := by decide +kernel
theorem dL_law_1349 : decode cL_law 1349 = .ok (.iaload, 1) := by decide +kernel
theorem dL_law_1350 : decode cL_law 1350 = .ok (.invokevirtual 165, 3) := by decide +kernel
theorem dL_law_1353 : decode cL_law 1353 = .ok (.istore 6, 2) := by decide +kernel
theorem dL_law_1355 : decode cL_law 1355 = .ok (.aload_n 2, 1) := by decide +kernel
theorem dL_law_1356 : decode cL_law 1356 = .ok (.invokevirtual 95, 3) := by decide +kernel
theorem dL_law_1359 : decode cL_law 1359 = .ok (.iload 5, 2) := by decide +kernel
theorem dL_law_1361 : decode cL_law 1361 = .ok (.if_icmp .eq 5, 3) := by decide +kernel
theorem dL_law_1364 : decode cL_law 1364 = .ok (.iconst 0, 1) := by decide +kernel
theorem dL_law_1365 : decode cL_law 1365 = .ok (.ireturn, 1) := by decide +kernel
theorem dL_law_1366 : decode cL_law 1366 = .ok (.iload 5, 2) := by decide +kernel
theorem dL_law_1368 : decode cL_law 1368 = .ok (.ifCond .ne 15, 3) := by decide +kernel
theorem dL_law_1371 : decode cL_law 1371 = .ok (.aload_n 3, 1) := by decide +kernel
theorem dL_law_1372 : decode cL_law 1372 = .ok (.iconst 0, 1) := by decide +kernel
theorem dL_law_1373 : decode cL_law 1373 = .ok (.laload, 1) := by decide +kernel
theorem dL_law_1374 : decode cL_law 1374 = .ok (.iload 6, 2) := by decide +kernel
theorem dL_law_1376 : decode cL_law 1376 = .ok (.i2l, 1) := by decide +kernel
theorem dL_law_1377 : decode cL_law 1377 = .ok (.lcmp, 1) := by decide +kernel
theorem dL_law_1378 : decode cL_law 1378 = .ok (.ifCond .eq 5, 3) := by decide +kernel
theorem dL_law_1381 : decode cL_law 1381 = .ok (.iconst 0, 1) := by decide +kernel
theorem dL_law_1382 : decode cL_law 1382 = .ok (.ireturn, 1) := by decide +kernel
theorem dL_law_1383 : decode cL_law 1383 = .ok (.goto 57, 3) := by decide +kernel
theorem dL_law_1386 : decode cL_law 1386 = .ok (.aload_n 1, 1) := by decide +kernel
theorem dL_law_1387 : decode cL_law 1387 = .ok (.invokevirtual 166, 3) := by decide +kernel
theorem dL_law_1390 : decode cL_law 1390 = .ok (.aload_n 2, 1) := by decide +kernel
theorem dL_law_1391 : decode cL_law 1391 = .ok (.invokevirtual 169, 3) := by decide +kernel
theorem dL_law_1394 : decode cL_law 1394 = .ok (.if_icmp .eq 46, 3) := by decide +kernel
theorem dL_law_1397 : decode cL_law 1397 = .ok (.iconst 0, 1) := by decide +kernel
theorem dL_law_1398 : decode cL_law 1398 = .ok (.ireturn, 1) := by decide +kernel
theorem dL_law_1399 : decode cL_law 1399 = .ok (.aload_n 1, 1) := by decide +kernel
theorem dL_law_1400 : decode cL_law 1400 = .ok (.invokevirtual 170, 3) := by decide +kernel
theorem dL_law_1403 : decode cL_law 1403 = .ok (.dstore 5, 2) := by decide +kernel
theorem dL_law_1405 : decode cL_law 1405 = .ok (.aload_n 2, 1) := by decide +kernel
theorem dL_law_1406 : decode cL_law 1406 = .ok (.invokevirtual 174, 3) := by decide +kernel
theorem dL_law_1409 : decode cL_law 1409 = .ok (.dstore 7, 2) := by decide +kernel
theorem dL_law_1411 : decode cL_law 1411 = .ok (.dload 5, 2) := by decide +kernel
theorem dL_law_1413 : decode cL_law 1413 = .ok (.dload 7, 2) := by decide +kernel
theorem dL_law_1415 : decode cL_law 1415 = .ok (.dcmp .l, 1) := by decide +kernel
theorem dL_law_1416 : decode cL_law 1416 = .ok (.ifCond .eq 21, 3) := by decide +kernel
theorem dL_law_1419 : decode cL_law 1419 = .ok (.dload 5, 2) := by decide +kernel
theorem dL_law_1421 : decode cL_law 1421 = .ok (.dload 5, 2) := by decide +kernel
theorem dL_law_1423 : decode cL_law 1423 = .ok (.dcmp .l, 1) := by decide +kernel
theorem dL_law_1424 : decode cL_law 1424 = .ok (.ifCond .eq 11, 3) := by decide +kernel
theorem dL_law_1427 : decode cL_law 1427 = .ok (.dload 7, 2) := by decide +kernel
theorem dL_law_1429 : decode cL_law 1429 = .ok (.dload 7, 2) := by decide +kernel
theorem dL_law_1431 : decode cL_law 1431 = .ok (.dcmp .l, 1) := by decide +kernel
theorem dL_law_1432 : decode cL_law 1432 = .ok (.ifCond .ne 5, 3) := by decide +kernel
theorem dL_law_1435 : decode cL_law 1435 = .ok (.iconst 0, 1) := by decide +kernel
theorem dL_law_1436 : decode cL_law 1436 = .ok (.ireturn, 1) := by decide +kernel
theorem dL_law_1437 : decode cL_law 1437 = .ok (.goto 3, 3) := by decide +kernel
theorem dL_law_1440 : decode cL_law 1440 = .ok (.iinc 4 4, 3) := by decide +kernel
theorem dL_law_1443 : decode cL_law 1443 = .ok (.goto (-1390), 3) := by decide +kernel
theorem dL_law_1446 : decode cL_law 1446 = .ok (.iconst 1, 1) := by decide +kernel
theorem dL_law_1447 : decode cL_law 1447 = .ok (.ireturn, 1) := by decide +kernel
end
section
/-! ===== the store: addresses, kinds, lengths, whole numbers, references, long numbers ===== -/
abbrev Sto : Type := List Nat × (Nat → Nat) × (Nat → Nat) × (Nat → Int → Int) × (Nat → Int → Option Nat) × (Nat → Int → Int)
abbrev sL (S : Sto) : List Nat := S.1
abbrev sK (S : Sto) : Nat → Nat := S.2.1
abbrev sN (S : Sto) : Nat → Nat := S.2.2.1
abbrev sI (S : Sto) : Nat → Int → Int := S.2.2.2.1
abbrev sP (S : Sto) : Nat → Int → Option Nat := S.2.2.2.2.1
abbrev sJ (S : Sto) : Nat → Int → Int := S.2.2.2.2.2
def up2 {α : Type} (f : Nat → Int → α) (a : Nat) (k : Int) (v : α) : Nat → Int → α := fun b j => if b = a ∧ j = k then v else f b j
theorem up2_same {α : Type} (f : Nat → Int → α) (a : Nat) (k : Int) (v : α) : up2 f a k v a k = v := by simp [up2]
theorem up2_ne {α : Type} (f : Nat → Int → α) {a b : Nat} (k j : Int) (v : α) (h : b ≠ a) : up2 f a k v b j = f b j := by simp [up2, h]
theorem up2_nk {α : Type} (f : Nat → Int → α) (a b : Nat) {k j : Int} (v : α) (h : j ≠ k) : up2 f a k v b j = f b j := by simp [up2, h]
theorem up2_row {α : Type} (f : Nat → Int → α) {a b : Nat} (k : Int) (v : α) (h : b ≠ a) : up2 f a k v b = f b := funext fun j => up2_ne f k j v h
abbrev wI (S : Sto) (f : Nat → Int → Int) : Sto := (sL S, sK S, sN S, f, sP S, sJ S)
abbrev wP (S : Sto) (f : Nat → Int → Option Nat) : Sto := (sL S, sK S, sN S, sI S, f, sJ S)
abbrev wJ (S : Sto) (f : Nat → Int → Int) : Sto := (sL S, sK S, sN S, sI S, sP S, f)
abbrev uI (S : Sto) (a : Nat) (k v : Int) : Sto := wI S (up2 (sI S) a k v)
abbrev uP (S : Sto) (a : Nat) (k : Int) (v : Option Nat) : Sto := wP S (up2 (sP S) a k v)
abbrev uJ (S : Sto) (a : Nat) (k v : Int) : Sto := wJ S (up2 (sJ S) a k v)
/-- a new cell: its kind, its length, its whole numbers 0, its references null -/
abbrev nw (S : Sto) (a kd n : Nat) : Sto := (sL S ++ [a], va_up (sK S) a kd, va_up (sN S) a n, va_up (sI S) a (fun _ => 0), va_up (sP S) a (fun _ => none), va_up (sJ S) a (fun _ => 0))
/-- a whole number's word -/
def iI (x : Int) : Int32 := Int32.ofInt x
def lI (x : Int) : Int64 := Int64.ofInt x
def inR (x : Int) : Prop := -2147483648 ≤ x ∧ x < 2147483648
def inRL (x : Int) : Prop := -9223372036854775808 ≤ x ∧ x < 9223372036854775808
theorem iI_toInt {x : Int} (h : inR x) : (iI x).toInt = x := by
  unfold iI
  rw [Int32.toInt_ofInt]
  obtain ⟨h1, h2⟩ := h
  show x.bmod (4294967296 : Nat) = x
  exact Int.bmod_eq_of_le (by omega) (by omega)
theorem lI_toInt {x : Int} (h : inRL x) : (lI x).toInt = x := by
  unfold lI
  rw [Int64.toInt_ofInt]
  obtain ⟨h1, h2⟩ := h
  show x.bmod (18446744073709551616 : Nat) = x
  exact Int.bmod_eq_of_le (by omega) (by omega)
theorem iI_of (x : Int32) : iI x.toInt = x := by unfold iI; exact Int32.ofInt_toInt x
theorem inR_of (x : Int32) : inR x.toInt := by
  have h1 := Int32.le_toInt x
  have h2 := Int32.toInt_lt x
  exact ⟨by simpa using h1, by simpa using h2⟩
theorem iI_add (x y : Int) : iI x + iI y = iI (x + y) := by unfold iI; exact (Int32.ofInt_add x y).symm
theorem iI_sub (x y : Int) : iI x - iI y = iI (x - y) := by unfold iI; exact (Int32.ofInt_sub x y).symm
theorem iI_mul (x y : Int) : iI x * iI y = iI (x * y) := by unfold iI; exact (Int32.ofInt_mul x y).symm
theorem iI_neg (x : Int) : -iI x = iI (-x) := by unfold iI; exact (Int32.ofInt_neg x).symm
theorem iI_lt {x y : Int} (hx : inR x) (hy : inR y) : iI x < iI y ↔ x < y := by rw [Int32.lt_iff_toInt_lt, iI_toInt hx, iI_toInt hy]
theorem iI_le {x y : Int} (hx : inR x) (hy : inR y) : iI x ≤ iI y ↔ x ≤ y := by rw [Int32.le_iff_toInt_le, iI_toInt hx, iI_toInt hy]
theorem iI_eq {x y : Int} (hx : inR x) (hy : inR y) : iI x = iI y ↔ x = y := by
  constructor
  · intro h
    have := congrArg Int32.toInt h
    rw [iI_toInt hx, iI_toInt hy] at this
    exact this
  · intro h; rw [h]
theorem iI_0 : (0 : Int32) = iI 0 := by decide
theorem inR_0 : inR 0 := by unfold inR; omega
theorem iI_in {x : Int} {n : Nat} (h0 : 0 ≤ x) (h1 : x < n) (hx : inR x) : vp_in (iI x) n := by
  rw [vp_in_iff, iI_toInt hx]
  exact ⟨h0, h1⟩
theorem iI_clamp {x : Int} (h0 : 0 ≤ x) (hx : inR x) : (iI x).toNatClampNeg = x.toNat := by
  rw [Int32.toNatClampNeg, iI_toInt hx]
/-- each class's fields: 0 a whole number, 1 a reference, 2 a long number; in the order of vwCl -/
def tyF : Nat → List Nat
  | 0 => [0, 1, 0]
  | 1 => [0, 2, 0, 0, 0, 1]
  | 2 => [0, 1, 0, 0]
  | 3 => [1, 1, 0, 1, 1]
  | 4 => [0, 0, 0, 1, 1, 1, 1]
  | 5 => [1, 1, 1]
  | 6 => [1, 1, 1, 1, 0, 0, 0]
  | 7 => [0, 0, 0, 0, 0, 1, 0, 1, 1, 1, 1, 1, 1, 0, 0, 2, 0, 1, 1, 1, 1, 1]
  | _ => []
def fld (S : Sto) (a k t : Nat) : Value := if t = 0 then .int (iI (sI S a k)) else if t = 1 then va_rf (sP S a k) else .long (lI (sJ S a k))
def flds (S : Sto) (a : Nat) (ts : List Nat) : List Value := ts.mapIdx (fun k t => fld S a k t)
theorem flds_get (S : Sto) (a : Nat) (ts : List Nat) (k : Nat) : (flds S a ts)[k]? = (ts[k]?).map (fun t => fld S a k t) := by
  unfold flds
  rw [List.getElem?_mapIdx]
theorem flds_len (S : Sto) (a : Nat) (ts : List Nat) : (flds S a ts).length = ts.length := by
  unfold flds
  rw [List.length_mapIdx]
def cel (cy : Nat → ClassId) (S : Sto) (a : Nat) : va_E :=
  if sK S a = 20 then .inl (cy 0, sN S a, .inl (fun j => iI (sI S a j)))
  else if sK S a = 21 then .inl (cy 1, sN S a, .inr (.inr (.inr (.inr (fun j => sP S a j)))))
  else if sK S a = 22 then .inl (cy 2, sN S a, .inr (.inr (.inr (.inr (fun j => sP S a j)))))
  else if sK S a = 23 then .inl (cy 3, sN S a, .inr (.inl (fun j => lI (sJ S a j))))
  else .inr (sK S a, flds S a (tyF (sK S a)))
def pol (cy : Nat → ClassId) (S : Sto) : va_W := va_pl (sL S) (cel cy S)
theorem fld_congr {S T : Sto} {a : Nat} (hI : sI S a = sI T a) (hP : sP S a = sP T a) (hJ : sJ S a = sJ T a) (k t : Nat) : fld S a k t = fld T a k t := by
  unfold fld; rw [hI, hP, hJ]
theorem flds_congr {S T : Sto} {a : Nat} (hI : sI S a = sI T a) (hP : sP S a = sP T a) (hJ : sJ S a = sJ T a) (ts : List Nat) : flds S a ts = flds T a ts := by
  unfold flds
  congr 1
  funext k t
  exact fld_congr hI hP hJ k t
theorem cel_congr {cy : Nat → ClassId} {S T : Sto} {a : Nat} (hK : sK S a = sK T a) (hN : sN S a = sN T a) (hI : sI S a = sI T a) (hP : sP S a = sP T a) (hJ : sJ S a = sJ T a) : cel cy S a = cel cy T a := by
  unfold cel
  rw [hK, hN, hI, hP, hJ, flds_congr hI hP hJ]
def Rg (S : Sto) : Prop := ∀ (a : Nat) (k : Int), inR (sI S a k)
theorem Rg.uI {S : Sto} (h : Rg S) (a : Nat) (k : Int) {v : Int} (hv : inR v) : Rg (uI S a k v) := by
  intro b j
  show inR (up2 (sI S) a k v b j)
  unfold up2
  split
  · exact hv
  · exact h b j
abbrev ge (B0 : Nat) : Nat → Prop := fun q => B0 ≤ q
/-- a cell of the store of a kind -/
def At0 (S : Sto) (a kd : Nat) : Prop := a ∈ sL S ∧ sK S a = kd
theorem pol_get {cy : Nat → ClassId} {S : Sto} {a : Nat} (h : a ∈ sL S) : ∃ k : Nat, (pol cy S)[k]? = some (a, cel cy S a) := by
  obtain ⟨k, hk⟩ := va_pl_get (X := []) (f := cel cy S) h
  exact ⟨k, by simpa [pol] using hk⟩
theorem pol_set {cy : Nat → ClassId} {S T : Sto} {A : Nat → Prop} {a k : Nat} {e : va_E} (hD : va_D A (pol cy S)) (h : a ∈ sL S) (hk : (pol cy S)[k]? = some (a, cel cy S a)) (hL : sL T = sL S) (he : cel cy T a = e) (ho : ∀ b, b ≠ a → cel cy T b = cel cy S b) : (pol cy S).set k (a, e) = pol cy T := by
  have h1 := va_pl_set (X := []) (e := e) hD h (by simpa [pol] using hk)
  have h2 : (pol cy S).set k (a, e) = va_pl (sL S) (va_up (cel cy S) a e) := by simpa [pol] using h1
  rw [h2]
  unfold pol
  rw [hL]
  refine va_pl_congr fun b => ?_
  unfold va_up
  split
  · next hb => rw [hb, he]
  · next hb => rw [ho b hb]
end
section
theorem aoA_spec {args : Array Value} {first s : State} {o : Option Outcome} {idx : List Nat} {t : FieldType} (h : (Cond.arrayOver (.array t)).holds args first o s idx = true) : ∃ comp c k, s.vm.findClass (FieldType.array t).toString = some comp ∧ (s.vm.classes.findIdx? fun x => match x.kind with | .array component _ => component == comp | _ => false) = some c ∧ s.vm.classes[c]? = some k ∧ k.kind = .array comp (.array t) ∧ s.vm.findClass ("[" ++ (FieldType.array t).toString) = some c := by
  simp only [Cond.holds, Cond.value, beq_iff_eq] at h
  cases hc : s.vm.findClass (FieldType.array t).toString with
  | none => simp [hc] at h
  | some comp =>
    simp only [hc, Option.bind_some, Option.bind_eq_some_iff, Option.map_eq_some_iff] at h
    obtain ⟨c, hi, k, hk, hb⟩ := h
    obtain ⟨hlt, hp, -⟩ := Array.findIdx?_eq_some_iff_getElem.mp hi
    have hkk : s.vm.classes[c] = k := (Array.getElem?_eq_some_iff.mp hk).2
    rw [hkk] at hp
    cases hkind : k.kind with
    | array component ty =>
      rw [hkind] at hb hp
      simp at hb hp
      exact ⟨comp, c, k, rfl, hi, hk, by rw [hkind, hp, hb.1], hb.2⟩
    | _ => rw [hkind] at hp; simp at hp
theorem va_AOA.moved {t : FieldType} {u U : State} (hvm : u.vm.Alike U.vm) (h : va_AOA t u) : va_AOA t U := by
  obtain ⟨comp, c, k, h1, h2, h3, h4, h5⟩ := aoA_spec h
  obtain ⟨k', hk', he⟩ := hvm.2.2 _ _ h3
  have hi : (U.vm.classes.findIdx? fun (x : Class) => match x.kind with | .array component _ => component == comp | _ => false) = some c := by
    refine (va_idx_bare U.vm comp).symm.trans ?_
    have hb : U.vm.bare = u.vm.bare := by first | exact hvm.bare_eq | exact hvm.bare_eq.symm
    rw [hb]
    exact (va_idx_bare u.vm comp).trans h2
  have hkind : k'.kind = .array comp (.array t) := by rw [he]; exact h4
  have f1 : U.vm.findClass (FieldType.array t).toString = some comp := by rw [hvm.findClass]; exact h1
  have f2 : U.vm.findClass ("[" ++ (FieldType.array t).toString) = some c := by rw [hvm.findClass]; exact h5
  unfold va_AOA Cond.before Cond.holds
  simp only [Cond.value]
  rw [f1, Option.bind_some]
  refine (congrArg (fun o : Option Nat => (o.bind (fun c => (U.vm.classes[c]?).map fun (k : Class) => match k.kind with | .array _ ty => decide (ty = FieldType.array t) && decide (U.vm.findClass ("[" ++ (FieldType.array t).toString) = some c) | _ => false) == some true)) hi).trans ?_
  simp [hk', hkind, f2]
/-- words of nest mates, casts, arrays of references, text -/
def Strs (U : State) : Prop := ∀ q ∈ StrL, ∃ a, vk_R q.1 q.2.1 q.2.2 a U
def Nws (U : State) : Prop := (∀ w ∈ UN, va_Nw w U) ∧ va_AO "java/lang/Object" U ∧ va_AOA .int U ∧ Strs U
theorem un_kind {w : Cond} (h : w ∈ UN) : isNest w = true := (List.mem_filter.mp h).2
theorem Nws.warm {s U : State} (hW : s.WarmedH U.vm) (h : Nws s) : Nws U := by
  refine ⟨fun w hw => ?_, h.2.1.moved hW.alike, h.2.2.1.moved hW.alike, fun q hq => ?_⟩
  · have h1 := h.1 w hw
    have h2 := un_kind hw
    cases w <;> first | exact va_Nw.warmF hW h1 | exact va_Nw.warmM hW h1 | exact va_Nw.warmC hW h1 | exact va_Nw.warmD hW h1 | (simp [isNest] at h2)
  · obtain ⟨a, ha⟩ := h.2.2.2 q hq
    exact ⟨a, vk_R.warm hW ha⟩
theorem Nws.same {u U : State} (hv : U.vm = u.vm) (h : Nws u) : Nws U := by
  refine ⟨fun w hw => ?_, va_AO.moved (by rw [hv]; exact Vm.Alike.refl _) h.2.1, h.2.2.1.moved (by rw [hv]; exact Vm.Alike.refl _), fun q hq => ?_⟩
  · have h1 := h.1 w hw
    have h2 := un_kind hw
    cases w <;> first | exact va_Nw.same rfl hv.symm h1 | (simp [isNest] at h2)
  · obtain ⟨a, ha⟩ := h.2.2.2 q hq
    exact ⟨a, vk_R.same hv ha⟩
end
section
theorem iI_ne0 {y : Int} (hy : inR y) (h : 0 < y) : ¬ iI y = 0 := by
  rw [iI_0]
  intro h2
  have := (iI_eq hy inR_0).mp h2
  omega
theorem iI_div {x y : Int} (hx : inR x) (hy : inR y) (h : 0 < y) : iI x / iI y = iI (x.tdiv y) := by
  have h1 : (iI x / iI y).toInt = x.tdiv y := by
    rw [Int32.toInt_div, iI_toInt hx, iI_toInt hy]
    obtain ⟨a1, a2⟩ := hx
    have b2 : (x.tdiv y).natAbs ≤ x.natAbs := by
      rw [Int.natAbs_tdiv]
      exact Nat.div_le_self _ _
    show (x.tdiv y).bmod (4294967296 : Nat) = x.tdiv y
    by_cases h9 : x.tdiv y = 2147483648
    · have h10 : x.natAbs = 2147483648 := by omega
      have h11 : x = -2147483648 := by omega
      have h12 : x.tdiv y ≤ 0 := by
        rw [h11, Int.neg_tdiv]
        have := Int.tdiv_nonneg (a := 2147483648) (b := y) (by omega) (by omega)
        omega
      omega
    · exact Int.bmod_eq_of_le (by omega) (by omega)
  rw [← iI_of (iI x / iI y), h1]
theorem iI_rem {x y : Int} (hx : inR x) (hy : inR y) (h : 0 < y) : iI x - iI x / iI y * iI y = iI (x.tmod y) := by
  rw [iI_div hx hy h, iI_mul, iI_sub, Int.tmod_def, Int.mul_comm y]
theorem iI_l {x : Int} (hx : inR x) : (iI x).toInt64 = lI x := by
  have h1 : (iI x).toInt64.toInt = x := by rw [Int32.toInt_toInt64, iI_toInt hx]
  have h2 := Int64.ofInt_toInt (iI x).toInt64
  rw [h1] at h2
  exact h2.symm
section
variable {x y : Int}
theorem brT_eq (hx : inR x) (hy : inR y) (h : iI x = iI y) : x = y := (iI_eq hx hy).mp h
theorem brF_eq (hx : inR x) (hy : inR y) (h : ¬ iI x = iI y) : ¬ x = y := fun z => h ((iI_eq hx hy).mpr z)
theorem brT_ne (hx : inR x) (hy : inR y) (h : ¬ iI x = iI y) : ¬ x = y := fun z => h ((iI_eq hx hy).mpr z)
theorem brF_ne (hx : inR x) (hy : inR y) (h : iI x = iI y) : x = y := (iI_eq hx hy).mp h
theorem brT_lt (hx : inR x) (hy : inR y) (h : iI x < iI y) : x < y := (iI_lt hx hy).mp h
theorem brF_lt (hx : inR x) (hy : inR y) (h : ¬ iI x < iI y) : y ≤ x := Int.not_lt.mp fun z => h ((iI_lt hx hy).mpr z)
theorem brT_ge (hx : inR x) (hy : inR y) (h : iI y ≤ iI x) : y ≤ x := (iI_le hy hx).mp h
theorem brF_ge (hx : inR x) (hy : inR y) (h : ¬ iI y ≤ iI x) : x < y := Int.not_le.mp fun z => h ((iI_le hy hx).mpr z)
theorem brT_gt (hx : inR x) (hy : inR y) (h : iI y < iI x) : y < x := (iI_lt hy hx).mp h
theorem brF_gt (hx : inR x) (hy : inR y) (h : ¬ iI y < iI x) : x ≤ y := Int.not_lt.mp fun z => h ((iI_lt hy hx).mpr z)
theorem brT_le (hx : inR x) (hy : inR y) (h : iI x ≤ iI y) : x ≤ y := (iI_le hx hy).mp h
theorem brF_le (hx : inR x) (hy : inR y) (h : ¬ iI x ≤ iI y) : y < x := Int.not_le.mp fun z => h ((iI_le hx hy).mpr z)
end
/-! ===== the judgement over the store, and its rows ===== -/
abbrev GG : Type := va_G × (Nat → ClassId) × Nat × Nat
abbrev gD (g : GG) : va_G := g.1
abbrev gC (g : GG) : Nat → ClassId := g.2.1
abbrev gB (g : GG) : Nat := g.2.2.1
abbrev gT (g : GG) : Nat := g.2.2.2
def tyl (cy : Nat → ClassId) : List (ClassId × FieldType) := [(cy 0, .int), (cy 1, .object "java/lang/Object"), (cy 2, .array .int), (cy 3, .long)]
/-- the statics that lie in the old heap -/
def Sta (g : GG) (U : State) (H : Heap) : Prop := vx_Zq Bundle.tN "UNASSIGNED_STACK" Bundle.steD (ge (gB g)) U H ∧ vx_Zq Bundle.tN "SUPPRESSED_SENTINEL" Bundle.listD (ge (gB g)) U H ∧ va_Z RJx4a65c "DEFAULTCAPACITY_EMPTY_ELEMENTDATA" "[Ljava/lang/Object;" (.ref (gT g)) (ge (gB g)) U H ∧ va_T (.object "java/lang/Object") (gT g) 0 (fun _ => .null) (ge (gB g)) U H
theorem Sta.moved {g : GG} {u U : State} {H : Heap} (hvm : u.vm.Alike U.vm) (h : Sta g u H) : Sta g U H := ⟨h.1.moved hvm, h.2.1.moved hvm, h.2.2.1.moved hvm, h.2.2.2.moved hvm⟩
theorem Sta.kept {g : GG} {U : State} {H H1 : Heap} (h : Sta g U H) (hq : ∀ a : Nat, a < H.size → ¬ ge (gB g) a → H1[a]? = H[a]?) : Sta g U H1 := ⟨h.1.kept hq, h.2.1.kept hq, h.2.2.1.kept hq, h.2.2.2.kept hq⟩
/-- what is fixed in a method's walk -/
def Cx (p : Program) (l : Launch) (s : State) (m : MethodId) (args : Array Value) (meth : Method) (c : Code) (cc : ByteArray) (nL : Nat) (own : String) (ret : Option FieldType) (g : GG) : Prop :=
  p.tables.exec = Jvm.exec ∧ c.code = cc ∧ c.maxLocals = nL ∧ s.vm.findClass own = some m.cls ∧ (∀ w ∈ UW, w.before args s = true) ∧ va_K (gD g) vwCl (tyl (gC g)) s ∧ Sta g s s.heap ∧ gB g ≤ s.heap.size ∧ meth.sig.returnType = ret ∧ meth.locks = false ∧ Nws s
/-- the machine at pc, with these locals, this stack, over this store -/
def Wk (p : Program) (l : Launch) (e : Env) (R : Room) (s : State) (m : MethodId) (args : Array Value) (below : List Frame) (meth : Method) (c : Code) (Q : State → Prop) (g : GG) (nL cells slots pc : Nat) (lv : List (Nat × Value)) (st : List Value) (S : Sto) : Prop :=
  ∀ (H : Heap) (locs : List Loc) (ls : Array Slot), va_P (gD g) vwCl (pol (gC g) S) H → va_D (ge (gB g)) (pol (gC g) S) → va_S (ge (gB g)) s.heap H locs → Rg S → lv_has ls nL lv → W p l e R s m args below meth c H locs cells slots Q (F0 m pc ls st)
section
variable {p : Program} {l : Launch} {e : Env} {R : Room} {s : State} {m : MethodId} {args : Array Value} {below : List Frame} {meth : Method} {c : Code} {Q : State → Prop} {cc : ByteArray} {nL : Nat} {own : String} {ret : Option FieldType} {g : GG} {cells slots pc : Nat} {lv lv' : List (Nat × Value)} {st : List Value} {S : Sto}
theorem KLv (ks : List Nat) (h : lv_pick lv ks = lv') (kk : Wk p l e R s m args below meth c Q g nL cells slots pc lv' st S) : Wk p l e R s m args below meth c Q g nL cells slots pc lv st S := fun H locs ls hP hD hS hR hl => kk H locs ls hP hD hS hR (lv_sub hl ks h)
theorem KWiden {k n : Nat} (h1 : cells ≤ k) (h2 : slots ≤ n) (kk : Wk p l e R s m args below meth c Q g nL k n pc lv st S) : Wk p l e R s m args below meth c Q g nL cells slots pc lv st S := fun H locs ls hP hD hS hR hl => W.widen h1 h2 (kk H locs ls hP hD hS hR hl)
theorem KTop {x y : Int32} (h : x = y) (kk : Wk p l e R s m args below meth c Q g nL cells slots pc lv (.int y :: st) S) : Wk p l e R s m args below meth c Q g nL cells slots pc lv (.int x :: st) S := by rw [h]; exact kk
theorem KSt {st2 : List Value} (h : st = st2) (kk : Wk p l e R s m args below meth c Q g nL cells slots pc lv st2 S) : Wk p l e R s m args below meth c Q g nL cells slots pc lv st S := by rw [h]; exact kk
theorem KSto {S2 : Sto} (h : S = S2) (kk : Wk p l e R s m args below meth c Q g nL cells slots pc lv st S2) : Wk p l e R s m args below meth c Q g nL cells slots pc lv st S := by rw [h]; exact kk
theorem KRg (kk : Rg S → Wk p l e R s m args below meth c Q g nL cells slots pc lv st S) : Wk p l e R s m args below meth c Q g nL cells slots pc lv st S := fun H locs ls hP hD hS hR hl => kk hR H locs ls hP hD hS hR hl
theorem KIload_n (C : Cx p l s m args meth c cc nL own ret g) {k : Fin 4} {i : Nat} {x : Int32} (hdg : decode cc pc = .ok (.iload_n k, 1)) (hi : (k : Nat) = i) (j : Nat) (hj : lv[j]? = some (i, .int x)) (kk : Wk p l e R s m args below meth c Q g nL cells slots (pc + 1) lv (.int x :: st) S) : Wk p l e R s m args below meth c Q g nL cells slots pc lv st S := fun H locs ls hP hD hS hR hl => lv_iload_n C.1 C.2.1 hdg hi (lv_at hl j hj) (kk H locs ls hP hD hS hR hl)
theorem KIload (C : Cx p l s m args meth c cc nL own ret g) {i : Nat} {x : Int32} (hdg : decode cc pc = .ok (.iload i, 2)) (j : Nat) (hj : lv[j]? = some (i, .int x)) (kk : Wk p l e R s m args below meth c Q g nL cells slots (pc + 2) lv (.int x :: st) S) : Wk p l e R s m args below meth c Q g nL cells slots pc lv st S := fun H locs ls hP hD hS hR hl => lv_iload C.1 C.2.1 hdg (lv_at hl j hj) (kk H locs ls hP hD hS hR hl)
theorem KAload_n (C : Cx p l s m args meth c cc nL own ret g) {k : Fin 4} {i : Nat} {x : Nat} (hdg : decode cc pc = .ok (.aload_n k, 1)) (hi : (k : Nat) = i) (j : Nat) (hj : lv[j]? = some (i, .ref x)) (kk : Wk p l e R s m args below meth c Q g nL cells slots (pc + 1) lv (.ref x :: st) S) : Wk p l e R s m args below meth c Q g nL cells slots pc lv st S := fun H locs ls hP hD hS hR hl => lv_aload_n C.1 C.2.1 hdg hi (lv_at hl j hj) (kk H locs ls hP hD hS hR hl)
theorem KAload (C : Cx p l s m args meth c cc nL own ret g) {i : Nat} {x : Nat} (hdg : decode cc pc = .ok (.aload i, 2)) (j : Nat) (hj : lv[j]? = some (i, .ref x)) (kk : Wk p l e R s m args below meth c Q g nL cells slots (pc + 2) lv (.ref x :: st) S) : Wk p l e R s m args below meth c Q g nL cells slots pc lv st S := fun H locs ls hP hD hS hR hl => lv_aload C.1 C.2.1 hdg (lv_at hl j hj) (kk H locs ls hP hD hS hR hl)
theorem KLload_n (C : Cx p l s m args meth c cc nL own ret g) {k : Fin 4} {i : Nat} {x : Int64} (hdg : decode cc pc = .ok (.lload_n k, 1)) (hi : (k : Nat) = i) (j : Nat) (hj : lv[j]? = some (i, .long x)) (kk : Wk p l e R s m args below meth c Q g nL cells slots (pc + 1) lv (.long x :: st) S) : Wk p l e R s m args below meth c Q g nL cells slots pc lv st S := fun H locs ls hP hD hS hR hl => lv_lload_n C.1 C.2.1 hdg hi (lv_at hl j hj) (kk H locs ls hP hD hS hR hl)
theorem KLload (C : Cx p l s m args meth c cc nL own ret g) {i : Nat} {x : Int64} (hdg : decode cc pc = .ok (.lload i, 2)) (j : Nat) (hj : lv[j]? = some (i, .long x)) (kk : Wk p l e R s m args below meth c Q g nL cells slots (pc + 2) lv (.long x :: st) S) : Wk p l e R s m args below meth c Q g nL cells slots pc lv st S := fun H locs ls hP hD hS hR hl => lv_lload C.1 C.2.1 hdg (lv_at hl j hj) (kk H locs ls hP hD hS hR hl)
theorem KDload_n (C : Cx p l s m args meth c cc nL own ret g) {k : Fin 4} {i : Nat} {x : UInt64} (hdg : decode cc pc = .ok (.dload_n k, 1)) (hi : (k : Nat) = i) (j : Nat) (hj : lv[j]? = some (i, .double x)) (kk : Wk p l e R s m args below meth c Q g nL cells slots (pc + 1) lv (.double x :: st) S) : Wk p l e R s m args below meth c Q g nL cells slots pc lv st S := fun H locs ls hP hD hS hR hl => lv_dload_n C.1 C.2.1 hdg hi (lv_at hl j hj) (kk H locs ls hP hD hS hR hl)
theorem KDload (C : Cx p l s m args meth c cc nL own ret g) {i : Nat} {x : UInt64} (hdg : decode cc pc = .ok (.dload i, 2)) (j : Nat) (hj : lv[j]? = some (i, .double x)) (kk : Wk p l e R s m args below meth c Q g nL cells slots (pc + 2) lv (.double x :: st) S) : Wk p l e R s m args below meth c Q g nL cells slots pc lv st S := fun H locs ls hP hD hS hR hl => lv_dload C.1 C.2.1 hdg (lv_at hl j hj) (kk H locs ls hP hD hS hR hl)
theorem KIstore_n (C : Cx p l s m args meth c cc nL own ret g) {k : Fin 4} {i : Nat} {x : Int32} (hdg : decode cc pc = .ok (.istore_n k, 1)) (hi : (k : Nat) = i) (hn : i < nL) (h : (i, Value.int x) :: lv.filter (fun q => !(q.1 == i) && !(q.1 + 1 == i && q.2.category == 2)) = lv') (kk : Wk p l e R s m args below meth c Q g nL cells slots (pc + 1) lv' st S) : Wk p l e R s m args below meth c Q g nL cells slots pc lv (.int x :: st) S := fun H locs ls hP hD hS hR hl => lv_istore_n C.1 C.2.1 hdg hi hl hn h (fun ls hl => kk H locs ls hP hD hS hR hl)
theorem KIstore (C : Cx p l s m args meth c cc nL own ret g) {i : Nat} {x : Int32} (hdg : decode cc pc = .ok (.istore i, 2)) (hn : i < nL) (h : (i, Value.int x) :: lv.filter (fun q => !(q.1 == i) && !(q.1 + 1 == i && q.2.category == 2)) = lv') (kk : Wk p l e R s m args below meth c Q g nL cells slots (pc + 2) lv' st S) : Wk p l e R s m args below meth c Q g nL cells slots pc lv (.int x :: st) S := fun H locs ls hP hD hS hR hl => lv_istore C.1 C.2.1 hdg hl hn h (fun ls hl => kk H locs ls hP hD hS hR hl)
theorem KAstore_n (C : Cx p l s m args meth c cc nL own ret g) {k : Fin 4} {i : Nat} {x : Nat} (hdg : decode cc pc = .ok (.astore_n k, 1)) (hi : (k : Nat) = i) (hn : i < nL) (h : (i, Value.ref x) :: lv.filter (fun q => !(q.1 == i) && !(q.1 + 1 == i && q.2.category == 2)) = lv') (kk : Wk p l e R s m args below meth c Q g nL cells slots (pc + 1) lv' st S) : Wk p l e R s m args below meth c Q g nL cells slots pc lv (.ref x :: st) S := fun H locs ls hP hD hS hR hl => lv_astore_n C.1 C.2.1 hdg hi hl hn h (fun ls hl => kk H locs ls hP hD hS hR hl)
theorem KAstore (C : Cx p l s m args meth c cc nL own ret g) {i : Nat} {x : Nat} (hdg : decode cc pc = .ok (.astore i, 2)) (hn : i < nL) (h : (i, Value.ref x) :: lv.filter (fun q => !(q.1 == i) && !(q.1 + 1 == i && q.2.category == 2)) = lv') (kk : Wk p l e R s m args below meth c Q g nL cells slots (pc + 2) lv' st S) : Wk p l e R s m args below meth c Q g nL cells slots pc lv (.ref x :: st) S := fun H locs ls hP hD hS hR hl => lv_astore C.1 C.2.1 hdg hl hn h (fun ls hl => kk H locs ls hP hD hS hR hl)
theorem KIinc (C : Cx p l s m args meth c cc nL own ret g) {i : Nat} {n : Int} {x v : Int} (hdg : decode cc pc = .ok (.iinc i n, 3)) (j : Nat) (hj : lv[j]? = some (i, .int (iI x))) (hv : x + n = v) (hn : i < nL) (h : (i, Value.int (iI v)) :: lv.filter (fun q => !(q.1 == i) && !(q.1 + 1 == i && q.2.category == 2)) = lv') (kk : Wk p l e R s m args below meth c Q g nL cells slots (pc + 3) lv' st S) : Wk p l e R s m args below meth c Q g nL cells slots pc lv st S := fun H locs ls hP hD hS hR hl => lv_iinc C.1 C.2.1 hdg hl hj (by rw [← hv]; exact iI_add x n) hn h (fun ls hl => kk H locs ls hP hD hS hR hl)
theorem KIconst (C : Cx p l s m args meth c cc nL own ret g) {n : Int} (hdg : decode cc pc = .ok (.iconst n, 1)) (kk : Wk p l e R s m args below meth c Q g nL cells slots (pc + 1) lv (.int (iI n) :: st) S) : Wk p l e R s m args below meth c Q g nL cells slots pc lv st S := fun H locs ls hP hD hS hR hl => lv_iconst C.1 C.2.1 hdg rfl (kk H locs ls hP hD hS hR hl)
theorem KBipush (C : Cx p l s m args meth c cc nL own ret g) {n : Int} (hdg : decode cc pc = .ok (.bipush n, 2)) (hv : (Int8.ofInt n).toInt32 = iI n) (kk : Wk p l e R s m args below meth c Q g nL cells slots (pc + 2) lv (.int (iI n) :: st) S) : Wk p l e R s m args below meth c Q g nL cells slots pc lv st S := fun H locs ls hP hD hS hR hl => lv_bipush C.1 C.2.1 hdg hv (kk H locs ls hP hD hS hR hl)
theorem KSipush (C : Cx p l s m args meth c cc nL own ret g) {n : Int} (hdg : decode cc pc = .ok (.sipush n, 3)) (hv : (Int16.ofInt n).toInt32 = iI n) (kk : Wk p l e R s m args below meth c Q g nL cells slots (pc + 3) lv (.int (iI n) :: st) S) : Wk p l e R s m args below meth c Q g nL cells slots pc lv st S := fun H locs ls hP hD hS hR hl => lv_sipush C.1 C.2.1 hdg hv (kk H locs ls hP hD hS hR hl)
theorem KLdc (C : Cx p l s m args meth c cc nL own ret g) {index : Nat} {v : Int32} {n : Int} (hc : Jvm.Cond.constant own index v ∈ UW) (hv : v = iI n) (hdg : decode cc pc = .ok (.ldc index, 2)) (kk : Wk p l e R s m args below meth c Q g nL cells slots (pc + 2) lv (.int (iI n) :: st) S) : Wk p l e R s m args below meth c Q g nL cells slots pc lv st S := fun H locs ls hP hD hS hR hl => by subst hv; exact lv_ldc C.1 C.2.1 C.2.2.2.1 (C.2.2.2.2.1 _ hc) hdg (kk H locs ls hP hD hS hR hl)
theorem KLdcw (C : Cx p l s m args meth c cc nL own ret g) {index : Nat} {v : Int32} {n : Int} (hc : Jvm.Cond.constant own index v ∈ UW) (hv : v = iI n) (hdg : decode cc pc = .ok (.ldc_w index, 3)) (kk : Wk p l e R s m args below meth c Q g nL cells slots (pc + 3) lv (.int (iI n) :: st) S) : Wk p l e R s m args below meth c Q g nL cells slots pc lv st S := fun H locs ls hP hD hS hR hl => by subst hv; exact lv_ldcw C.1 C.2.1 C.2.2.2.1 (C.2.2.2.2.1 _ hc) hdg (kk H locs ls hP hD hS hR hl)
theorem KLconst (C : Cx p l s m args meth c cc nL own ret g) {n : Fin 2} {v : Int64} (hdg : decode cc pc = .ok (.lconst n, 1)) (hv : Int64.ofNat (n : Nat) = v) (kk : Wk p l e R s m args below meth c Q g nL cells slots (pc + 1) lv (.long v :: st) S) : Wk p l e R s m args below meth c Q g nL cells slots pc lv st S := fun H locs ls hP hD hS hR hl => lv_lconst C.1 C.2.1 hdg hv (kk H locs ls hP hD hS hR hl)
theorem KIadd (C : Cx p l s m args meth c cc nL own ret g) {x y : Int} (hdg : decode cc pc = .ok (.iadd, 1)) (kk : Wk p l e R s m args below meth c Q g nL cells slots (pc + 1) lv (.int (iI (x + y)) :: st) S) : Wk p l e R s m args below meth c Q g nL cells slots pc lv (.int (iI y) :: .int (iI x) :: st) S := fun H locs ls hP hD hS hR hl => lv_iadd C.1 C.2.1 hdg (by rw [iI_add]; exact (kk H locs ls hP hD hS hR hl))
theorem KIsub (C : Cx p l s m args meth c cc nL own ret g) {x y : Int} (hdg : decode cc pc = .ok (.isub, 1)) (kk : Wk p l e R s m args below meth c Q g nL cells slots (pc + 1) lv (.int (iI (x - y)) :: st) S) : Wk p l e R s m args below meth c Q g nL cells slots pc lv (.int (iI y) :: .int (iI x) :: st) S := fun H locs ls hP hD hS hR hl => lv_isub C.1 C.2.1 hdg (by rw [iI_sub]; exact (kk H locs ls hP hD hS hR hl))
theorem KImul (C : Cx p l s m args meth c cc nL own ret g) {x y : Int} (hdg : decode cc pc = .ok (.imul, 1)) (kk : Wk p l e R s m args below meth c Q g nL cells slots (pc + 1) lv (.int (iI (x * y)) :: st) S) : Wk p l e R s m args below meth c Q g nL cells slots pc lv (.int (iI y) :: .int (iI x) :: st) S := fun H locs ls hP hD hS hR hl => lv_imul C.1 C.2.1 hdg (by rw [iI_mul]; exact (kk H locs ls hP hD hS hR hl))
theorem KIneg (C : Cx p l s m args meth c cc nL own ret g) {x : Int} (hdg : decode cc pc = .ok (.ineg, 1)) (kk : Wk p l e R s m args below meth c Q g nL cells slots (pc + 1) lv (.int (iI (-x)) :: st) S) : Wk p l e R s m args below meth c Q g nL cells slots pc lv (.int (iI x) :: st) S := fun H locs ls hP hD hS hR hl => lv_ineg C.1 C.2.1 hdg (by rw [iI_neg]; exact (kk H locs ls hP hD hS hR hl))
theorem KIdiv (C : Cx p l s m args meth c cc nL own ret g) {x y z : Int} (hdg : decode cc pc = .ok (.idiv, 1)) (hx : inR x) (hy : inR y) (hy0 : 0 < y) (hz : x.tdiv y = z) (kk : Wk p l e R s m args below meth c Q g nL cells slots (pc + 1) lv (.int (iI z) :: st) S) : Wk p l e R s m args below meth c Q g nL cells slots pc lv (.int (iI y) :: .int (iI x) :: st) S := fun H locs ls hP hD hS hR hl => lv_idiv C.1 C.2.1 hdg (iI_ne0 hy hy0) (by rw [iI_div hx hy hy0, hz]; exact (kk H locs ls hP hD hS hR hl))
theorem KIrem (C : Cx p l s m args meth c cc nL own ret g) {x y z : Int} (hdg : decode cc pc = .ok (.irem, 1)) (hx : inR x) (hy : inR y) (hy0 : 0 < y) (hz : x.tmod y = z) (kk : Wk p l e R s m args below meth c Q g nL cells slots (pc + 1) lv (.int (iI z) :: st) S) : Wk p l e R s m args below meth c Q g nL cells slots pc lv (.int (iI y) :: .int (iI x) :: st) S := fun H locs ls hP hD hS hR hl => lv_irem C.1 C.2.1 hdg (iI_ne0 hy hy0) (by rw [iI_rem hx hy hy0, hz]; exact (kk H locs ls hP hD hS hR hl))
theorem KIand (C : Cx p l s m args meth c cc nL own ret g) {x y v : Int32} (hdg : decode cc pc = .ok (.iand, 1)) (hv : x &&& y = v) (kk : Wk p l e R s m args below meth c Q g nL cells slots (pc + 1) lv (.int v :: st) S) : Wk p l e R s m args below meth c Q g nL cells slots pc lv (.int y :: .int x :: st) S := fun H locs ls hP hD hS hR hl => lv_iand C.1 C.2.1 hdg (by rw [hv]; exact (kk H locs ls hP hD hS hR hl))
theorem KIor (C : Cx p l s m args meth c cc nL own ret g) {x y v : Int32} (hdg : decode cc pc = .ok (.ior, 1)) (hv : x ||| y = v) (kk : Wk p l e R s m args below meth c Q g nL cells slots (pc + 1) lv (.int v :: st) S) : Wk p l e R s m args below meth c Q g nL cells slots pc lv (.int y :: .int x :: st) S := fun H locs ls hP hD hS hR hl => lv_ior C.1 C.2.1 hdg (by rw [hv]; exact (kk H locs ls hP hD hS hR hl))
theorem KIxor (C : Cx p l s m args meth c cc nL own ret g) {x y v : Int32} (hdg : decode cc pc = .ok (.ixor, 1)) (hv : x ^^^ y = v) (kk : Wk p l e R s m args below meth c Q g nL cells slots (pc + 1) lv (.int v :: st) S) : Wk p l e R s m args below meth c Q g nL cells slots pc lv (.int y :: .int x :: st) S := fun H locs ls hP hD hS hR hl => lv_ixor C.1 C.2.1 hdg (by rw [hv]; exact (kk H locs ls hP hD hS hR hl))
theorem KIshl (C : Cx p l s m args meth c cc nL own ret g) {x y v : Int32} (hdg : decode cc pc = .ok (.ishl, 1)) (hv : x <<< (y &&& 31) = v) (kk : Wk p l e R s m args below meth c Q g nL cells slots (pc + 1) lv (.int v :: st) S) : Wk p l e R s m args below meth c Q g nL cells slots pc lv (.int y :: .int x :: st) S := fun H locs ls hP hD hS hR hl => lv_ishl C.1 C.2.1 hdg (by rw [hv]; exact (kk H locs ls hP hD hS hR hl))
theorem KIshr (C : Cx p l s m args meth c cc nL own ret g) {x y v : Int32} (hdg : decode cc pc = .ok (.ishr, 1)) (hv : x >>> (y &&& 31) = v) (kk : Wk p l e R s m args below meth c Q g nL cells slots (pc + 1) lv (.int v :: st) S) : Wk p l e R s m args below meth c Q g nL cells slots pc lv (.int y :: .int x :: st) S := fun H locs ls hP hD hS hR hl => lv_ishr C.1 C.2.1 hdg (by rw [hv]; exact (kk H locs ls hP hD hS hR hl))
theorem KIushr (C : Cx p l s m args meth c cc nL own ret g) {x y v : Int32} (hdg : decode cc pc = .ok (.iushr, 1)) (hv : (x.toUInt32 >>> (y.toUInt32 &&& Int32.toUInt32 31)).toInt32 = v) (kk : Wk p l e R s m args below meth c Q g nL cells slots (pc + 1) lv (.int v :: st) S) : Wk p l e R s m args below meth c Q g nL cells slots pc lv (.int y :: .int x :: st) S := fun H locs ls hP hD hS hR hl => lv_iushr C.1 C.2.1 hdg hv (kk H locs ls hP hD hS hR hl)
theorem KLand (C : Cx p l s m args meth c cc nL own ret g) {x y v : Int64} (hdg : decode cc pc = .ok (.land, 1)) (hv : x &&& y = v) (kk : Wk p l e R s m args below meth c Q g nL cells slots (pc + 1) lv (.long v :: st) S) : Wk p l e R s m args below meth c Q g nL cells slots pc lv (.long y :: .long x :: st) S := fun H locs ls hP hD hS hR hl => lv_land C.1 C.2.1 hdg (by rw [hv]; exact (kk H locs ls hP hD hS hR hl))
theorem KLor (C : Cx p l s m args meth c cc nL own ret g) {x y v : Int64} (hdg : decode cc pc = .ok (.lor, 1)) (hv : x ||| y = v) (kk : Wk p l e R s m args below meth c Q g nL cells slots (pc + 1) lv (.long v :: st) S) : Wk p l e R s m args below meth c Q g nL cells slots pc lv (.long y :: .long x :: st) S := fun H locs ls hP hD hS hR hl => lv_lor C.1 C.2.1 hdg (by rw [hv]; exact (kk H locs ls hP hD hS hR hl))
theorem KLadd (C : Cx p l s m args meth c cc nL own ret g) {x y v : Int64} (hdg : decode cc pc = .ok (.ladd, 1)) (hv : x + y = v) (kk : Wk p l e R s m args below meth c Q g nL cells slots (pc + 1) lv (.long v :: st) S) : Wk p l e R s m args below meth c Q g nL cells slots pc lv (.long y :: .long x :: st) S := fun H locs ls hP hD hS hR hl => lv_ladd C.1 C.2.1 hdg (by rw [hv]; exact (kk H locs ls hP hD hS hR hl))
theorem KLshl (C : Cx p l s m args meth c cc nL own ret g) {x v : Int64} {y : Int32} (hdg : decode cc pc = .ok (.lshl, 1)) (hv : x <<< (y.toInt64 &&& 63) = v) (kk : Wk p l e R s m args below meth c Q g nL cells slots (pc + 1) lv (.long v :: st) S) : Wk p l e R s m args below meth c Q g nL cells slots pc lv (.int y :: .long x :: st) S := fun H locs ls hP hD hS hR hl => lv_lshl C.1 C.2.1 hdg hv (kk H locs ls hP hD hS hR hl)
theorem KLshr (C : Cx p l s m args meth c cc nL own ret g) {x v : Int64} {y : Int32} (hdg : decode cc pc = .ok (.lshr, 1)) (hv : x >>> (y.toInt64 &&& 63) = v) (kk : Wk p l e R s m args below meth c Q g nL cells slots (pc + 1) lv (.long v :: st) S) : Wk p l e R s m args below meth c Q g nL cells slots pc lv (.int y :: .long x :: st) S := fun H locs ls hP hD hS hR hl => lv_lshr C.1 C.2.1 hdg hv (kk H locs ls hP hD hS hR hl)
theorem KI2l (C : Cx p l s m args meth c cc nL own ret g) {x : Int} (hdg : decode cc pc = .ok (.i2l, 1)) (hx : inR x) (kk : Wk p l e R s m args below meth c Q g nL cells slots (pc + 1) lv (.long (lI x) :: st) S) : Wk p l e R s m args below meth c Q g nL cells slots pc lv (.int (iI x) :: st) S := fun H locs ls hP hD hS hR hl => lv_i2l C.1 C.2.1 hdg (iI_l hx) (kk H locs ls hP hD hS hR hl)
theorem KLcmp (C : Cx p l s m args meth c cc nL own ret g) {x y : Int64} (hdg : decode cc pc = .ok (.lcmp, 1)) (kk : Wk p l e R s m args below meth c Q g nL cells slots (pc + 1) lv (.int (lg_cmp x y) :: st) S) : Wk p l e R s m args below meth c Q g nL cells slots pc lv (.long y :: .long x :: st) S := fun H locs ls hP hD hS hR hl => W.lcmp C.1 C.2.1 hdg (kk H locs ls hP hD hS hR hl)
theorem KDup (C : Cx p l s m args meth c cc nL own ret g) {v : Value} (hdg : decode cc pc = .ok (.dup, 1)) (hva : v.category = 1) (kk : Wk p l e R s m args below meth c Q g nL cells slots (pc + 1) lv (v :: v :: st) S) : Wk p l e R s m args below meth c Q g nL cells slots pc lv (v :: st) S := fun H locs ls hP hD hS hR hl => lv_dup C.1 C.2.1 hdg hva (kk H locs ls hP hD hS hR hl)
theorem KDup_x1 (C : Cx p l s m args meth c cc nL own ret g) {v w : Value} (hdg : decode cc pc = .ok (.dup_x1, 1)) (hva : v.category = 1) (hvb : w.category = 1) (kk : Wk p l e R s m args below meth c Q g nL cells slots (pc + 1) lv (v :: w :: v :: st) S) : Wk p l e R s m args below meth c Q g nL cells slots pc lv (v :: w :: st) S := fun H locs ls hP hD hS hR hl => lv_dup_x1 C.1 C.2.1 hdg hva hvb (kk H locs ls hP hD hS hR hl)
theorem KPop (C : Cx p l s m args meth c cc nL own ret g) {v : Value} (hdg : decode cc pc = .ok (.pop, 1)) (hva : v.category = 1) (kk : Wk p l e R s m args below meth c Q g nL cells slots (pc + 1) lv st S) : Wk p l e R s m args below meth c Q g nL cells slots pc lv (v :: st) S := fun H locs ls hP hD hS hR hl => lv_pop C.1 C.2.1 hdg hva (kk H locs ls hP hD hS hR hl)
theorem KGoto (C : Cx p l s m args meth c cc nL own ret g) {off : Int} {tgt : Nat} (hdg : decode cc pc = .ok (.goto off, 3)) (ht : (pc : Int) + off = (tgt : Int)) (kk : Wk p l e R s m args below meth c Q g nL cells slots tgt lv st S) : Wk p l e R s m args below meth c Q g nL cells slots pc lv st S := fun H locs ls hP hD hS hR hl => lv_goto C.1 C.2.1 hdg ht (kk H locs ls hP hD hS hR hl)
theorem KAnull (C : Cx p l s m args meth c cc nL own ret g) (hdg : decode cc pc = .ok (.aconst_null, 1)) (kk : Wk p l e R s m args below meth c Q g nL cells slots (pc + 1) lv (.null :: st) S) : Wk p l e R s m args below meth c Q g nL cells slots pc lv st S := fun H locs ls hP hD hS hR hl => lv_null C.1 C.2.1 hdg (kk H locs ls hP hD hS hR hl)
theorem KIcmp_eq (C : Cx p l s m args meth c cc nL own ret g) {x y : Int} {off : Int} {tgt : Nat} (hdg : decode cc pc = .ok (.if_icmp .eq off, 3)) (ht : (pc : Int) + off = (tgt : Int)) (hx : inR x) (hy : inR y) (kt : x = y → Wk p l e R s m args below meth c Q g nL cells slots tgt lv st S) (kf : ¬ x = y → Wk p l e R s m args below meth c Q g nL cells slots (pc + 3) lv st S) : Wk p l e R s m args below meth c Q g nL cells slots pc lv (.int (iI y) :: .int (iI x) :: st) S := fun H locs ls hP hD hS hR hl => lv_icmp_eq C.1 C.2.1 hdg ht (fun h => kt (brT_eq hx hy h) H locs ls hP hD hS hR hl) (fun h => kf (brF_eq hx hy h) H locs ls hP hD hS hR hl)
theorem KIcmp_ne (C : Cx p l s m args meth c cc nL own ret g) {x y : Int} {off : Int} {tgt : Nat} (hdg : decode cc pc = .ok (.if_icmp .ne off, 3)) (ht : (pc : Int) + off = (tgt : Int)) (hx : inR x) (hy : inR y) (kt : ¬ x = y → Wk p l e R s m args below meth c Q g nL cells slots tgt lv st S) (kf : x = y → Wk p l e R s m args below meth c Q g nL cells slots (pc + 3) lv st S) : Wk p l e R s m args below meth c Q g nL cells slots pc lv (.int (iI y) :: .int (iI x) :: st) S := fun H locs ls hP hD hS hR hl => lv_icmp_ne C.1 C.2.1 hdg ht (fun h => kt (brT_ne hx hy h) H locs ls hP hD hS hR hl) (fun h => kf (brF_ne hx hy h) H locs ls hP hD hS hR hl)
theorem KIcmp_lt (C : Cx p l s m args meth c cc nL own ret g) {x y : Int} {off : Int} {tgt : Nat} (hdg : decode cc pc = .ok (.if_icmp .lt off, 3)) (ht : (pc : Int) + off = (tgt : Int)) (hx : inR x) (hy : inR y) (kt : x < y → Wk p l e R s m args below meth c Q g nL cells slots tgt lv st S) (kf : y ≤ x → Wk p l e R s m args below meth c Q g nL cells slots (pc + 3) lv st S) : Wk p l e R s m args below meth c Q g nL cells slots pc lv (.int (iI y) :: .int (iI x) :: st) S := fun H locs ls hP hD hS hR hl => lv_icmp_lt C.1 C.2.1 hdg ht (fun h => kt (brT_lt hx hy h) H locs ls hP hD hS hR hl) (fun h => kf (brF_lt hx hy h) H locs ls hP hD hS hR hl)
theorem KIcmp_ge (C : Cx p l s m args meth c cc nL own ret g) {x y : Int} {off : Int} {tgt : Nat} (hdg : decode cc pc = .ok (.if_icmp .ge off, 3)) (ht : (pc : Int) + off = (tgt : Int)) (hx : inR x) (hy : inR y) (kt : y ≤ x → Wk p l e R s m args below meth c Q g nL cells slots tgt lv st S) (kf : x < y → Wk p l e R s m args below meth c Q g nL cells slots (pc + 3) lv st S) : Wk p l e R s m args below meth c Q g nL cells slots pc lv (.int (iI y) :: .int (iI x) :: st) S := fun H locs ls hP hD hS hR hl => lv_icmp_ge C.1 C.2.1 hdg ht (fun h => kt (brT_ge hx hy h) H locs ls hP hD hS hR hl) (fun h => kf (brF_ge hx hy h) H locs ls hP hD hS hR hl)
theorem KIcmp_gt (C : Cx p l s m args meth c cc nL own ret g) {x y : Int} {off : Int} {tgt : Nat} (hdg : decode cc pc = .ok (.if_icmp .gt off, 3)) (ht : (pc : Int) + off = (tgt : Int)) (hx : inR x) (hy : inR y) (kt : y < x → Wk p l e R s m args below meth c Q g nL cells slots tgt lv st S) (kf : x ≤ y → Wk p l e R s m args below meth c Q g nL cells slots (pc + 3) lv st S) : Wk p l e R s m args below meth c Q g nL cells slots pc lv (.int (iI y) :: .int (iI x) :: st) S := fun H locs ls hP hD hS hR hl => lv_icmp_gt C.1 C.2.1 hdg ht (fun h => kt (brT_gt hx hy h) H locs ls hP hD hS hR hl) (fun h => kf (brF_gt hx hy h) H locs ls hP hD hS hR hl)
theorem KIcmp_le (C : Cx p l s m args meth c cc nL own ret g) {x y : Int} {off : Int} {tgt : Nat} (hdg : decode cc pc = .ok (.if_icmp .le off, 3)) (ht : (pc : Int) + off = (tgt : Int)) (hx : inR x) (hy : inR y) (kt : x ≤ y → Wk p l e R s m args below meth c Q g nL cells slots tgt lv st S) (kf : y < x → Wk p l e R s m args below meth c Q g nL cells slots (pc + 3) lv st S) : Wk p l e R s m args below meth c Q g nL cells slots pc lv (.int (iI y) :: .int (iI x) :: st) S := fun H locs ls hP hD hS hR hl => lv_icmp_le C.1 C.2.1 hdg ht (fun h => kt (brT_le hx hy h) H locs ls hP hD hS hR hl) (fun h => kf (brF_le hx hy h) H locs ls hP hD hS hR hl)
theorem KIf_eq (C : Cx p l s m args meth c cc nL own ret g) {x : Int} {off : Int} {tgt : Nat} (hdg : decode cc pc = .ok (.ifCond .eq off, 3)) (ht : (pc : Int) + off = (tgt : Int)) (hx : inR x) (kt : x = 0 → Wk p l e R s m args below meth c Q g nL cells slots tgt lv st S) (kf : ¬ x = 0 → Wk p l e R s m args below meth c Q g nL cells slots (pc + 3) lv st S) : Wk p l e R s m args below meth c Q g nL cells slots pc lv (.int (iI x) :: st) S := fun H locs ls hP hD hS hR hl => lv_if_eq C.1 C.2.1 hdg ht (fun h => kt (brT_eq hx inR_0 (iI_0 ▸ h)) H locs ls hP hD hS hR hl) (fun h => kf (brF_eq hx inR_0 (iI_0 ▸ h)) H locs ls hP hD hS hR hl)
theorem KIf_ne (C : Cx p l s m args meth c cc nL own ret g) {x : Int} {off : Int} {tgt : Nat} (hdg : decode cc pc = .ok (.ifCond .ne off, 3)) (ht : (pc : Int) + off = (tgt : Int)) (hx : inR x) (kt : ¬ x = 0 → Wk p l e R s m args below meth c Q g nL cells slots tgt lv st S) (kf : x = 0 → Wk p l e R s m args below meth c Q g nL cells slots (pc + 3) lv st S) : Wk p l e R s m args below meth c Q g nL cells slots pc lv (.int (iI x) :: st) S := fun H locs ls hP hD hS hR hl => lv_if_ne C.1 C.2.1 hdg ht (fun h => kt (brT_ne hx inR_0 (iI_0 ▸ h)) H locs ls hP hD hS hR hl) (fun h => kf (brF_ne hx inR_0 (iI_0 ▸ h)) H locs ls hP hD hS hR hl)
theorem KIf_lt (C : Cx p l s m args meth c cc nL own ret g) {x : Int} {off : Int} {tgt : Nat} (hdg : decode cc pc = .ok (.ifCond .lt off, 3)) (ht : (pc : Int) + off = (tgt : Int)) (hx : inR x) (kt : x < 0 → Wk p l e R s m args below meth c Q g nL cells slots tgt lv st S) (kf : 0 ≤ x → Wk p l e R s m args below meth c Q g nL cells slots (pc + 3) lv st S) : Wk p l e R s m args below meth c Q g nL cells slots pc lv (.int (iI x) :: st) S := fun H locs ls hP hD hS hR hl => lv_if_lt C.1 C.2.1 hdg ht (fun h => kt (brT_lt hx inR_0 (iI_0 ▸ h)) H locs ls hP hD hS hR hl) (fun h => kf (brF_lt hx inR_0 (iI_0 ▸ h)) H locs ls hP hD hS hR hl)
theorem KIf_ge (C : Cx p l s m args meth c cc nL own ret g) {x : Int} {off : Int} {tgt : Nat} (hdg : decode cc pc = .ok (.ifCond .ge off, 3)) (ht : (pc : Int) + off = (tgt : Int)) (hx : inR x) (kt : 0 ≤ x → Wk p l e R s m args below meth c Q g nL cells slots tgt lv st S) (kf : x < 0 → Wk p l e R s m args below meth c Q g nL cells slots (pc + 3) lv st S) : Wk p l e R s m args below meth c Q g nL cells slots pc lv (.int (iI x) :: st) S := fun H locs ls hP hD hS hR hl => lv_if_ge C.1 C.2.1 hdg ht (fun h => kt (brT_ge hx inR_0 (iI_0 ▸ h)) H locs ls hP hD hS hR hl) (fun h => kf (brF_ge hx inR_0 (iI_0 ▸ h)) H locs ls hP hD hS hR hl)
theorem KIf_gt (C : Cx p l s m args meth c cc nL own ret g) {x : Int} {off : Int} {tgt : Nat} (hdg : decode cc pc = .ok (.ifCond .gt off, 3)) (ht : (pc : Int) + off = (tgt : Int)) (hx : inR x) (kt : 0 < x → Wk p l e R s m args below meth c Q g nL cells slots tgt lv st S) (kf : x ≤ 0 → Wk p l e R s m args below meth c Q g nL cells slots (pc + 3) lv st S) : Wk p l e R s m args below meth c Q g nL cells slots pc lv (.int (iI x) :: st) S := fun H locs ls hP hD hS hR hl => lv_if_gt C.1 C.2.1 hdg ht (fun h => kt (brT_gt hx inR_0 (iI_0 ▸ h)) H locs ls hP hD hS hR hl) (fun h => kf (brF_gt hx inR_0 (iI_0 ▸ h)) H locs ls hP hD hS hR hl)
theorem KIf_le (C : Cx p l s m args meth c cc nL own ret g) {x : Int} {off : Int} {tgt : Nat} (hdg : decode cc pc = .ok (.ifCond .le off, 3)) (ht : (pc : Int) + off = (tgt : Int)) (hx : inR x) (kt : x ≤ 0 → Wk p l e R s m args below meth c Q g nL cells slots tgt lv st S) (kf : 0 < x → Wk p l e R s m args below meth c Q g nL cells slots (pc + 3) lv st S) : Wk p l e R s m args below meth c Q g nL cells slots pc lv (.int (iI x) :: st) S := fun H locs ls hP hD hS hR hl => lv_if_le C.1 C.2.1 hdg ht (fun h => kt (brT_le hx inR_0 (iI_0 ▸ h)) H locs ls hP hD hS hR hl) (fun h => kf (brF_le hx inR_0 (iI_0 ▸ h)) H locs ls hP hD hS hR hl)
theorem KAcmp_eq (C : Cx p l s m args meth c cc nL own ret g) {rx ry : Option Nat} {off : Int} {tgt : Nat} (hdg : decode cc pc = .ok (.if_acmp .eq off, 3)) (ht : (pc : Int) + off = (tgt : Int)) (kt : rx = ry → Wk p l e R s m args below meth c Q g nL cells slots tgt lv st S) (kf : ¬ rx = ry → Wk p l e R s m args below meth c Q g nL cells slots (pc + 3) lv st S) : Wk p l e R s m args below meth c Q g nL cells slots pc lv (va_rf ry :: va_rf rx :: st) S := fun H locs ls hP hD hS hR hl => lv_acmp_eq C.1 C.2.1 hdg ht (fun h => kt h H locs ls hP hD hS hR hl) (fun h => kf h H locs ls hP hD hS hR hl)
theorem KAcmp_ne (C : Cx p l s m args meth c cc nL own ret g) {rx ry : Option Nat} {off : Int} {tgt : Nat} (hdg : decode cc pc = .ok (.if_acmp .ne off, 3)) (ht : (pc : Int) + off = (tgt : Int)) (kt : ¬ rx = ry → Wk p l e R s m args below meth c Q g nL cells slots tgt lv st S) (kf : rx = ry → Wk p l e R s m args below meth c Q g nL cells slots (pc + 3) lv st S) : Wk p l e R s m args below meth c Q g nL cells slots pc lv (va_rf ry :: va_rf rx :: st) S := fun H locs ls hP hD hS hR hl => lv_acmp_ne C.1 C.2.1 hdg ht (fun h => kt h H locs ls hP hD hS hR hl) (fun h => kf h H locs ls hP hD hS hR hl)
end
end
section
theorem iI_nat (n : Nat) : iI (n : Int) = Int32.ofNat n := by
  unfold iI
  rfl

theorem cel_obj {cy : Nat → ClassId} {S : Sto} {a ci : Nat} (h : sK S a = ci) (hci : ci < 20) : cel cy S a = .inr (ci, flds S a (tyF ci)) := by
  unfold cel
  rw [h, if_neg (by omega), if_neg (by omega), if_neg (by omega), if_neg (by omega)]
theorem cel_I {cy : Nat → ClassId} {S : Sto} {a : Nat} (h : sK S a = 20) : cel cy S a = .inl (cy 0, sN S a, .inl (fun j => iI (sI S a j))) := by
  unfold cel
  rw [if_pos h]
theorem cel_O {cy : Nat → ClassId} {S : Sto} {a : Nat} (h : sK S a = 21) : cel cy S a = .inl (cy 1, sN S a, .inr (.inr (.inr (.inr (fun j => sP S a j))))) := by
  unfold cel
  rw [if_neg (by omega), if_pos h]
theorem cel_G {cy : Nat → ClassId} {S : Sto} {a : Nat} (h : sK S a = 22) : cel cy S a = .inl (cy 2, sN S a, .inr (.inr (.inr (.inr (fun j => sP S a j))))) := by
  unfold cel
  rw [if_neg (by omega), if_neg (by omega), if_pos h]
theorem cel_J {cy : Nat → ClassId} {S : Sto} {a : Nat} (h : sK S a = 23) : cel cy S a = .inl (cy 3, sN S a, .inr (.inl (fun j => lI (sJ S a j)))) := by
  unfold cel
  rw [if_neg (by omega), if_neg (by omega), if_neg (by omega), if_pos h]
theorem fld_uI_ne {S : Sto} {a j t : Nat} {kz v : Int} (h : (j : Int) ≠ kz) : fld (uI S a kz v) a j t = fld S a j t := by
  show (if t = 0 then Value.int (iI (up2 (sI S) a kz v a j)) else if t = 1 then va_rf (sP S a j) else .long (lI (sJ S a j))) = _
  rw [up2_nk _ _ _ _ h]
  rfl
theorem fld_uP_ne {S : Sto} {a j t : Nat} {kz : Int} {v : Option Nat} (h : (j : Int) ≠ kz) : fld (uP S a kz v) a j t = fld S a j t := by
  show (if t = 0 then Value.int (iI (sI S a j)) else if t = 1 then va_rf (up2 (sP S) a kz v a j) else .long (lI (sJ S a j))) = _
  rw [up2_nk _ _ _ _ h]
  rfl
theorem fld_uJ_ne {S : Sto} {a j t : Nat} {kz v : Int} (h : (j : Int) ≠ kz) : fld (uJ S a kz v) a j t = fld S a j t := by
  show (if t = 0 then Value.int (iI (sI S a j)) else if t = 1 then va_rf (sP S a j) else .long (lI (up2 (sJ S) a kz v a j))) = _
  rw [up2_nk _ _ _ _ h]
  rfl
theorem flds_set {S T : Sto} {a k : Nat} {ts : List Nat} {t : Nat} {x : Value} (h : ts[k]? = some t) (h1 : fld T a k t = x) (h2 : ∀ j u, j ≠ k → fld T a j u = fld S a j u) : (flds S a ts).set k x = flds T a ts := by
  refine List.ext_getElem? fun j => ?_
  rw [List.getElem?_set, flds_get, flds_get, flds_len]
  by_cases hj : k = j
  · subst hj
    have hlt : k < ts.length := (List.getElem?_eq_some_iff.mp h).1
    rw [if_pos rfl, if_pos hlt, h]
    show some x = some (fld T a k t)
    rw [h1]
  · rw [if_neg hj]
    cases hu : ts[j]? with
    | none => rfl
    | some u =>
      show some (fld S a j u) = some (fld T a j u)
      rw [h2 j u (fun z => hj z.symm)]
theorem kz_ne {k j : Nat} {kz : Int} (hz : (k : Int) = kz) (h : j ≠ k) : (j : Int) ≠ kz := by omega
section
variable {p : Program} {l : Launch} {e : Env} {R : Room} {s : State} {m : MethodId} {args : Array Value} {below : List Frame} {meth : Method} {c : Code} {Q : State → Prop} {cc : ByteArray} {nL : Nat} {own : String} {ret : Option FieldType} {g : GG} {cells slots pc : Nat} {lv lv' : List (Nat × Value)} {st : List Value} {S : Sto} {a : Nat}
theorem Cx.home (C : Cx p l s m args meth c cc nL own ret g) : s.vm.findClass own = some m.cls := C.2.2.2.1
theorem Cx.words (C : Cx p l s m args meth c cc nL own ret g) : ∀ w ∈ UW, w.before args s = true := C.2.2.2.2.1
theorem Cx.tabs (C : Cx p l s m args meth c cc nL own ret g) : va_K (gD g) vwCl (tyl (gC g)) s := C.2.2.2.2.2.1
theorem Cx.sta (C : Cx p l s m args meth c cc nL own ret g) : Sta g s s.heap := C.2.2.2.2.2.2.1
theorem Cx.base (C : Cx p l s m args meth c cc nL own ret g) : gB g ≤ s.heap.size := C.2.2.2.2.2.2.2.1
theorem Cx.rett (C : Cx p l s m args meth c cc nL own ret g) : meth.sig.returnType = ret := C.2.2.2.2.2.2.2.2.1
theorem Cx.locks (C : Cx p l s m args meth c cc nL own ret g) : meth.locks = false := C.2.2.2.2.2.2.2.2.2.1
theorem Cx.nws (C : Cx p l s m args meth c cc nL own ret g) : Nws s := C.2.2.2.2.2.2.2.2.2.2
theorem Cx.old (C : Cx p l s m args meth c cc nL own ret g) : ∀ q : Nat, s.heap.size ≤ q → ge (gB g) q := fun _ h => Nat.le_trans C.base h
theorem KGetI (C : Cx p l s m args meth c cc nL own ret g) {ref Cn : String} {T : u_T} {N ci index : Nat} (hin : ∀ w ∈ u_ws Cn T N, w ∈ UW) (hc : vwCl[ci]? = some (Cn, T, N)) (hci : ci < 20) (k : Nat) (kz : Int) (hz : (k : Int) = kz) (hk : k < N) (ht : (tyF ci)[k]? = some 0) (hlink : Cond.fieldLink own index ref (T k).2.1 (T k).2.2.1 ∈ UW) (ha : At0 S a ci) {v : Int} (hv : sI S a kz = v) (hdg : decode cc pc = .ok (.getfield index, 3)) (hsame : ∀ x, s.fieldFound? (T k).1 (T k).2.1 (T k).2.2.1 = some x → s.fieldFound? ref (T k).2.1 (T k).2.2.1 = some x) (kk : Wk p l e R s m args below meth c Q g nL cells slots (pc + 3) lv (.int (iI v) :: st) S) : Wk p l e R s m args below meth c Q g nL cells slots pc lv (.ref a :: st) S := fun H locs ls hP hD hS hR hl => by
  obtain ⟨q0, hq⟩ := pol_get (cy := gC g) ha.1
  rw [cel_obj ha.2 hci] at hq
  exact va_get C.1 C.2.1 C.words hin C.home C.tabs hP q0 hq hc k hk (C.words _ hlink) hsame (v := .int (iI v)) (by
    rw [flds_get, ht, ← hv, ← hz]
    rfl) hdg (kk H locs ls hP hD hS hR hl)
theorem KPutI (C : Cx p l s m args meth c cc nL own ret g) {ref Cn : String} {T : u_T} {N ci index : Nat} (hin : ∀ w ∈ u_ws Cn T N, w ∈ UW) (hc : vwCl[ci]? = some (Cn, T, N)) (hci : ci < 20) (k : Nat) (kz : Int) (hz : (k : Int) = kz) (hk : k < N) (ht : (tyF ci)[k]? = some 0) (hlink : Cond.fieldLink own index ref (T k).2.1 (T k).2.2.1 ∈ UW) (ty0 : Nat → FieldType) (hty : ∀ k, k < N → parseFieldDescriptor (T k).2.2.1 = some (ty0 k)) (hnm : ∀ a, a < N → ∀ b, b < N → a ≠ b → (T a).2.1 ≠ (T b).2.1) (ha : At0 S a ci) {v : Int} (hr : inR v) {ty : FieldType} (hd : parseFieldDescriptor (T k).2.2.1 = some ty) (hn : narrow ty (.int (iI v)) = .int (iI v)) (hfit : fits ty (.int (iI v)) = true) (hfin : (T k).2.2.2 = false) (hdg : decode cc pc = .ok (.putfield index, 3)) (hsame : ∀ x, s.fieldFound? (T k).1 (T k).2.1 (T k).2.2.1 = some x → s.fieldFound? ref (T k).2.1 (T k).2.2.1 = some x) (kk : Wk p l e R s m args below meth c Q g nL cells slots (pc + 3) lv st (uI S a kz v)) : Wk p l e R s m args below meth c Q g nL cells slots pc lv (.int (iI v) :: .ref a :: st) S := fun H locs ls hP hD hS hR hl => by
  obtain ⟨q0, hq⟩ := pol_get (cy := gC g) ha.1
  have hq0 := hq
  rw [cel_obj ha.2 hci] at hq
  refine va_put C.1 C.2.1 C.words hin ty0 hty hnm C.home C.tabs hP hD hS q0 hq hc k hk (C.words _ hlink) hsame hfin hd hn hfit (by rw [flds_len]; exact (List.getElem?_eq_some_iff.mp ht).1) hdg (fun H1 locs1 hP1 hD1 hS1 => ?_)
  have hset : (pol (gC g) S).set q0 (a, .inr (ci, (flds S a (tyF ci)).set k (.int (iI v)))) = pol (gC g) (uI S a kz v) := by
    refine pol_set hD ha.1 hq0 rfl ?_ (fun b hb => ?_)
    · refine (cel_obj (S := uI S a kz v) ha.2 hci).trans ?_
      congr 2
      refine (flds_set ht ?_ (fun j u hj => fld_uI_ne (kz_ne hz hj))).symm
      subst hz
      show Value.int (iI (up2 (sI S) a (k : Int) v a (k : Int))) = _
      rw [up2_same]
    · exact cel_congr rfl rfl (up2_row _ _ _ hb) rfl rfl
  rw [hset] at hP1 hD1
  exact kk H1 locs1 ls hP1 hD1 hS1 (hR.uI a kz hr) hl
theorem KPutIF (C : Cx p l s m args meth c cc nL own ret g) {ref Cn : String} {T : u_T} {N ci index : Nat} (hin : ∀ w ∈ u_ws Cn T N, w ∈ UW) (hc : vwCl[ci]? = some (Cn, T, N)) (hci : ci < 20) (k : Nat) (kz : Int) (hz : (k : Int) = kz) (hk : k < N) (ht : (tyF ci)[k]? = some 0) (hlink : Cond.fieldLink own index ref (T k).2.1 (T k).2.2.1 ∈ UW) (ty0 : Nat → FieldType) (hty : ∀ k, k < N → parseFieldDescriptor (T k).2.2.1 = some (ty0 k)) (hnm : ∀ a, a < N → ∀ b, b < N → a ≠ b → (T a).2.1 ≠ (T b).2.1) (ha : At0 S a ci) {v : Int} (hr : inR v) {ty : FieldType} (hd : parseFieldDescriptor (T k).2.2.1 = some ty) (hn : narrow ty (.int (iI v)) = .int (iI v)) (hfit : fits ty (.int (iI v)) = true) (hfin : (T k).2.2.2 = true) (hin2 : meth.name = "<init>") (hdecl : (T k).1 = own) (hdg : decode cc pc = .ok (.putfield index, 3)) (hsame : ∀ x, s.fieldFound? (T k).1 (T k).2.1 (T k).2.2.1 = some x → s.fieldFound? ref (T k).2.1 (T k).2.2.1 = some x) (kk : Wk p l e R s m args below meth c Q g nL cells slots (pc + 3) lv st (uI S a kz v)) : Wk p l e R s m args below meth c Q g nL cells slots pc lv (.int (iI v) :: .ref a :: st) S := fun H locs ls hP hD hS hR hl => by
  obtain ⟨q0, hq⟩ := pol_get (cy := gC g) ha.1
  have hq0 := hq
  rw [cel_obj ha.2 hci] at hq
  refine va_putF C.1 C.2.1 C.words hin ty0 hty hnm C.home C.tabs hP hD hS q0 hq hc k hk (C.words _ hlink) hsame hfin hin2 hdecl hd hn hfit (by rw [flds_len]; exact (List.getElem?_eq_some_iff.mp ht).1) hdg (fun H1 locs1 hP1 hD1 hS1 => ?_)
  have hset : (pol (gC g) S).set q0 (a, .inr (ci, (flds S a (tyF ci)).set k (.int (iI v)))) = pol (gC g) (uI S a kz v) := by
    refine pol_set hD ha.1 hq0 rfl ?_ (fun b hb => ?_)
    · refine (cel_obj (S := uI S a kz v) ha.2 hci).trans ?_
      congr 2
      refine (flds_set ht ?_ (fun j u hj => fld_uI_ne (kz_ne hz hj))).symm
      subst hz
      show Value.int (iI (up2 (sI S) a (k : Int) v a (k : Int))) = _
      rw [up2_same]
    · exact cel_congr rfl rfl (up2_row _ _ _ hb) rfl rfl
  rw [hset] at hP1 hD1
  exact kk H1 locs1 ls hP1 hD1 hS1 (hR.uI a kz hr) hl
theorem KGetIN (C : Cx p l s m args meth c cc nL own ret g) {ref Cn host : String} {T : u_T} {N ci index : Nat} (hin : ∀ w ∈ u_ws Cn T N, w ∈ UW) (hc : vwCl[ci]? = some (Cn, T, N)) (hci : ci < 20) (k : Nat) (kz : Int) (hz : (k : Int) = kz) (hk : k < N) (ht : (tyF ci)[k]? = some 0) (hlink : Cond.fieldLinkNest own index ref (T k).2.1 (T k).2.2.1 host ∈ UN) (ha : At0 S a ci) {v : Int} (hv : sI S a kz = v) (hdg : decode cc pc = .ok (.getfield index, 3)) (hsame : ∀ x, s.fieldFound? (T k).1 (T k).2.1 (T k).2.2.1 = some x → s.fieldFound? ref (T k).2.1 (T k).2.2.1 = some x) (kk : Wk p l e R s m args below meth c Q g nL cells slots (pc + 3) lv (.int (iI v) :: st) S) : Wk p l e R s m args below meth c Q g nL cells slots pc lv (.ref a :: st) S := fun H locs ls hP hD hS hR hl => by
  obtain ⟨q0, hq⟩ := pol_get (cy := gC g) ha.1
  rw [cel_obj ha.2 hci] at hq
  exact va_getN C.1 C.2.1 C.words hin C.home C.tabs hP q0 hq hc k hk (va_Nw.use rfl (C.nws.1 _ hlink)) hsame (v := .int (iI v)) (by
    rw [flds_get, ht, ← hv, ← hz]
    rfl) hdg (kk H locs ls hP hD hS hR hl)
theorem KPutIN (C : Cx p l s m args meth c cc nL own ret g) {ref Cn host : String} {T : u_T} {N ci index : Nat} (hin : ∀ w ∈ u_ws Cn T N, w ∈ UW) (hc : vwCl[ci]? = some (Cn, T, N)) (hci : ci < 20) (k : Nat) (kz : Int) (hz : (k : Int) = kz) (hk : k < N) (ht : (tyF ci)[k]? = some 0) (hlink : Cond.fieldLinkNest own index ref (T k).2.1 (T k).2.2.1 host ∈ UN) (ty0 : Nat → FieldType) (hty : ∀ k, k < N → parseFieldDescriptor (T k).2.2.1 = some (ty0 k)) (hnm : ∀ a, a < N → ∀ b, b < N → a ≠ b → (T a).2.1 ≠ (T b).2.1) (ha : At0 S a ci) {v : Int} (hr : inR v) {ty : FieldType} (hd : parseFieldDescriptor (T k).2.2.1 = some ty) (hn : narrow ty (.int (iI v)) = .int (iI v)) (hfit : fits ty (.int (iI v)) = true) (hfin : (T k).2.2.2 = false) (hdg : decode cc pc = .ok (.putfield index, 3)) (hsame : ∀ x, s.fieldFound? (T k).1 (T k).2.1 (T k).2.2.1 = some x → s.fieldFound? ref (T k).2.1 (T k).2.2.1 = some x) (kk : Wk p l e R s m args below meth c Q g nL cells slots (pc + 3) lv st (uI S a kz v)) : Wk p l e R s m args below meth c Q g nL cells slots pc lv (.int (iI v) :: .ref a :: st) S := fun H locs ls hP hD hS hR hl => by
  obtain ⟨q0, hq⟩ := pol_get (cy := gC g) ha.1
  have hq0 := hq
  rw [cel_obj ha.2 hci] at hq
  refine va_putN C.1 C.2.1 C.words hin ty0 hty hnm C.home C.tabs hP hD hS q0 hq hc k hk (va_Nw.use rfl (C.nws.1 _ hlink)) hsame hfin hd hn hfit (by rw [flds_len]; exact (List.getElem?_eq_some_iff.mp ht).1) hdg (fun H1 locs1 hP1 hD1 hS1 => ?_)
  have hset : (pol (gC g) S).set q0 (a, .inr (ci, (flds S a (tyF ci)).set k (.int (iI v)))) = pol (gC g) (uI S a kz v) := by
    refine pol_set hD ha.1 hq0 rfl ?_ (fun b hb => ?_)
    · refine (cel_obj (S := uI S a kz v) ha.2 hci).trans ?_
      congr 2
      refine (flds_set ht ?_ (fun j u hj => fld_uI_ne (kz_ne hz hj))).symm
      subst hz
      show Value.int (iI (up2 (sI S) a (k : Int) v a (k : Int))) = _
      rw [up2_same]
    · exact cel_congr rfl rfl (up2_row _ _ _ hb) rfl rfl
  rw [hset] at hP1 hD1
  exact kk H1 locs1 ls hP1 hD1 hS1 (hR.uI a kz hr) hl
theorem KGetP (C : Cx p l s m args meth c cc nL own ret g) {ref Cn : String} {T : u_T} {N ci index : Nat} (hin : ∀ w ∈ u_ws Cn T N, w ∈ UW) (hc : vwCl[ci]? = some (Cn, T, N)) (hci : ci < 20) (k : Nat) (kz : Int) (hz : (k : Int) = kz) (hk : k < N) (ht : (tyF ci)[k]? = some 1) (hlink : Cond.fieldLink own index ref (T k).2.1 (T k).2.2.1 ∈ UW) (ha : At0 S a ci) {v : Option Nat} (hv : sP S a kz = v) (hdg : decode cc pc = .ok (.getfield index, 3)) (hsame : ∀ x, s.fieldFound? (T k).1 (T k).2.1 (T k).2.2.1 = some x → s.fieldFound? ref (T k).2.1 (T k).2.2.1 = some x) (kk : Wk p l e R s m args below meth c Q g nL cells slots (pc + 3) lv (va_rf v :: st) S) : Wk p l e R s m args below meth c Q g nL cells slots pc lv (.ref a :: st) S := fun H locs ls hP hD hS hR hl => by
  obtain ⟨q0, hq⟩ := pol_get (cy := gC g) ha.1
  rw [cel_obj ha.2 hci] at hq
  exact va_get C.1 C.2.1 C.words hin C.home C.tabs hP q0 hq hc k hk (C.words _ hlink) hsame (v := va_rf v) (by
    rw [flds_get, ht, ← hv, ← hz]
    rfl) hdg (kk H locs ls hP hD hS hR hl)
theorem KGetR (C : Cx p l s m args meth c cc nL own ret g) {ref Cn : String} {T : u_T} {N ci index : Nat} (hin : ∀ w ∈ u_ws Cn T N, w ∈ UW) (hc : vwCl[ci]? = some (Cn, T, N)) (hci : ci < 20) (k : Nat) (kz : Int) (hz : (k : Int) = kz) (hk : k < N) (ht : (tyF ci)[k]? = some 1) (hlink : Cond.fieldLink own index ref (T k).2.1 (T k).2.2.1 ∈ UW) (ha : At0 S a ci) {b : Nat} (hv : sP S a kz = some b) (hdg : decode cc pc = .ok (.getfield index, 3)) (hsame : ∀ x, s.fieldFound? (T k).1 (T k).2.1 (T k).2.2.1 = some x → s.fieldFound? ref (T k).2.1 (T k).2.2.1 = some x) (kk : Wk p l e R s m args below meth c Q g nL cells slots (pc + 3) lv (.ref b :: st) S) : Wk p l e R s m args below meth c Q g nL cells slots pc lv (.ref a :: st) S := KGetP C hin hc hci k kz hz hk ht hlink ha hv hdg hsame kk
theorem KPutP (C : Cx p l s m args meth c cc nL own ret g) {ref Cn : String} {T : u_T} {N ci index : Nat} (hin : ∀ w ∈ u_ws Cn T N, w ∈ UW) (hc : vwCl[ci]? = some (Cn, T, N)) (hci : ci < 20) (k : Nat) (kz : Int) (hz : (k : Int) = kz) (hk : k < N) (ht : (tyF ci)[k]? = some 1) (hlink : Cond.fieldLink own index ref (T k).2.1 (T k).2.2.1 ∈ UW) (ty0 : Nat → FieldType) (hty : ∀ k, k < N → parseFieldDescriptor (T k).2.2.1 = some (ty0 k)) (hnm : ∀ a, a < N → ∀ b, b < N → a ≠ b → (T a).2.1 ≠ (T b).2.1) (ha : At0 S a ci) {v : Option Nat} {ty : FieldType} (hd : parseFieldDescriptor (T k).2.2.1 = some ty) (hn : narrow ty (va_rf v) = va_rf v) (hfit : fits ty (va_rf v) = true) (hfin : (T k).2.2.2 = false) (hdg : decode cc pc = .ok (.putfield index, 3)) (hsame : ∀ x, s.fieldFound? (T k).1 (T k).2.1 (T k).2.2.1 = some x → s.fieldFound? ref (T k).2.1 (T k).2.2.1 = some x) (kk : Wk p l e R s m args below meth c Q g nL cells slots (pc + 3) lv st (uP S a kz v)) : Wk p l e R s m args below meth c Q g nL cells slots pc lv (va_rf v :: .ref a :: st) S := fun H locs ls hP hD hS hR hl => by
  obtain ⟨q0, hq⟩ := pol_get (cy := gC g) ha.1
  have hq0 := hq
  rw [cel_obj ha.2 hci] at hq
  refine va_put C.1 C.2.1 C.words hin ty0 hty hnm C.home C.tabs hP hD hS q0 hq hc k hk (C.words _ hlink) hsame hfin hd hn hfit (by rw [flds_len]; exact (List.getElem?_eq_some_iff.mp ht).1) hdg (fun H1 locs1 hP1 hD1 hS1 => ?_)
  have hset : (pol (gC g) S).set q0 (a, .inr (ci, (flds S a (tyF ci)).set k (va_rf v))) = pol (gC g) (uP S a kz v) := by
    refine pol_set hD ha.1 hq0 rfl ?_ (fun b hb => ?_)
    · refine (cel_obj (S := uP S a kz v) ha.2 hci).trans ?_
      congr 2
      refine (flds_set ht ?_ (fun j u hj => fld_uP_ne (kz_ne hz hj))).symm
      subst hz
      show va_rf (up2 (sP S) a (k : Int) v a (k : Int)) = _
      rw [up2_same]
    · exact cel_congr rfl rfl rfl (up2_row _ _ _ hb) rfl
  rw [hset] at hP1 hD1
  exact kk H1 locs1 ls hP1 hD1 hS1 hR hl
theorem KPutPF (C : Cx p l s m args meth c cc nL own ret g) {ref Cn : String} {T : u_T} {N ci index : Nat} (hin : ∀ w ∈ u_ws Cn T N, w ∈ UW) (hc : vwCl[ci]? = some (Cn, T, N)) (hci : ci < 20) (k : Nat) (kz : Int) (hz : (k : Int) = kz) (hk : k < N) (ht : (tyF ci)[k]? = some 1) (hlink : Cond.fieldLink own index ref (T k).2.1 (T k).2.2.1 ∈ UW) (ty0 : Nat → FieldType) (hty : ∀ k, k < N → parseFieldDescriptor (T k).2.2.1 = some (ty0 k)) (hnm : ∀ a, a < N → ∀ b, b < N → a ≠ b → (T a).2.1 ≠ (T b).2.1) (ha : At0 S a ci) {v : Option Nat} {ty : FieldType} (hd : parseFieldDescriptor (T k).2.2.1 = some ty) (hn : narrow ty (va_rf v) = va_rf v) (hfit : fits ty (va_rf v) = true) (hfin : (T k).2.2.2 = true) (hin2 : meth.name = "<init>") (hdecl : (T k).1 = own) (hdg : decode cc pc = .ok (.putfield index, 3)) (hsame : ∀ x, s.fieldFound? (T k).1 (T k).2.1 (T k).2.2.1 = some x → s.fieldFound? ref (T k).2.1 (T k).2.2.1 = some x) (kk : Wk p l e R s m args below meth c Q g nL cells slots (pc + 3) lv st (uP S a kz v)) : Wk p l e R s m args below meth c Q g nL cells slots pc lv (va_rf v :: .ref a :: st) S := fun H locs ls hP hD hS hR hl => by
  obtain ⟨q0, hq⟩ := pol_get (cy := gC g) ha.1
  have hq0 := hq
  rw [cel_obj ha.2 hci] at hq
  refine va_putF C.1 C.2.1 C.words hin ty0 hty hnm C.home C.tabs hP hD hS q0 hq hc k hk (C.words _ hlink) hsame hfin hin2 hdecl hd hn hfit (by rw [flds_len]; exact (List.getElem?_eq_some_iff.mp ht).1) hdg (fun H1 locs1 hP1 hD1 hS1 => ?_)
  have hset : (pol (gC g) S).set q0 (a, .inr (ci, (flds S a (tyF ci)).set k (va_rf v))) = pol (gC g) (uP S a kz v) := by
    refine pol_set hD ha.1 hq0 rfl ?_ (fun b hb => ?_)
    · refine (cel_obj (S := uP S a kz v) ha.2 hci).trans ?_
      congr 2
      refine (flds_set ht ?_ (fun j u hj => fld_uP_ne (kz_ne hz hj))).symm
      subst hz
      show va_rf (up2 (sP S) a (k : Int) v a (k : Int)) = _
      rw [up2_same]
    · exact cel_congr rfl rfl rfl (up2_row _ _ _ hb) rfl
  rw [hset] at hP1 hD1
  exact kk H1 locs1 ls hP1 hD1 hS1 hR hl
theorem KGetPN (C : Cx p l s m args meth c cc nL own ret g) {ref Cn host : String} {T : u_T} {N ci index : Nat} (hin : ∀ w ∈ u_ws Cn T N, w ∈ UW) (hc : vwCl[ci]? = some (Cn, T, N)) (hci : ci < 20) (k : Nat) (kz : Int) (hz : (k : Int) = kz) (hk : k < N) (ht : (tyF ci)[k]? = some 1) (hlink : Cond.fieldLinkNest own index ref (T k).2.1 (T k).2.2.1 host ∈ UN) (ha : At0 S a ci) {v : Option Nat} (hv : sP S a kz = v) (hdg : decode cc pc = .ok (.getfield index, 3)) (hsame : ∀ x, s.fieldFound? (T k).1 (T k).2.1 (T k).2.2.1 = some x → s.fieldFound? ref (T k).2.1 (T k).2.2.1 = some x) (kk : Wk p l e R s m args below meth c Q g nL cells slots (pc + 3) lv (va_rf v :: st) S) : Wk p l e R s m args below meth c Q g nL cells slots pc lv (.ref a :: st) S := fun H locs ls hP hD hS hR hl => by
  obtain ⟨q0, hq⟩ := pol_get (cy := gC g) ha.1
  rw [cel_obj ha.2 hci] at hq
  exact va_getN C.1 C.2.1 C.words hin C.home C.tabs hP q0 hq hc k hk (va_Nw.use rfl (C.nws.1 _ hlink)) hsame (v := va_rf v) (by
    rw [flds_get, ht, ← hv, ← hz]
    rfl) hdg (kk H locs ls hP hD hS hR hl)
theorem KGetRN (C : Cx p l s m args meth c cc nL own ret g) {ref Cn host : String} {T : u_T} {N ci index : Nat} (hin : ∀ w ∈ u_ws Cn T N, w ∈ UW) (hc : vwCl[ci]? = some (Cn, T, N)) (hci : ci < 20) (k : Nat) (kz : Int) (hz : (k : Int) = kz) (hk : k < N) (ht : (tyF ci)[k]? = some 1) (hlink : Cond.fieldLinkNest own index ref (T k).2.1 (T k).2.2.1 host ∈ UN) (ha : At0 S a ci) {b : Nat} (hv : sP S a kz = some b) (hdg : decode cc pc = .ok (.getfield index, 3)) (hsame : ∀ x, s.fieldFound? (T k).1 (T k).2.1 (T k).2.2.1 = some x → s.fieldFound? ref (T k).2.1 (T k).2.2.1 = some x) (kk : Wk p l e R s m args below meth c Q g nL cells slots (pc + 3) lv (.ref b :: st) S) : Wk p l e R s m args below meth c Q g nL cells slots pc lv (.ref a :: st) S := KGetPN C hin hc hci k kz hz hk ht hlink ha hv hdg hsame kk
theorem KPutPN (C : Cx p l s m args meth c cc nL own ret g) {ref Cn host : String} {T : u_T} {N ci index : Nat} (hin : ∀ w ∈ u_ws Cn T N, w ∈ UW) (hc : vwCl[ci]? = some (Cn, T, N)) (hci : ci < 20) (k : Nat) (kz : Int) (hz : (k : Int) = kz) (hk : k < N) (ht : (tyF ci)[k]? = some 1) (hlink : Cond.fieldLinkNest own index ref (T k).2.1 (T k).2.2.1 host ∈ UN) (ty0 : Nat → FieldType) (hty : ∀ k, k < N → parseFieldDescriptor (T k).2.2.1 = some (ty0 k)) (hnm : ∀ a, a < N → ∀ b, b < N → a ≠ b → (T a).2.1 ≠ (T b).2.1) (ha : At0 S a ci) {v : Option Nat} {ty : FieldType} (hd : parseFieldDescriptor (T k).2.2.1 = some ty) (hn : narrow ty (va_rf v) = va_rf v) (hfit : fits ty (va_rf v) = true) (hfin : (T k).2.2.2 = false) (hdg : decode cc pc = .ok (.putfield index, 3)) (hsame : ∀ x, s.fieldFound? (T k).1 (T k).2.1 (T k).2.2.1 = some x → s.fieldFound? ref (T k).2.1 (T k).2.2.1 = some x) (kk : Wk p l e R s m args below meth c Q g nL cells slots (pc + 3) lv st (uP S a kz v)) : Wk p l e R s m args below meth c Q g nL cells slots pc lv (va_rf v :: .ref a :: st) S := fun H locs ls hP hD hS hR hl => by
  obtain ⟨q0, hq⟩ := pol_get (cy := gC g) ha.1
  have hq0 := hq
  rw [cel_obj ha.2 hci] at hq
  refine va_putN C.1 C.2.1 C.words hin ty0 hty hnm C.home C.tabs hP hD hS q0 hq hc k hk (va_Nw.use rfl (C.nws.1 _ hlink)) hsame hfin hd hn hfit (by rw [flds_len]; exact (List.getElem?_eq_some_iff.mp ht).1) hdg (fun H1 locs1 hP1 hD1 hS1 => ?_)
  have hset : (pol (gC g) S).set q0 (a, .inr (ci, (flds S a (tyF ci)).set k (va_rf v))) = pol (gC g) (uP S a kz v) := by
    refine pol_set hD ha.1 hq0 rfl ?_ (fun b hb => ?_)
    · refine (cel_obj (S := uP S a kz v) ha.2 hci).trans ?_
      congr 2
      refine (flds_set ht ?_ (fun j u hj => fld_uP_ne (kz_ne hz hj))).symm
      subst hz
      show va_rf (up2 (sP S) a (k : Int) v a (k : Int)) = _
      rw [up2_same]
    · exact cel_congr rfl rfl rfl (up2_row _ _ _ hb) rfl
  rw [hset] at hP1 hD1
  exact kk H1 locs1 ls hP1 hD1 hS1 hR hl
theorem KGetJ (C : Cx p l s m args meth c cc nL own ret g) {ref Cn : String} {T : u_T} {N ci index : Nat} (hin : ∀ w ∈ u_ws Cn T N, w ∈ UW) (hc : vwCl[ci]? = some (Cn, T, N)) (hci : ci < 20) (k : Nat) (kz : Int) (hz : (k : Int) = kz) (hk : k < N) (ht : (tyF ci)[k]? = some 2) (hlink : Cond.fieldLink own index ref (T k).2.1 (T k).2.2.1 ∈ UW) (ha : At0 S a ci) {v : Int} (hv : sJ S a kz = v) (hdg : decode cc pc = .ok (.getfield index, 3)) (hsame : ∀ x, s.fieldFound? (T k).1 (T k).2.1 (T k).2.2.1 = some x → s.fieldFound? ref (T k).2.1 (T k).2.2.1 = some x) (kk : Wk p l e R s m args below meth c Q g nL cells slots (pc + 3) lv (.long (lI v) :: st) S) : Wk p l e R s m args below meth c Q g nL cells slots pc lv (.ref a :: st) S := fun H locs ls hP hD hS hR hl => by
  obtain ⟨q0, hq⟩ := pol_get (cy := gC g) ha.1
  rw [cel_obj ha.2 hci] at hq
  exact va_get C.1 C.2.1 C.words hin C.home C.tabs hP q0 hq hc k hk (C.words _ hlink) hsame (v := .long (lI v)) (by
    rw [flds_get, ht, ← hv, ← hz]
    rfl) hdg (kk H locs ls hP hD hS hR hl)
theorem KPutJ (C : Cx p l s m args meth c cc nL own ret g) {ref Cn : String} {T : u_T} {N ci index : Nat} (hin : ∀ w ∈ u_ws Cn T N, w ∈ UW) (hc : vwCl[ci]? = some (Cn, T, N)) (hci : ci < 20) (k : Nat) (kz : Int) (hz : (k : Int) = kz) (hk : k < N) (ht : (tyF ci)[k]? = some 2) (hlink : Cond.fieldLink own index ref (T k).2.1 (T k).2.2.1 ∈ UW) (ty0 : Nat → FieldType) (hty : ∀ k, k < N → parseFieldDescriptor (T k).2.2.1 = some (ty0 k)) (hnm : ∀ a, a < N → ∀ b, b < N → a ≠ b → (T a).2.1 ≠ (T b).2.1) (ha : At0 S a ci) {v : Int} {ty : FieldType} (hd : parseFieldDescriptor (T k).2.2.1 = some ty) (hn : narrow ty (.long (lI v)) = .long (lI v)) (hfit : fits ty (.long (lI v)) = true) (hfin : (T k).2.2.2 = false) (hdg : decode cc pc = .ok (.putfield index, 3)) (hsame : ∀ x, s.fieldFound? (T k).1 (T k).2.1 (T k).2.2.1 = some x → s.fieldFound? ref (T k).2.1 (T k).2.2.1 = some x) (kk : Wk p l e R s m args below meth c Q g nL cells slots (pc + 3) lv st (uJ S a kz v)) : Wk p l e R s m args below meth c Q g nL cells slots pc lv (.long (lI v) :: .ref a :: st) S := fun H locs ls hP hD hS hR hl => by
  obtain ⟨q0, hq⟩ := pol_get (cy := gC g) ha.1
  have hq0 := hq
  rw [cel_obj ha.2 hci] at hq
  refine va_put C.1 C.2.1 C.words hin ty0 hty hnm C.home C.tabs hP hD hS q0 hq hc k hk (C.words _ hlink) hsame hfin hd hn hfit (by rw [flds_len]; exact (List.getElem?_eq_some_iff.mp ht).1) hdg (fun H1 locs1 hP1 hD1 hS1 => ?_)
  have hset : (pol (gC g) S).set q0 (a, .inr (ci, (flds S a (tyF ci)).set k (.long (lI v)))) = pol (gC g) (uJ S a kz v) := by
    refine pol_set hD ha.1 hq0 rfl ?_ (fun b hb => ?_)
    · refine (cel_obj (S := uJ S a kz v) ha.2 hci).trans ?_
      congr 2
      refine (flds_set ht ?_ (fun j u hj => fld_uJ_ne (kz_ne hz hj))).symm
      subst hz
      show Value.long (lI (up2 (sJ S) a (k : Int) v a (k : Int))) = _
      rw [up2_same]
    · exact cel_congr rfl rfl rfl rfl (up2_row _ _ _ hb)
  rw [hset] at hP1 hD1
  exact kk H1 locs1 ls hP1 hD1 hS1 hR hl
theorem KPutJF (C : Cx p l s m args meth c cc nL own ret g) {ref Cn : String} {T : u_T} {N ci index : Nat} (hin : ∀ w ∈ u_ws Cn T N, w ∈ UW) (hc : vwCl[ci]? = some (Cn, T, N)) (hci : ci < 20) (k : Nat) (kz : Int) (hz : (k : Int) = kz) (hk : k < N) (ht : (tyF ci)[k]? = some 2) (hlink : Cond.fieldLink own index ref (T k).2.1 (T k).2.2.1 ∈ UW) (ty0 : Nat → FieldType) (hty : ∀ k, k < N → parseFieldDescriptor (T k).2.2.1 = some (ty0 k)) (hnm : ∀ a, a < N → ∀ b, b < N → a ≠ b → (T a).2.1 ≠ (T b).2.1) (ha : At0 S a ci) {v : Int} {ty : FieldType} (hd : parseFieldDescriptor (T k).2.2.1 = some ty) (hn : narrow ty (.long (lI v)) = .long (lI v)) (hfit : fits ty (.long (lI v)) = true) (hfin : (T k).2.2.2 = true) (hin2 : meth.name = "<init>") (hdecl : (T k).1 = own) (hdg : decode cc pc = .ok (.putfield index, 3)) (hsame : ∀ x, s.fieldFound? (T k).1 (T k).2.1 (T k).2.2.1 = some x → s.fieldFound? ref (T k).2.1 (T k).2.2.1 = some x) (kk : Wk p l e R s m args below meth c Q g nL cells slots (pc + 3) lv st (uJ S a kz v)) : Wk p l e R s m args below meth c Q g nL cells slots pc lv (.long (lI v) :: .ref a :: st) S := fun H locs ls hP hD hS hR hl => by
  obtain ⟨q0, hq⟩ := pol_get (cy := gC g) ha.1
  have hq0 := hq
  rw [cel_obj ha.2 hci] at hq
  refine va_putF C.1 C.2.1 C.words hin ty0 hty hnm C.home C.tabs hP hD hS q0 hq hc k hk (C.words _ hlink) hsame hfin hin2 hdecl hd hn hfit (by rw [flds_len]; exact (List.getElem?_eq_some_iff.mp ht).1) hdg (fun H1 locs1 hP1 hD1 hS1 => ?_)
  have hset : (pol (gC g) S).set q0 (a, .inr (ci, (flds S a (tyF ci)).set k (.long (lI v)))) = pol (gC g) (uJ S a kz v) := by
    refine pol_set hD ha.1 hq0 rfl ?_ (fun b hb => ?_)
    · refine (cel_obj (S := uJ S a kz v) ha.2 hci).trans ?_
      congr 2
      refine (flds_set ht ?_ (fun j u hj => fld_uJ_ne (kz_ne hz hj))).symm
      subst hz
      show Value.long (lI (up2 (sJ S) a (k : Int) v a (k : Int))) = _
      rw [up2_same]
    · exact cel_congr rfl rfl rfl rfl (up2_row _ _ _ hb)
  rw [hset] at hP1 hD1
  exact kk H1 locs1 ls hP1 hD1 hS1 hR hl
theorem KGetJN (C : Cx p l s m args meth c cc nL own ret g) {ref Cn host : String} {T : u_T} {N ci index : Nat} (hin : ∀ w ∈ u_ws Cn T N, w ∈ UW) (hc : vwCl[ci]? = some (Cn, T, N)) (hci : ci < 20) (k : Nat) (kz : Int) (hz : (k : Int) = kz) (hk : k < N) (ht : (tyF ci)[k]? = some 2) (hlink : Cond.fieldLinkNest own index ref (T k).2.1 (T k).2.2.1 host ∈ UN) (ha : At0 S a ci) {v : Int} (hv : sJ S a kz = v) (hdg : decode cc pc = .ok (.getfield index, 3)) (hsame : ∀ x, s.fieldFound? (T k).1 (T k).2.1 (T k).2.2.1 = some x → s.fieldFound? ref (T k).2.1 (T k).2.2.1 = some x) (kk : Wk p l e R s m args below meth c Q g nL cells slots (pc + 3) lv (.long (lI v) :: st) S) : Wk p l e R s m args below meth c Q g nL cells slots pc lv (.ref a :: st) S := fun H locs ls hP hD hS hR hl => by
  obtain ⟨q0, hq⟩ := pol_get (cy := gC g) ha.1
  rw [cel_obj ha.2 hci] at hq
  exact va_getN C.1 C.2.1 C.words hin C.home C.tabs hP q0 hq hc k hk (va_Nw.use rfl (C.nws.1 _ hlink)) hsame (v := .long (lI v)) (by
    rw [flds_get, ht, ← hv, ← hz]
    rfl) hdg (kk H locs ls hP hD hS hR hl)
theorem KPutJN (C : Cx p l s m args meth c cc nL own ret g) {ref Cn host : String} {T : u_T} {N ci index : Nat} (hin : ∀ w ∈ u_ws Cn T N, w ∈ UW) (hc : vwCl[ci]? = some (Cn, T, N)) (hci : ci < 20) (k : Nat) (kz : Int) (hz : (k : Int) = kz) (hk : k < N) (ht : (tyF ci)[k]? = some 2) (hlink : Cond.fieldLinkNest own index ref (T k).2.1 (T k).2.2.1 host ∈ UN) (ty0 : Nat → FieldType) (hty : ∀ k, k < N → parseFieldDescriptor (T k).2.2.1 = some (ty0 k)) (hnm : ∀ a, a < N → ∀ b, b < N → a ≠ b → (T a).2.1 ≠ (T b).2.1) (ha : At0 S a ci) {v : Int} {ty : FieldType} (hd : parseFieldDescriptor (T k).2.2.1 = some ty) (hn : narrow ty (.long (lI v)) = .long (lI v)) (hfit : fits ty (.long (lI v)) = true) (hfin : (T k).2.2.2 = false) (hdg : decode cc pc = .ok (.putfield index, 3)) (hsame : ∀ x, s.fieldFound? (T k).1 (T k).2.1 (T k).2.2.1 = some x → s.fieldFound? ref (T k).2.1 (T k).2.2.1 = some x) (kk : Wk p l e R s m args below meth c Q g nL cells slots (pc + 3) lv st (uJ S a kz v)) : Wk p l e R s m args below meth c Q g nL cells slots pc lv (.long (lI v) :: .ref a :: st) S := fun H locs ls hP hD hS hR hl => by
  obtain ⟨q0, hq⟩ := pol_get (cy := gC g) ha.1
  have hq0 := hq
  rw [cel_obj ha.2 hci] at hq
  refine va_putN C.1 C.2.1 C.words hin ty0 hty hnm C.home C.tabs hP hD hS q0 hq hc k hk (va_Nw.use rfl (C.nws.1 _ hlink)) hsame hfin hd hn hfit (by rw [flds_len]; exact (List.getElem?_eq_some_iff.mp ht).1) hdg (fun H1 locs1 hP1 hD1 hS1 => ?_)
  have hset : (pol (gC g) S).set q0 (a, .inr (ci, (flds S a (tyF ci)).set k (.long (lI v)))) = pol (gC g) (uJ S a kz v) := by
    refine pol_set hD ha.1 hq0 rfl ?_ (fun b hb => ?_)
    · refine (cel_obj (S := uJ S a kz v) ha.2 hci).trans ?_
      congr 2
      refine (flds_set ht ?_ (fun j u hj => fld_uJ_ne (kz_ne hz hj))).symm
      subst hz
      show Value.long (lI (up2 (sJ S) a (k : Int) v a (k : Int))) = _
      rw [up2_same]
    · exact cel_congr rfl rfl rfl rfl (up2_row _ _ _ hb)
  rw [hset] at hP1 hD1
  exact kk H1 locs1 ls hP1 hD1 hS1 hR hl
theorem KPutR (C : Cx p l s m args meth c cc nL own ret g) {ref Cn : String} {T : u_T} {N ci index : Nat} (hin : ∀ w ∈ u_ws Cn T N, w ∈ UW) (hc : vwCl[ci]? = some (Cn, T, N)) (hci : ci < 20) (k : Nat) (kz : Int) (hz : (k : Int) = kz) (hk : k < N) (ht : (tyF ci)[k]? = some 1) (hlink : Cond.fieldLink own index ref (T k).2.1 (T k).2.2.1 ∈ UW) (ty0 : Nat → FieldType) (hty : ∀ k, k < N → parseFieldDescriptor (T k).2.2.1 = some (ty0 k)) (hnm : ∀ a, a < N → ∀ b, b < N → a ≠ b → (T a).2.1 ≠ (T b).2.1) (ha : At0 S a ci) {b : Nat} {ty : FieldType} (hd : parseFieldDescriptor (T k).2.2.1 = some ty) (hn : narrow ty (.ref b) = .ref b) (hfit : fits ty (.ref b) = true) (hfin : (T k).2.2.2 = false) (hdg : decode cc pc = .ok (.putfield index, 3)) (hsame : ∀ x, s.fieldFound? (T k).1 (T k).2.1 (T k).2.2.1 = some x → s.fieldFound? ref (T k).2.1 (T k).2.2.1 = some x) (kk : Wk p l e R s m args below meth c Q g nL cells slots (pc + 3) lv st (uP S a kz (some b))) : Wk p l e R s m args below meth c Q g nL cells slots pc lv (.ref b :: .ref a :: st) S := KPutP (v := some b) C hin hc hci k kz hz hk ht hlink ty0 hty hnm ha hd hn hfit hfin hdg hsame kk
theorem KPutRF (C : Cx p l s m args meth c cc nL own ret g) {ref Cn : String} {T : u_T} {N ci index : Nat} (hin : ∀ w ∈ u_ws Cn T N, w ∈ UW) (hc : vwCl[ci]? = some (Cn, T, N)) (hci : ci < 20) (k : Nat) (kz : Int) (hz : (k : Int) = kz) (hk : k < N) (ht : (tyF ci)[k]? = some 1) (hlink : Cond.fieldLink own index ref (T k).2.1 (T k).2.2.1 ∈ UW) (ty0 : Nat → FieldType) (hty : ∀ k, k < N → parseFieldDescriptor (T k).2.2.1 = some (ty0 k)) (hnm : ∀ a, a < N → ∀ b, b < N → a ≠ b → (T a).2.1 ≠ (T b).2.1) (ha : At0 S a ci) {b : Nat} {ty : FieldType} (hd : parseFieldDescriptor (T k).2.2.1 = some ty) (hn : narrow ty (.ref b) = .ref b) (hfit : fits ty (.ref b) = true) (hfin : (T k).2.2.2 = true) (hin2 : meth.name = "<init>") (hdecl : (T k).1 = own) (hdg : decode cc pc = .ok (.putfield index, 3)) (hsame : ∀ x, s.fieldFound? (T k).1 (T k).2.1 (T k).2.2.1 = some x → s.fieldFound? ref (T k).2.1 (T k).2.2.1 = some x) (kk : Wk p l e R s m args below meth c Q g nL cells slots (pc + 3) lv st (uP S a kz (some b))) : Wk p l e R s m args below meth c Q g nL cells slots pc lv (.ref b :: .ref a :: st) S := KPutPF (v := some b) C hin hc hci k kz hz hk ht hlink ty0 hty hnm ha hd hn hfit hfin hin2 hdecl hdg hsame kk
theorem KPutRN (C : Cx p l s m args meth c cc nL own ret g) {ref Cn host : String} {T : u_T} {N ci index : Nat} (hin : ∀ w ∈ u_ws Cn T N, w ∈ UW) (hc : vwCl[ci]? = some (Cn, T, N)) (hci : ci < 20) (k : Nat) (kz : Int) (hz : (k : Int) = kz) (hk : k < N) (ht : (tyF ci)[k]? = some 1) (hlink : Cond.fieldLinkNest own index ref (T k).2.1 (T k).2.2.1 host ∈ UN) (ty0 : Nat → FieldType) (hty : ∀ k, k < N → parseFieldDescriptor (T k).2.2.1 = some (ty0 k)) (hnm : ∀ a, a < N → ∀ b, b < N → a ≠ b → (T a).2.1 ≠ (T b).2.1) (ha : At0 S a ci) {b : Nat} {ty : FieldType} (hd : parseFieldDescriptor (T k).2.2.1 = some ty) (hn : narrow ty (.ref b) = .ref b) (hfit : fits ty (.ref b) = true) (hfin : (T k).2.2.2 = false) (hdg : decode cc pc = .ok (.putfield index, 3)) (hsame : ∀ x, s.fieldFound? (T k).1 (T k).2.1 (T k).2.2.1 = some x → s.fieldFound? ref (T k).2.1 (T k).2.2.1 = some x) (kk : Wk p l e R s m args below meth c Q g nL cells slots (pc + 3) lv st (uP S a kz (some b))) : Wk p l e R s m args below meth c Q g nL cells slots pc lv (.ref b :: .ref a :: st) S := KPutPN (v := some b) C hin hc hci k kz hz hk ht hlink ty0 hty hnm ha hd hn hfit hfin hdg hsame kk
theorem KIald (C : Cx p l s m args meth c cc nL own ret g) {i v : Int} (n : Nat) (ha : At0 S a 20) (hN : sN S a = n) (h : 0 ≤ i ∧ i < n) (hn : n < 2147483648) (hv : sI S a i = v) (hdg : decode cc pc = .ok (.iaload, 1)) (kk : Wk p l e R s m args below meth c Q g nL cells slots (pc + 1) lv (.int (iI v) :: st) S) : Wk p l e R s m args below meth c Q g nL cells slots pc lv (.int (iI i) :: .ref a :: st) S := fun H locs ls hP hD hS hR hl => by
  obtain ⟨q0, hq⟩ := pol_get (cy := gC g) ha.1
  rw [cel_I ha.2, hN] at hq
  have hi : inR i := ⟨by omega, by omega⟩
  refine va_iald C.1 C.2.1 C.tabs hP q0 0 hq rfl (iI_in h.1 h.2 hi) hdg ?_
  rw [iI_clamp h.1 hi, Int.toNat_of_nonneg h.1, hv]
  exact kk H locs ls hP hD hS hR hl
theorem KIast (C : Cx p l s m args meth c cc nL own ret g) {i v : Int} (n : Nat) (ha : At0 S a 20) (hN : sN S a = n) (h : 0 ≤ i ∧ i < n) (hn : n < 2147483648) (hr : inR v) (hdg : decode cc pc = .ok (.iastore, 1)) (kk : Wk p l e R s m args below meth c Q g nL cells slots (pc + 1) lv st (uI S a i v)) : Wk p l e R s m args below meth c Q g nL cells slots pc lv (.int (iI v) :: .int (iI i) :: .ref a :: st) S := fun H locs ls hP hD hS hR hl => by
  obtain ⟨q0, hq⟩ := pol_get (cy := gC g) ha.1
  have hq0 := hq
  rw [cel_I ha.2, hN] at hq
  have hi : inR i := ⟨by omega, by omega⟩
  refine va_iast C.1 C.2.1 C.tabs hP hD hS q0 0 hq rfl (iI_in h.1 h.2 hi) hdg (fun H1 locs1 hP1 hD1 hS1 => ?_)
  rw [iI_clamp h.1 hi] at hP1 hD1
  have hset : (pol (gC g) S).set q0 (a, .inl (gC g 0, n, .inl (upd (fun j : Nat => iI (sI S a j)) i.toNat (iI v)))) = pol (gC g) (uI S a i v) := by
    refine pol_set hD ha.1 hq0 rfl ?_ (fun b hb => cel_congr rfl rfl (up2_row _ _ _ hb) rfl rfl)
    refine (cel_I (S := uI S a i v) ha.2).trans ?_
    rw [show sN (uI S a i v) a = n from hN]
    congr 4
    funext j
    show iI (up2 (sI S) a i v a j) = upd _ _ _ j
    unfold up2 upd
    by_cases hj : j = i.toNat
    · rw [if_pos hj, if_pos ⟨rfl, by omega⟩]
    · rw [if_neg hj, if_neg (fun z => hj (by omega))]
  rw [hset] at hP1 hD1
  exact kk H1 locs1 ls hP1 hD1 hS1 (hR.uI a i hr) hl
theorem KLald (C : Cx p l s m args meth c cc nL own ret g) {i v : Int} (n : Nat) (ha : At0 S a 23) (hN : sN S a = n) (h : 0 ≤ i ∧ i < n) (hn : n < 2147483648) (hv : sJ S a i = v) (hdg : decode cc pc = .ok (.laload, 1)) (kk : Wk p l e R s m args below meth c Q g nL cells slots (pc + 1) lv (.long (lI v) :: st) S) : Wk p l e R s m args below meth c Q g nL cells slots pc lv (.int (iI i) :: .ref a :: st) S := fun H locs ls hP hD hS hR hl => by
  obtain ⟨q0, hq⟩ := pol_get (cy := gC g) ha.1
  rw [cel_J ha.2, hN] at hq
  have hi : inR i := ⟨by omega, by omega⟩
  refine va_lald C.1 C.2.1 C.tabs hP q0 3 hq rfl (iI_in h.1 h.2 hi) hdg ?_
  rw [iI_clamp h.1 hi, Int.toNat_of_nonneg h.1, hv]
  exact kk H locs ls hP hD hS hR hl
theorem KLast (C : Cx p l s m args meth c cc nL own ret g) {i v : Int} (n : Nat) (ha : At0 S a 23) (hN : sN S a = n) (h : 0 ≤ i ∧ i < n) (hn : n < 2147483648) (hdg : decode cc pc = .ok (.lastore, 1)) (kk : Wk p l e R s m args below meth c Q g nL cells slots (pc + 1) lv st (uJ S a i v)) : Wk p l e R s m args below meth c Q g nL cells slots pc lv (.long (lI v) :: .int (iI i) :: .ref a :: st) S := fun H locs ls hP hD hS hR hl => by
  obtain ⟨q0, hq⟩ := pol_get (cy := gC g) ha.1
  have hq0 := hq
  rw [cel_J ha.2, hN] at hq
  have hi : inR i := ⟨by omega, by omega⟩
  refine va_last C.1 C.2.1 C.tabs hP hD hS q0 3 hq rfl (iI_in h.1 h.2 hi) hdg (fun H1 locs1 hP1 hD1 hS1 => ?_)
  rw [iI_clamp h.1 hi] at hP1 hD1
  have hset : (pol (gC g) S).set q0 (a, .inl (gC g 3, n, .inr (.inl (vp_updL (fun j : Nat => lI (sJ S a j)) i.toNat (lI v))))) = pol (gC g) (uJ S a i v) := by
    refine pol_set hD ha.1 hq0 rfl ?_ (fun b hb => cel_congr rfl rfl rfl rfl (up2_row _ _ _ hb))
    refine (cel_J (S := uJ S a i v) ha.2).trans ?_
    rw [show sN (uJ S a i v) a = n from hN]
    congr 5
    funext j
    show lI (up2 (sJ S) a i v a j) = vp_updL _ _ _ j
    unfold up2 vp_updL
    by_cases hj : j = i.toNat
    · rw [if_pos hj, if_pos ⟨rfl, by omega⟩]
    · rw [if_neg hj, if_neg (fun z => hj (by omega))]
  rw [hset] at hP1 hD1
  exact kk H1 locs1 ls hP1 hD1 hS1 hR hl
theorem KAald (C : Cx p l s m args meth c cc nL own ret g) {i : Int} {v : Option Nat} (n : Nat) (ha : At0 S a 21) (hN : sN S a = n) (h : 0 ≤ i ∧ i < n) (hn : n < 2147483648) (hv : sP S a i = v) (hdg : decode cc pc = .ok (.aaload, 1)) (kk : Wk p l e R s m args below meth c Q g nL cells slots (pc + 1) lv (va_rf v :: st) S) : Wk p l e R s m args below meth c Q g nL cells slots pc lv (.int (iI i) :: .ref a :: st) S := fun H locs ls hP hD hS hR hl => by
  obtain ⟨q0, hq⟩ := pol_get (cy := gC g) ha.1
  rw [cel_O ha.2, hN] at hq
  have hi : inR i := ⟨by omega, by omega⟩
  refine va_aldq C.1 C.2.1 C.tabs hP q0 1 hq rfl (iI_in h.1 h.2 hi) hdg ?_
  rw [iI_clamp h.1 hi, Int.toNat_of_nonneg h.1, hv]
  exact kk H locs ls hP hD hS hR hl
theorem KGald (C : Cx p l s m args meth c cc nL own ret g) {i : Int} {v : Option Nat} (n : Nat) (ha : At0 S a 22) (hN : sN S a = n) (h : 0 ≤ i ∧ i < n) (hn : n < 2147483648) (hv : sP S a i = v) (hdg : decode cc pc = .ok (.aaload, 1)) (kk : Wk p l e R s m args below meth c Q g nL cells slots (pc + 1) lv (va_rf v :: st) S) : Wk p l e R s m args below meth c Q g nL cells slots pc lv (.int (iI i) :: .ref a :: st) S := fun H locs ls hP hD hS hR hl => by
  obtain ⟨q0, hq⟩ := pol_get (cy := gC g) ha.1
  rw [cel_G ha.2, hN] at hq
  have hi : inR i := ⟨by omega, by omega⟩
  have hin := iI_in h.1 h.2 hi
  have hlt : (iI i).toNatClampNeg < n := Nat.not_le.mp fun q => hin (Or.inr q)
  refine W.aald (v := va_rf v) (ty := .array .int) C.1 C.2.1 (hP q0 _ hq) ((C.tabs.2 2 _ rfl).1 n (fun j => va_rf (sP S a j))) rfl (fun q => by cases q) (by show ¬ (iI i < 0 ∨ (arrV _ _ _).slots.size ≤ _); rw [arrV_size]; exact hin) (by
    show (arrV _ _ _).slots[_]? = _
    rw [arrV_read _ _ hlt, iI_clamp h.1 hi]
    show some (va_rf (sP S a (i.toNat : Int))) = some (va_rf v)
    rw [Int.toNat_of_nonneg h.1, hv]) rfl rfl hdg ?_
  exact kk H locs ls hP hD hS hR hl
theorem KAast (C : Cx p l s m args meth c cc nL own ret g) {i : Int} {b cb : Nat} {r : vw_C} (n : Nat) (ha : At0 S a 21) (hN : sN S a = n) (h : 0 ≤ i ∧ i < n) (hn : n < 2147483648) (hb : At0 S b cb) (hcb : cb < 20) (hr : vwCl[cb]? = some r) (hca : Cond.castable r.1 "java/lang/Object" ∈ UN) (hdg : decode cc pc = .ok (.aastore, 1)) (kk : Wk p l e R s m args below meth c Q g nL cells slots (pc + 1) lv st (uP S a i (some b))) : Wk p l e R s m args below meth c Q g nL cells slots pc lv (.ref b :: .int (iI i) :: .ref a :: st) S := fun H locs ls hP hD hS hR hl => by
  obtain ⟨q0, hq⟩ := pol_get (cy := gC g) ha.1
  have hq0 := hq
  rw [cel_O ha.2, hN] at hq
  obtain ⟨q1, hq1⟩ := pol_get (cy := gC g) hb.1
  rw [cel_obj hb.2 hcb] at hq1
  have hi : inR i := ⟨by omega, by omega⟩
  refine va_astqO (E := "java/lang/Object") C.1 C.2.1 C.tabs hP hD hS q0 1 q1 cb hq rfl (C.nws.1 _ hca) hq1 hr (iI_in h.1 h.2 hi) hdg (fun H1 locs1 hP1 hD1 hS1 => ?_)
  rw [iI_clamp h.1 hi] at hP1 hD1
  have hset : (pol (gC g) S).set q0 (a, .inl (gC g 1, n, .inr (.inr (.inr (.inr (va_up (fun j : Nat => sP S a j) i.toNat (some b))))))) = pol (gC g) (uP S a i (some b)) := by
    refine pol_set hD ha.1 hq0 rfl ?_ (fun b hb => cel_congr rfl rfl rfl (up2_row _ _ _ hb) rfl)
    refine (cel_O (S := uP S a i (some b)) ha.2).trans ?_
    rw [show sN (uP S a i (some b)) a = n from hN]
    congr 7
    funext j
    show up2 (sP S) a i (some b) a j = va_up _ _ _ j
    unfold up2 va_up
    by_cases hj : j = i.toNat
    · rw [if_pos hj, if_pos ⟨rfl, by omega⟩]
    · rw [if_neg hj, if_neg (fun z => hj (by omega))]
  rw [hset] at hP1 hD1
  exact kk H1 locs1 ls hP1 hD1 hS1 hR hl
theorem KAastN (C : Cx p l s m args meth c cc nL own ret g) {i : Int} (n : Nat) (ha : At0 S a 21) (hN : sN S a = n) (h : 0 ≤ i ∧ i < n) (hn : n < 2147483648) (hdg : decode cc pc = .ok (.aastore, 1)) (kk : Wk p l e R s m args below meth c Q g nL cells slots (pc + 1) lv st (uP S a i none)) : Wk p l e R s m args below meth c Q g nL cells slots pc lv (.null :: .int (iI i) :: .ref a :: st) S := fun H locs ls hP hD hS hR hl => by
  obtain ⟨q0, hq⟩ := pol_get (cy := gC g) ha.1
  have hq0 := hq
  rw [cel_O ha.2, hN] at hq
  have hi : inR i := ⟨by omega, by omega⟩
  refine va_astqN C.1 C.2.1 C.tabs hP hD hS q0 1 hq rfl (iI_in h.1 h.2 hi) hdg (fun H1 locs1 hP1 hD1 hS1 => ?_)
  rw [iI_clamp h.1 hi] at hP1 hD1
  have hset : (pol (gC g) S).set q0 (a, .inl (gC g 1, n, .inr (.inr (.inr (.inr (va_up (fun j : Nat => sP S a j) i.toNat none)))))) = pol (gC g) (uP S a i none) := by
    refine pol_set hD ha.1 hq0 rfl ?_ (fun b hb => cel_congr rfl rfl rfl (up2_row _ _ _ hb) rfl)
    refine (cel_O (S := uP S a i none) ha.2).trans ?_
    rw [show sN (uP S a i none) a = n from hN]
    congr 7
    funext j
    show up2 (sP S) a i none a j = va_up _ _ _ j
    unfold up2 va_up
    by_cases hj : j = i.toNat
    · rw [if_pos hj, if_pos ⟨rfl, by omega⟩]
    · rw [if_neg hj, if_neg (fun z => hj (by omega))]
  rw [hset] at hP1 hD1
  exact kk H1 locs1 ls hP1 hD1 hS1 hR hl
theorem KAaldR (C : Cx p l s m args meth c cc nL own ret g) {i : Int} {b : Nat} (n : Nat) (ha : At0 S a 21) (hN : sN S a = n) (h : 0 ≤ i ∧ i < n) (hn : n < 2147483648) (hv : sP S a i = some b) (hdg : decode cc pc = .ok (.aaload, 1)) (kk : Wk p l e R s m args below meth c Q g nL cells slots (pc + 1) lv (.ref b :: st) S) : Wk p l e R s m args below meth c Q g nL cells slots pc lv (.int (iI i) :: .ref a :: st) S := KAald C n ha hN h hn hv hdg kk
theorem KGaldR (C : Cx p l s m args meth c cc nL own ret g) {i : Int} {b : Nat} (n : Nat) (ha : At0 S a 22) (hN : sN S a = n) (h : 0 ≤ i ∧ i < n) (hn : n < 2147483648) (hv : sP S a i = some b) (hdg : decode cc pc = .ok (.aaload, 1)) (kk : Wk p l e R s m args below meth c Q g nL cells slots (pc + 1) lv (.ref b :: st) S) : Wk p l e R s m args below meth c Q g nL cells slots pc lv (.int (iI i) :: .ref a :: st) S := KGald C n ha hN h hn hv hdg kk
theorem KAlenI (C : Cx p l s m args meth c cc nL own ret g) (n : Nat) (ha : At0 S a 20) (hN : sN S a = n) (hdg : decode cc pc = .ok (.arraylength, 1)) (kk : Wk p l e R s m args below meth c Q g nL cells slots (pc + 1) lv (.int (iI n) :: st) S) : Wk p l e R s m args below meth c Q g nL cells slots pc lv (.ref a :: st) S := fun H locs ls hP hD hS hR hl => by
  obtain ⟨q0, hq⟩ := pol_get (cy := gC g) ha.1
  rw [cel_I ha.2, hN] at hq
  exact va_alen C.1 C.2.1 C.tabs hP q0 0 hq rfl (v := iI n) (iI_nat n).symm hdg (kk H locs ls hP hD hS hR hl)
theorem KAlenO (C : Cx p l s m args meth c cc nL own ret g) (n : Nat) (ha : At0 S a 21) (hN : sN S a = n) (hdg : decode cc pc = .ok (.arraylength, 1)) (kk : Wk p l e R s m args below meth c Q g nL cells slots (pc + 1) lv (.int (iI n) :: st) S) : Wk p l e R s m args below meth c Q g nL cells slots pc lv (.ref a :: st) S := fun H locs ls hP hD hS hR hl => by
  obtain ⟨q0, hq⟩ := pol_get (cy := gC g) ha.1
  rw [cel_O ha.2, hN] at hq
  exact va_alen C.1 C.2.1 C.tabs hP q0 1 hq rfl (v := iI n) (iI_nat n).symm hdg (kk H locs ls hP hD hS hR hl)
theorem KAlenG (C : Cx p l s m args meth c cc nL own ret g) (n : Nat) (ha : At0 S a 22) (hN : sN S a = n) (hdg : decode cc pc = .ok (.arraylength, 1)) (kk : Wk p l e R s m args below meth c Q g nL cells slots (pc + 1) lv (.int (iI n) :: st) S) : Wk p l e R s m args below meth c Q g nL cells slots pc lv (.ref a :: st) S := fun H locs ls hP hD hS hR hl => by
  obtain ⟨q0, hq⟩ := pol_get (cy := gC g) ha.1
  rw [cel_G ha.2, hN] at hq
  exact va_alen C.1 C.2.1 C.tabs hP q0 2 hq rfl (v := iI n) (iI_nat n).symm hdg (kk H locs ls hP hD hS hR hl)
theorem KAlenJ (C : Cx p l s m args meth c cc nL own ret g) (n : Nat) (ha : At0 S a 23) (hN : sN S a = n) (hdg : decode cc pc = .ok (.arraylength, 1)) (kk : Wk p l e R s m args below meth c Q g nL cells slots (pc + 1) lv (.int (iI n) :: st) S) : Wk p l e R s m args below meth c Q g nL cells slots pc lv (.ref a :: st) S := fun H locs ls hP hD hS hR hl => by
  obtain ⟨q0, hq⟩ := pol_get (cy := gC g) ha.1
  rw [cel_J ha.2, hN] at hq
  exact va_alen C.1 C.2.1 C.tabs hP q0 3 hq rfl (v := iI n) (iI_nat n).symm hdg (kk H locs ls hP hD hS hR hl)
end
end
section
theorem goodUW {ws : List Cond} (h : ∀ w ∈ ws, w ∈ UW) : GoodIn UW ws := fun w hw => ⟨h w hw, good_of_word (List.mem_filter.mp (h w hw)).2⟩
def rmK (d mc ms : Nat) : Room := { frames := d, cells := mc, slots := ms, locals := 64 * d }
/-- how a contract begins -/
def PcG (g : GG) (av : List Value) (S : Sto) : Array Value → State → Prop := fun v U => v = av.toArray ∧ gB g ≤ U.heap.size ∧ va_P (gD g) vwCl (pol (gC g) S) U.heap ∧ va_D (ge (gB g)) (pol (gC g) S) ∧ Rg S ∧ va_K (gD g) vwCl (tyl (gC g)) U ∧ Sta g U U.heap ∧ Nws U
/-- how it ends -/
def QcG (g : GG) (Post : Option Value → Sto → Prop) : Array Value → State → Outcome → State → Prop := fun _ st oc t => (∃ (v : Option Value) (u : Sto), oc = .returned v ∧ Post v u ∧ va_P (gD g) vwCl (pol (gC g) u) t.heap ∧ va_D (ge (gB g)) (pol (gC g) u) ∧ Rg u) ∧ va_F (ge (gB g)) st t
/-- how it throws -/
def XcG (g : GG) (Thr : String → Sto → Prop) : String → State → State → Prop := fun E st t => (∃ u : Sto, Thr E u ∧ va_P (gD g) vwCl (pol (gC g) u) t.heap ∧ va_D (ge (gB g)) (pol (gC g) u) ∧ Rg u) ∧ va_F (ge (gB g)) st t
def MetS (l : Launch) (g : GG) (y : MethodName) (cc : ByteArray) (nL : Nat) (ret : Option FieldType) (d mc ms : Nat) (av : List Value) (S : Sto) (Post : Option Value → Sto → Prop) : Prop := Met l y (.code y cc nL ret :: UW) (rmK d mc ms) (PcG g av S) (QcG g Post) mc ms (ge (gB g))
def MetX (l : Launch) (g : GG) (y : MethodName) (cc : ByteArray) (nL : Nat) (ret : Option FieldType) (d mc ms : Nat) (av : List Value) (S : Sto) (Post : Option Value → Sto → Prop) (Thr : String → Sto → Prop) : Prop := vx_Met l y (.code y cc nL ret :: UW) (rmK d mc ms) (PcG g av S) (QcG g Post) (XcG g Thr) mc ms (ge (gB g))
theorem PcG.blind {g : GG} {av : List Value} {S : Sto} : FrameBlind (PcG g av S) := by
  intro a U fr mk h
  obtain ⟨h1, h2, h3, h4, h5, h6, h7, h8⟩ := h
  refine ⟨h1, h2, h3, h4, h5, va_K.moved (u := U) (U := U.calling fr mk a) (Vm.Alike.refl U.vm) h6, h7.moved (Vm.Alike.refl U.vm), Nws.same (u := U) (U := U.calling fr mk a) rfl h8⟩
theorem code_head {w0 : Cond} {v : Cond} (h : v ∈ (w0 :: UW)) (h0 : w0 ∈ UW) : v ∈ UW := (List.mem_cons.mp h).elim (fun e => e ▸ h0) id
section
variable {p : Program} {l : Launch} {e : Env} {R : Room} {s : State} {m : MethodId} {args : Array Value} {below : List Frame} {meth : Method} {c : Code} {Q : State → Prop} {cc : ByteArray} {nL : Nat} {own : String} {ret : Option FieldType} {g : GG} {cells slots pc : Nat} {lv lv' : List (Nat × Value)} {st st0 : List Value} {S : Sto} {a : Nat}
variable {y : MethodName} {cc' : ByteArray} {nL' : Nat} {ret' : Option FieldType} {d mc ms index ci b n mcO msO : Nat} {As : List Value} {Post PostO : Option Value → Sto → Prop} {Thr ThrO : String → Sto → Prop} {Cn : String}
/-- the start of a callee, from the caller's store -/
theorem Cx.pcg (C : Cx p l s m args meth c cc nL own ret g) {H : Heap} {locs : List Loc} (hP : va_P (gD g) vwCl (pol (gC g) S) H) (hD : va_D (ge (gB g)) (pol (gC g) S)) (hS : va_S (ge (gB g)) s.heap H locs) (hR : Rg S) (av : List Value) {U : State} (hU : U.heap = H) (hW : s.WarmedH U.vm) : PcG g av S av.toArray U := by
  refine ⟨rfl, by rw [hU]; exact Nat.le_trans C.base hS.1, by rw [hU]; exact hP, hD, hR, C.tabs.moved hW.alike, ?_, C.nws.warm hW⟩
  rw [hU]
  exact (C.sta.moved hW.alike).kept (fun q h1 h2 => hS.2.1 q h1 h2)
/-- a non-throwing contract, by its body -/
theorem MetS.of (hy : plainName y.cls = true) (ho : y.cls = own) (hlen : (lg_sl As).length ≤ nL) (hlv : lv_args 0 As = lv)
    (body : ∀ (p : Program) (e : Env) (s : State) (m : MethodId) (args : Array Value) (below : List Frame) (meth : Method) (c : Code), Cx p l s m args meth c cc nL own ret g → meth.name = y.name → Wk p l e (rmK d mc ms) s m args below meth c (MQ below (QcG g Post) args s mc ms (ge (gB g))) g nL 0 0 0 lv [] S) : MetS l g y cc nL ret d mc ms As S Post := by
  refine Met.ofW (cc := cc) (maxL := nL) (ret := ret) hy rfl ?_
  intro p e s m args below meth c s₁ B hml hv
  obtain ⟨rfl, hsz, hP, hD, hR, hK, hSt, hN⟩ := hv
  have hts := atoms_spec (ws := .code y cc nL ret :: UW) B.pre
  have hown : s.vm.findClass y.cls = some m.cls := findClass_of_methodNamed B.named
  rw [ho] at hown
  have hl := lv_entry As (n := nL) hlen
  rw [hlv] at hl
  rw [lg_entry_eq]
  exact body p e s m _ below meth c ⟨B.exec, B.bytes, hml, hown, fun w h => hts w (List.mem_cons_of_mem _ h), hK, hSt, hsz, B.returns, B.notSynchronized, hN⟩ (name_of_methodNamed B.named B.method).1 _ _ _ hP hD va_S.rf hR hl
/-- a contract that may throw, by its body -/
theorem MetX.of (hy : plainName y.cls = true) (ho : y.cls = own) (hlen : (lg_sl As).length ≤ nL) (hlv : lv_args 0 As = lv)
    (body : ∀ (p : Program) (e : Env) (s : State) (m : MethodId) (args : Array Value) (below : List Frame) (meth : Method) (c : Code), Cx p l s m args meth c cc nL own ret g → (∀ x ∈ c.exceptionTable.toList, False) → Wk p l e (rmK d mc ms) s m args below meth c (vx_MQ below (QcG g Post) (XcG g Thr) args s mc ms (ge (gB g))) g nL 0 0 0 lv [] S) : MetX l g y cc nL ret d mc ms As S Post Thr := by
  refine vx_ofW (cc := cc) (maxL := nL) (ret := ret) hy rfl ?_
  intro p e s m args below meth c s₁ B hml hne hv
  obtain ⟨rfl, hsz, hP, hD, hR, hK, hSt, hN⟩ := hv
  have hts := atoms_spec (ws := .code y cc nL ret :: UW) B.pre
  have hown : s.vm.findClass y.cls = some m.cls := findClass_of_methodNamed B.named
  rw [ho] at hown
  have hl := lv_entry As (n := nL) hlen
  rw [hlv] at hl
  rw [lg_entry_eq]
  exact body p e s m _ below meth c ⟨B.exec, B.bytes, hml, hown, fun w h => hts w (List.mem_cons_of_mem _ h), hK, hSt, hsz, B.returns, B.notSynchronized, hN⟩ hne _ _ _ hP hD va_S.rf hR hl
theorem QcG.mk {H : Heap} {locs : List Loc} {v : Option Value} {t : State} {a : Array Value} (hP : va_P (gD g) vwCl (pol (gC g) S) H) (hD : va_D (ge (gB g)) (pol (gC g) S)) (hS : va_S (ge (gB g)) s.heap H locs) (hR : Rg S) (hp : Post v S) (ht : t.heap = H) : QcG g Post a s (.returned v) t := ⟨⟨v, S, rfl, hp, by rw [ht]; exact hP, hD, hR⟩, hS.F ht⟩
theorem KIret (C : Cx p l s m args meth c cc nL own ret g) {v : Int} {ty : FieldType} (hr : ret = some ty) (hn : narrow ty (.int (iI v)) = .int (iI v)) (hp : Post (some (.int (iI v))) S) (hc : cells ≤ mcO) (hs : slots ≤ msO) (hdg : decode cc pc = .ok (.ireturn, 1)) : Wk p l e R s m args below meth c (MQ below (QcG g Post) args s mcO msO (ge (gB g))) g nL cells slots pc lv ([.int (iI v)]) S := fun H locs ls hP hD hS hR hl => W.widen hc hs (W.zret C.1 C.2.1 (C.rett.trans hr) hn (fun t ht _ => QcG.mk hP hD hS hR hp ht) (fun q h => hS.2.2 q h) hdg C.locks)
theorem KAret (C : Cx p l s m args meth c cc nL own ret g) {v : Option Nat} {ty : FieldType} (hr : ret = some ty) (hrt : (∃ n, ty = .object n) ∨ ∃ t, ty = .array t) (hp : Post (some (va_rf v)) S) (hc : cells ≤ mcO) (hs : slots ≤ msO) (hdg : decode cc pc = .ok (.areturn, 1)) : Wk p l e R s m args below meth c (MQ below (QcG g Post) args s mcO msO (ge (gB g))) g nL cells slots pc lv ([va_rf v]) S := fun H locs ls hP hD hS hR hl => W.widen hc hs (W.aret C.1 C.2.1 (C.rett.trans hr) hrt (by cases v; exact Or.inl rfl; exact Or.inr ⟨_, rfl⟩) (fun t ht _ => QcG.mk hP hD hS hR hp ht) (fun q h => hS.2.2 q h) hdg C.locks)
theorem KVret (C : Cx p l s m args meth c cc nL own ret g) (hr : ret = none) (hp : Post (none) S) (hc : cells ≤ mcO) (hs : slots ≤ msO) (hdg : decode cc pc = .ok (.return_, 1)) : Wk p l e R s m args below meth c (MQ below (QcG g Post) args s mcO msO (ge (gB g))) g nL cells slots pc lv [] S := fun H locs ls hP hD hS hR hl => W.widen hc hs (W.vret C.1 C.2.1 (C.rett.trans hr) (fun t ht _ => QcG.mk hP hD hS hR hp ht) (fun q h => hS.2.2 q h) hdg C.locks)
theorem KX (kk : Wk p l e R s m args below meth c (MQ below (QcG g Post) args s mcO msO (ge (gB g))) g nL cells slots pc lv st S) : Wk p l e R s m args below meth c (vx_MQ below (QcG g Post) (XcG g Thr) args s mcO msO (ge (gB g))) g nL cells slots pc lv st S := fun H locs ls hP hD hS hR hl => vx_ret (kk H locs ls hP hD hS hR hl)
theorem recvK {H : Heap} (C : Cx p l s m args meth c cc nL own ret g) (hP : va_P (gD g) vwCl (pol (gC g) S) H) (ha : At0 S b ci) (hci : ci < 20) {q : vw_C} (hq : vwCl[ci]? = some q) (hn : q.1 = Cn) : ∃ cell : Cell, H[b]? = some cell ∧ cell.vm.isStatics = false ∧ s.vm.findClass Cn = some cell.cls := by
  obtain ⟨q0, h0⟩ := pol_get (cy := gC g) ha.1
  rw [cel_obj ha.2 hci] at h0
  rw [← hn]
  exact va_recv C.tabs hP hq h0
theorem KCallV (C : Cx p l s m args meth c cc nL own ret g) (hM : MetS l g y cc' nL' ret' d mc ms (.ref b :: As) S Post) (ml : Cond.methodLink own index y ∈ UW) (im : Cond.instanceMethod y ∈ UW) (se : Cond.selects Cn y y ∈ UW) (ini : Cond.initialized Cn ∈ UW) (co : Cond.code y cc' nL' ret' ∈ UW) (hd : y.cls = Cn ∧ y.cls ≠ "java/lang/invoke/MethodHandle" ∧ y.cls ≠ "java/lang/invoke/VarHandle" ∧ (parseMethodDescriptor y.desc).map (fun d => d.parameters.length) = some As.length) (ha : At0 S b ci) (hci : ci < 20) {q : vw_C} (hq : vwCl[ci]? = some q) (hn : q.1 = Cn) (hR : d + 1 ≤ R.frames ∧ 8 + (nL' + 11) + 64 * d ≤ R.locals) (hf : cells + mc ≤ R.cells ∧ slots + ms ≤ R.slots) (hw : (st.map fun v => v.category).sum ≤ 8) (hdg : decode cc pc = .ok (.invokevirtual index, 3)) (hst : st0 = As.reverse ++ .ref b :: st) (kk : ∀ (v : Option Value) (u : Sto), Post v u → Wk p l e R s m args below meth c Q g nL (cells + mc) (slots + ms) (pc + 3) lv (v.toList ++ st) u) : Wk p l e R s m args below meth c Q g nL cells slots pc lv st0 S := fun H locs ls hP hD hS hR0 hl => by
  have run := va_runV (g := F0 m pc ls st0) (e := e) (below := below) (meth := meth) (rest := st) (H := H) (locs := locs) (cells := cells) (slots := slots) ⟨C.1, C.2.1, C.2.2.1, C.home, C.words⟩ hM (cwV As.length C.words (goodUW (by
    intro w h
    simp only [wsV, List.cons_append, List.nil_append, List.mem_cons] at h
    rcases h with rfl | rfl | rfl | rfl | rfl | h
    · exact ml
    · exact im
    · exact se
    · exact ini
    · exact co
    · exact h)) rfl rfl rfl hd hR) ⟨PcG.blind, recvK C hP ha hci hq hn, fun U hU hW => C.pcg hP hD hS hR0 _ hU hW⟩ rfl rfl hl.1 hst (lv_room hw) hdg hf
  intro T hT X
  obtain ⟨v, st₀, t, T', L, h0, X', hL, e1, e2, ⟨⟨v2, u, hv, hp, hP1, hD1, hR1⟩, hF⟩, stp⟩ := run T hT X
  cases hv
  have hS1 : va_S (ge (gB g)) s.heap T'.heap (locs ++ L) := by
    rw [← h0] at hS
    refine ⟨Nat.le_trans hS.1 (by rw [e1]; exact hF.1), fun q h1 h2 => ?_, fun q hq => ?_⟩
    · rw [e1, hF.2 q (Nat.lt_of_lt_of_le h1 hS.1) h2]
      exact hS.2.1 q h1 h2
    · rcases List.mem_append.mp hq with h | h
      · exact hS.2.2 q h
      · exact hL q h
  rw [← e1] at hP1
  obtain ⟨t2, a1, b1⟩ := kk v u hp T'.heap (locs ++ L) ls hP1 hD1 hS1 hR1 hl T' rfl X'
  exact ⟨t2, stp t2 a1, b1⟩
theorem KCallS (C : Cx p l s m args meth c cc nL own ret g) (hM : MetS l g y cc' nL' ret' d mc ms As S Post) (ml : Cond.methodLink own index y ∈ UW) (stt : Cond.static y ∈ UW) (ini : Cond.initialized own ∈ UW) (co : Cond.code y cc' nL' ret' ∈ UW) (hd : y.cls = own ∧ y.cls ≠ "java/lang/invoke/MethodHandle" ∧ y.cls ≠ "java/lang/invoke/VarHandle" ∧ (parseMethodDescriptor y.desc).map (fun d => d.parameters.length) = some As.length) (hR : d + 1 ≤ R.frames ∧ 8 + (nL' + 11) + 64 * d ≤ R.locals) (hf : cells + mc ≤ R.cells ∧ slots + ms ≤ R.slots) (hw : (st.map fun v => v.category).sum ≤ 8) (hdg : decode cc pc = .ok (.invokestatic index, 3)) (hst : st0 = As.reverse ++ st) (kk : ∀ (v : Option Value) (u : Sto), Post v u → Wk p l e R s m args below meth c Q g nL (cells + mc) (slots + ms) (pc + 3) lv (v.toList ++ st) u) : Wk p l e R s m args below meth c Q g nL cells slots pc lv st0 S := fun H locs ls hP hD hS hR0 hl => by
  have run := va_runS (g := F0 m pc ls st0) (e := e) (below := below) (meth := meth) (rest := st) (H := H) (locs := locs) (cells := cells) (slots := slots) ⟨C.1, C.2.1, C.2.2.1, C.home, C.words⟩ hM (cwS As.length C.words (goodUW (by
    intro w h
    simp only [wsS, List.cons_append, List.nil_append, List.mem_cons] at h
    rcases h with rfl | rfl | rfl | rfl | h
    · exact ml
    · exact stt
    · exact ini
    · exact co
    · exact h)) rfl rfl rfl hd hR) ⟨PcG.blind, fun U hU hW => C.pcg hP hD hS hR0 _ hU hW⟩ rfl rfl hl.1 hst (lv_room hw) hdg hf
  intro T hT X
  obtain ⟨v, st₀, t, T', L, h0, X', hL, e1, e2, ⟨⟨v2, u, hv, hp, hP1, hD1, hR1⟩, hF⟩, stp⟩ := run T hT X
  cases hv
  have hS1 : va_S (ge (gB g)) s.heap T'.heap (locs ++ L) := by
    rw [← h0] at hS
    refine ⟨Nat.le_trans hS.1 (by rw [e1]; exact hF.1), fun q h1 h2 => ?_, fun q hq => ?_⟩
    · rw [e1, hF.2 q (Nat.lt_of_lt_of_le h1 hS.1) h2]
      exact hS.2.1 q h1 h2
    · rcases List.mem_append.mp hq with h | h
      · exact hS.2.2 q h
      · exact hL q h
  rw [← e1] at hP1
  obtain ⟨t2, a1, b1⟩ := kk v u hp T'.heap (locs ++ L) ls hP1 hD1 hS1 hR1 hl T' rfl X'
  exact ⟨t2, stp t2 a1, b1⟩
theorem KCallS2 (C : Cx p l s m args meth c cc nL own ret g) (hM : MetS l g y cc' nL' ret' d mc ms As S Post) (ml : Cond.methodLink own index y ∈ UW) (stt : Cond.static y ∈ UW) (ini : Cond.initialized y.cls ∈ UW) (co : Cond.code y cc' nL' ret' ∈ UW) (hd : y.cls ≠ "java/lang/invoke/MethodHandle" ∧ y.cls ≠ "java/lang/invoke/VarHandle" ∧ (parseMethodDescriptor y.desc).map (fun d => d.parameters.length) = some As.length) (hR : d + 1 ≤ R.frames ∧ 8 + (nL' + 11) + 64 * d ≤ R.locals) (hf : cells + mc ≤ R.cells ∧ slots + ms ≤ R.slots) (hw : (st.map fun v => v.category).sum ≤ 8) (hdg : decode cc pc = .ok (.invokestatic index, 3)) (hst : st0 = As.reverse ++ st) (kk : ∀ (v : Option Value) (u : Sto), Post v u → Wk p l e R s m args below meth c Q g nL (cells + mc) (slots + ms) (pc + 3) lv (v.toList ++ st) u) : Wk p l e R s m args below meth c Q g nL cells slots pc lv st0 S := fun H locs ls hP hD hS hR0 hl => by
  have run := va_runS (g := F0 m pc ls st0) (e := e) (below := below) (meth := meth) (rest := st) (H := H) (locs := locs) (cells := cells) (slots := slots) ⟨C.1, C.2.1, C.2.2.1, C.home, C.words⟩ hM ⟨callB_of As.length C.words (goodUW (fun w h => code_head h co)) rfl rfl rfl (C.words _ ini) (C.words _ ml) hd hR, C.words _ stt⟩ ⟨PcG.blind, fun U hU hW => C.pcg hP hD hS hR0 _ hU hW⟩ rfl rfl hl.1 hst (lv_room hw) hdg hf
  intro T hT X
  obtain ⟨v, st₀, t, T', L, h0, X', hL, e1, e2, ⟨⟨v2, u, hv, hp, hP1, hD1, hR1⟩, hF⟩, stp⟩ := run T hT X
  cases hv
  have hS1 : va_S (ge (gB g)) s.heap T'.heap (locs ++ L) := by
    rw [← h0] at hS
    refine ⟨Nat.le_trans hS.1 (by rw [e1]; exact hF.1), fun q h1 h2 => ?_, fun q hq => ?_⟩
    · rw [e1, hF.2 q (Nat.lt_of_lt_of_le h1 hS.1) h2]
      exact hS.2.1 q h1 h2
    · rcases List.mem_append.mp hq with h | h
      · exact hS.2.2 q h
      · exact hL q h
  rw [← e1] at hP1
  obtain ⟨t2, a1, b1⟩ := kk v u hp T'.heap (locs ++ L) ls hP1 hD1 hS1 hR1 hl T' rfl X'
  exact ⟨t2, stp t2 a1, b1⟩
theorem KCallSN (C : Cx p l s m args meth c cc nL own ret g) (hM : MetS l g y cc' nL' ret' d mc ms As S Post) {host : String} (ml : Cond.methodLinkNest own index y host ∈ UN) (stt : Cond.static y ∈ UW) (ini : Cond.initialized y.cls ∈ UW) (co : Cond.code y cc' nL' ret' ∈ UW) (hd : y.cls ≠ "java/lang/invoke/MethodHandle" ∧ y.cls ≠ "java/lang/invoke/VarHandle" ∧ (parseMethodDescriptor y.desc).map (fun d => d.parameters.length) = some As.length) (hR : d + 1 ≤ R.frames ∧ 8 + (nL' + 11) + 64 * d ≤ R.locals) (hf : cells + mc ≤ R.cells ∧ slots + ms ≤ R.slots) (hw : (st.map fun v => v.category).sum ≤ 8) (hdg : decode cc pc = .ok (.invokestatic index, 3)) (hst : st0 = As.reverse ++ st) (kk : ∀ (v : Option Value) (u : Sto), Post v u → Wk p l e R s m args below meth c Q g nL (cells + mc) (slots + ms) (pc + 3) lv (v.toList ++ st) u) : Wk p l e R s m args below meth c Q g nL cells slots pc lv st0 S := fun H locs ls hP hD hS hR0 hl => by
  have run := va_runSN (g := F0 m pc ls st0) (e := e) (below := below) (meth := meth) (rest := st) (H := H) (locs := locs) (cells := cells) (slots := slots) ⟨C.1, C.2.1, C.2.2.1, C.home, C.words⟩ hM ⟨va_cnB As.length C.words (goodUW (fun w h => code_head h co)) rfl rfl rfl (C.nws.1 _ ml) (C.words _ ini) hd hR, C.words _ stt, trivial⟩ ⟨PcG.blind, fun U hU hW => C.pcg hP hD hS hR0 _ hU hW⟩ rfl rfl hl.1 hst (lv_room hw) hdg hf
  intro T hT X
  obtain ⟨v, st₀, t, T', L, h0, X', hL, e1, e2, ⟨⟨v2, u, hv, hp, hP1, hD1, hR1⟩, hF⟩, stp⟩ := run T hT X
  cases hv
  have hS1 : va_S (ge (gB g)) s.heap T'.heap (locs ++ L) := by
    rw [← h0] at hS
    refine ⟨Nat.le_trans hS.1 (by rw [e1]; exact hF.1), fun q h1 h2 => ?_, fun q hq => ?_⟩
    · rw [e1, hF.2 q (Nat.lt_of_lt_of_le h1 hS.1) h2]
      exact hS.2.1 q h1 h2
    · rcases List.mem_append.mp hq with h | h
      · exact hS.2.2 q h
      · exact hL q h
  rw [← e1] at hP1
  obtain ⟨t2, a1, b1⟩ := kk v u hp T'.heap (locs ++ L) ls hP1 hD1 hS1 hR1 hl T' rfl X'
  exact ⟨t2, stp t2 a1, b1⟩
theorem KCallI (C : Cx p l s m args meth c cc nL own ret g) (hM : MetS l g y cc' nL' none d mc ms (.ref b :: As) S Post) (ml : Cond.methodLink own index y ∈ UW) (im : Cond.instanceMethod y ∈ UW) (ini : Cond.initialized y.cls ∈ UW) (co : Cond.code y cc' nL' none ∈ UW) (hy1 : y.name = "<init>") (hd : y.cls ≠ "java/lang/invoke/MethodHandle" ∧ y.cls ≠ "java/lang/invoke/VarHandle" ∧ (parseMethodDescriptor y.desc).map (fun d => d.parameters.length) = some As.length) (hR : d + 1 ≤ R.frames ∧ 8 + (nL' + 11) + 64 * d ≤ R.locals) (hf : cells + mc ≤ R.cells ∧ slots + ms ≤ R.slots) (hw : (st.map fun v => v.category).sum ≤ 8) (hdg : decode cc pc = .ok (.invokespecial index, 3)) (hst : st0 = As.reverse ++ .ref b :: st) (kk : ∀ (v : Option Value) (u : Sto), Post v u → Wk p l e R s m args below meth c Q g nL (cells + mc) (slots + ms) (pc + 3) lv (v.toList ++ st) u) : Wk p l e R s m args below meth c Q g nL cells slots pc lv st0 S := fun H locs ls hP hD hS hR0 hl => by
  have run := va_runI (g := F0 m pc ls st0) (e := e) (below := below) (meth := meth) (rest := st) (H := H) (locs := locs) (cells := cells) (slots := slots) (As := As) (b := b) ⟨C.1, C.2.1, C.2.2.1, C.home, C.words⟩ hM ⟨callB_of As.length C.words (goodUW (fun w h => code_head h co)) rfl rfl rfl (C.words _ ini) (C.words _ ml) hd hR, hy1, C.words _ im⟩ ⟨PcG.blind, fun U hU hW => C.pcg hP hD hS hR0 _ hU hW⟩ rfl rfl hl.1 hst (lv_room hw) hdg hf
  intro T hT X
  obtain ⟨v, st₀, t, T', L, h0, X', hL, e1, e2, ⟨⟨v2, u, hv, hp, hP1, hD1, hR1⟩, hF⟩, stp⟩ := run T hT X
  cases hv
  have hS1 : va_S (ge (gB g)) s.heap T'.heap (locs ++ L) := by
    rw [← h0] at hS
    refine ⟨Nat.le_trans hS.1 (by rw [e1]; exact hF.1), fun q h1 h2 => ?_, fun q hq => ?_⟩
    · rw [e1, hF.2 q (Nat.lt_of_lt_of_le h1 hS.1) h2]
      exact hS.2.1 q h1 h2
    · rcases List.mem_append.mp hq with h | h
      · exact hS.2.2 q h
      · exact hL q h
  rw [← e1] at hP1
  obtain ⟨t2, a1, b1⟩ := kk v u hp T'.heap (locs ++ L) ls hP1 hD1 hS1 hR1 hl T' rfl X'
  exact ⟨t2, stp t2 a1, b1⟩
theorem KCallVX (C : Cx p l s m args meth c cc nL own ret g) (hM : MetX l g y cc' nL' ret' d mc ms (.ref b :: As) S Post Thr) (hne : ∀ x ∈ c.exceptionTable.toList, False) (ht : ∀ E u, Thr E u → ThrO E u) (hc : cells + mc ≤ mcO ∧ slots + ms ≤ msO) (ml : Cond.methodLink own index y ∈ UW) (im : Cond.instanceMethod y ∈ UW) (se : Cond.selects Cn y y ∈ UW) (ini : Cond.initialized Cn ∈ UW) (co : Cond.code y cc' nL' ret' ∈ UW) (hd : y.cls = Cn ∧ y.cls ≠ "java/lang/invoke/MethodHandle" ∧ y.cls ≠ "java/lang/invoke/VarHandle" ∧ (parseMethodDescriptor y.desc).map (fun d => d.parameters.length) = some As.length) (ha : At0 S b ci) (hci : ci < 20) {q : vw_C} (hq : vwCl[ci]? = some q) (hn : q.1 = Cn) (hR : d + 1 ≤ R.frames ∧ 8 + (nL' + 11) + 64 * d ≤ R.locals) (hf : cells + mc ≤ R.cells ∧ slots + ms ≤ R.slots) (hw : (st.map fun v => v.category).sum ≤ 8) (hdg : decode cc pc = .ok (.invokevirtual index, 3)) (hst : st0 = As.reverse ++ .ref b :: st) (kk : ∀ (v : Option Value) (u : Sto), Post v u → Wk p l e R s m args below meth c (vx_MQ below (QcG g PostO) (XcG g ThrO) args s mcO msO (ge (gB g))) g nL (cells + mc) (slots + ms) (pc + 3) lv (v.toList ++ st) u) : Wk p l e R s m args below meth c (vx_MQ below (QcG g PostO) (XcG g ThrO) args s mcO msO (ge (gB g))) g nL cells slots pc lv st0 S := fun H locs ls hP hD hS hR0 hl => by
  have run := vx_runV (g := F0 m pc ls st0) (e := e) (below := below) (meth := meth) (rest := st) (H := H) (locs := locs) (cells := cells) (slots := slots) ⟨C.1, C.2.1, C.2.2.1, C.home, C.words⟩ hM (cwV As.length C.words (goodUW (by
    intro w h
    simp only [wsV, List.cons_append, List.nil_append, List.mem_cons] at h
    rcases h with rfl | rfl | rfl | rfl | rfl | h
    · exact ml
    · exact im
    · exact se
    · exact ini
    · exact co
    · exact h)) rfl rfl rfl hd hR) ⟨PcG.blind, recvK C hP ha hci hq hn, fun U hU hW => C.pcg hP hD hS hR0 _ hU hW⟩ rfl rfl hl.1 hst (lv_room hw) hdg hf
  intro T hT X
  rcases run T hT X with ⟨v, st₀, t, T', L, h0, X', hL, e1, e2, ⟨⟨v2, u, hv, hp, hP1, hD1, hR1⟩, hF⟩, stp⟩ | ⟨q, st₀, t, T', L, E, ce, h0, X', hL, e1, e2, ⟨⟨u, hp, hP1, hD1, hR1⟩, hF⟩, hce, hcv, hcl, stp⟩
  · cases hv
    have hS1 : va_S (ge (gB g)) s.heap T'.heap (locs ++ L) := by
      rw [← h0] at hS
      refine ⟨Nat.le_trans hS.1 (by rw [e1]; exact hF.1), fun q h1 h2 => ?_, fun q hq => ?_⟩
      · rw [e1, hF.2 q (Nat.lt_of_lt_of_le h1 hS.1) h2]
        exact hS.2.1 q h1 h2
      · rcases List.mem_append.mp hq with h | h
        · exact hS.2.2 q h
        · exact hL q h
    rw [← e1] at hP1
    obtain ⟨t2, a1, b1⟩ := kk v u hp T'.heap (locs ++ L) ls hP1 hD1 hS1 hR1 hl T' rfl X'
    exact ⟨t2, stp t2 a1, b1⟩
  · have hS1 : va_S (ge (gB g)) s.heap T'.heap (locs ++ L) := by
      rw [← h0] at hS
      refine ⟨Nat.le_trans hS.1 (by rw [e1]; exact hF.1), fun q h1 h2 => ?_, fun q hq => ?_⟩
      · rw [e1, hF.2 q (Nat.lt_of_lt_of_le h1 hS.1) h2]
        exact hS.2.1 q h1 h2
      · rcases List.mem_append.mp hq with h | h
        · exact hS.2.2 q h
        · exact hL q h
    have hcell : T'.heap[q]? = some ce := by rw [e1]; exact hce
    obtain ⟨t2, a1, b1⟩ := vx_out (pc := pc) (ls := ls) (rest := st) (Qc := QcG g PostO) (XC := XcG g ThrO) (free := ge (gB g)) (mc := mcO) (ms := msO) (fun x hx => (hne x hx).elim) C.locks hcell hcv hcl
      (fun t9 ht9 _ => ⟨⟨u, ht E u hp, by rw [ht9, e1]; exact hP1, hD1, hR1⟩, hS1.F ht9⟩) (fun z hz => hS1.2.2 z hz) hc.1 hc.2 T' rfl X'
    exact ⟨t2, stp.trans a1, b1⟩
theorem KCallSX (C : Cx p l s m args meth c cc nL own ret g) (hM : MetX l g y cc' nL' ret' d mc ms As S Post Thr) (hne : ∀ x ∈ c.exceptionTable.toList, False) (ht : ∀ E u, Thr E u → ThrO E u) (hc : cells + mc ≤ mcO ∧ slots + ms ≤ msO) (ml : Cond.methodLink own index y ∈ UW) (stt : Cond.static y ∈ UW) (ini : Cond.initialized own ∈ UW) (co : Cond.code y cc' nL' ret' ∈ UW) (hd : y.cls = own ∧ y.cls ≠ "java/lang/invoke/MethodHandle" ∧ y.cls ≠ "java/lang/invoke/VarHandle" ∧ (parseMethodDescriptor y.desc).map (fun d => d.parameters.length) = some As.length) (hR : d + 1 ≤ R.frames ∧ 8 + (nL' + 11) + 64 * d ≤ R.locals) (hf : cells + mc ≤ R.cells ∧ slots + ms ≤ R.slots) (hw : (st.map fun v => v.category).sum ≤ 8) (hdg : decode cc pc = .ok (.invokestatic index, 3)) (hst : st0 = As.reverse ++ st) (kk : ∀ (v : Option Value) (u : Sto), Post v u → Wk p l e R s m args below meth c (vx_MQ below (QcG g PostO) (XcG g ThrO) args s mcO msO (ge (gB g))) g nL (cells + mc) (slots + ms) (pc + 3) lv (v.toList ++ st) u) : Wk p l e R s m args below meth c (vx_MQ below (QcG g PostO) (XcG g ThrO) args s mcO msO (ge (gB g))) g nL cells slots pc lv st0 S := fun H locs ls hP hD hS hR0 hl => by
  have run := vx_runS (g := F0 m pc ls st0) (e := e) (below := below) (meth := meth) (rest := st) (H := H) (locs := locs) (cells := cells) (slots := slots) ⟨C.1, C.2.1, C.2.2.1, C.home, C.words⟩ hM (cwS As.length C.words (goodUW (by
    intro w h
    simp only [wsS, List.cons_append, List.nil_append, List.mem_cons] at h
    rcases h with rfl | rfl | rfl | rfl | h
    · exact ml
    · exact stt
    · exact ini
    · exact co
    · exact h)) rfl rfl rfl hd hR) ⟨PcG.blind, fun U hU hW => C.pcg hP hD hS hR0 _ hU hW⟩ rfl rfl hl.1 hst (lv_room hw) hdg hf
  intro T hT X
  rcases run T hT X with ⟨v, st₀, t, T', L, h0, X', hL, e1, e2, ⟨⟨v2, u, hv, hp, hP1, hD1, hR1⟩, hF⟩, stp⟩ | ⟨q, st₀, t, T', L, E, ce, h0, X', hL, e1, e2, ⟨⟨u, hp, hP1, hD1, hR1⟩, hF⟩, hce, hcv, hcl, stp⟩
  · cases hv
    have hS1 : va_S (ge (gB g)) s.heap T'.heap (locs ++ L) := by
      rw [← h0] at hS
      refine ⟨Nat.le_trans hS.1 (by rw [e1]; exact hF.1), fun q h1 h2 => ?_, fun q hq => ?_⟩
      · rw [e1, hF.2 q (Nat.lt_of_lt_of_le h1 hS.1) h2]
        exact hS.2.1 q h1 h2
      · rcases List.mem_append.mp hq with h | h
        · exact hS.2.2 q h
        · exact hL q h
    rw [← e1] at hP1
    obtain ⟨t2, a1, b1⟩ := kk v u hp T'.heap (locs ++ L) ls hP1 hD1 hS1 hR1 hl T' rfl X'
    exact ⟨t2, stp t2 a1, b1⟩
  · have hS1 : va_S (ge (gB g)) s.heap T'.heap (locs ++ L) := by
      rw [← h0] at hS
      refine ⟨Nat.le_trans hS.1 (by rw [e1]; exact hF.1), fun q h1 h2 => ?_, fun q hq => ?_⟩
      · rw [e1, hF.2 q (Nat.lt_of_lt_of_le h1 hS.1) h2]
        exact hS.2.1 q h1 h2
      · rcases List.mem_append.mp hq with h | h
        · exact hS.2.2 q h
        · exact hL q h
    have hcell : T'.heap[q]? = some ce := by rw [e1]; exact hce
    obtain ⟨t2, a1, b1⟩ := vx_out (pc := pc) (ls := ls) (rest := st) (Qc := QcG g PostO) (XC := XcG g ThrO) (free := ge (gB g)) (mc := mcO) (ms := msO) (fun x hx => (hne x hx).elim) C.locks hcell hcv hcl
      (fun t9 ht9 _ => ⟨⟨u, ht E u hp, by rw [ht9, e1]; exact hP1, hD1, hR1⟩, hS1.F ht9⟩) (fun z hz => hS1.2.2 z hz) hc.1 hc.2 T' rfl X'
    exact ⟨t2, stp.trans a1, b1⟩
theorem KThrow (C : Cx p l s m args meth c cc nL own ret g) {cls text : String} {ik is ic : Nat} (hnt : l.stackTraces = false) (hne : ∀ x ∈ c.exceptionTable.toList, False) (hcls : Bundle.fit cls = true) (hk : Cond.classLink own ik cls ∈ UW) (hini : Cond.initialized cls ∈ UW) (hstr : ∃ sa, vk_R own is text sa s) (hat : ∀ w ∈ vx_atS own ic cls ["java/lang/RuntimeException", "java/lang/Exception"], w.before args s = true) (hgood : ∀ w ∈ Cond.classLink own ik cls :: Cond.initialized cls :: vx_atS own ic cls ["java/lang/RuntimeException", "java/lang/Exception"], vx_ot w = true)
    (hRf : 5 < R.frames) (hRl : (st.map fun v => v.category).sum + 82 ≤ R.locals) (hRc : cells + 1 ≤ R.cells ∧ slots + 6 ≤ R.slots) (hx : ThrO cls S) (hc : cells + 1 ≤ mcO ∧ slots + 6 ≤ msO)
    (d0 : decode cc pc = .ok (.new ik, 3)) (d3 : decode cc (pc + 3) = .ok (.dup, 1)) (d4 : decode cc (pc + 4) = .ok (.ldc is, 2)) (d6 : decode cc (pc + 6) = .ok (.invokespecial ic, 3)) (d9 : decode cc (pc + 9) = .ok (.athrow, 1)) : Wk p l e R s m args below meth c (vx_MQ below (QcG g PostO) (XcG g ThrO) args s mcO msO (ge (gB g))) g nL cells slots pc lv st S := fun H locs ls hP hD hS hR hl => by
  obtain ⟨sa, hstr⟩ := hstr
  refine vx_throwS (A := ge (gB g)) C.1 C.2.1 hnt C.home hcls (fun n h => by
    rcases List.mem_cons.mp h with h1 | h1
    · rw [h1]; decide +kernel
    · rw [List.mem_singleton.mp h1]; decide +kernel) (C.words _ hk) (C.words _ hini) hstr hat hgood C.sta.1 C.sta.2.1 hS (hl.1.trans C.2.2.1.symm) d0 d3 d4 d6 d9 (fun x h => (hne x h).elim) hRf (by show _ + (13 * (2 + 1) + 43) ≤ _; omega) hRc.1 hRc.2 C.locks ?_ (fun z h => hS.2.2 z h) hc.1 hc.2
  intro t hal hsz hkeep
  refine ⟨⟨S, hx, ?_, hD, hR⟩, Nat.le_trans hS.1 hsz, fun q h1 h2 => ?_⟩
  · exact hP.kept (fun k q hq => hkeep q.1 ((hP k q hq).lt))
  · rw [hkeep q (Nat.lt_of_lt_of_le h1 hS.1)]
    exact hS.2.1 q h1 h2
theorem KMmax (C : Cx p l s m args meth c cc nL own ret g) {x y z : Int} (hx : inR x) (hy : inR y) (hz : (if x < y then y else x) = z) (ml : Cond.methodLink own index Lib.Math.max.name ∈ UW) (stt : Cond.static Lib.Math.max.name ∈ UW) (ini : Cond.initialized "java/lang/Math" ∈ UW) (co : Cond.code Lib.Math.max.name Lib.Math.max.code 2 (some .int) ∈ UW) (hR : 1 ≤ R.frames ∧ (st.map fun v => v.category).sum + 13 ≤ R.locals) (hf : cells ≤ R.cells ∧ slots ≤ R.slots) (hdg : decode cc pc = .ok (.invokestatic index, 3)) (kk : Wk p l e R s m args below meth c Q g nL cells slots (pc + 3) lv (.int (iI z) :: st) S) : Wk p l e R s m args below meth c Q g nL cells slots pc lv (.int (iI y) :: .int (iI x) :: st) S := fun H locs ls hP hD hS hR0 hl => by
  refine va_mmax C.1 C.2.1 (C.2.2.1.trans hl.1.symm) C.home (C.words _ ml) (C.words _ stt) (C.words _ ini) (C.words _ co) hR.1 hR.2 hf.1 hf.2 hdg ?_
  have h : (if iI x < iI y then iI y else iI x) = iI z := by
    rw [← hz]
    split <;> split
    · rfl
    · next h1 h2 => exact absurd ((iI_lt hx hy).mp h1) h2
    · next h1 h2 => exact absurd ((iI_lt hx hy).mpr h2) h1
    · rfl
  rw [h]
  exact kk H locs ls hP hD hS hR0 hl
theorem KMmin (C : Cx p l s m args meth c cc nL own ret g) {x y z : Int} (hx : inR x) (hy : inR y) (hz : (if y < x then y else x) = z) (ml : Cond.methodLink own index Lib.Math.min.name ∈ UW) (stt : Cond.static Lib.Math.min.name ∈ UW) (ini : Cond.initialized "java/lang/Math" ∈ UW) (co : Cond.code Lib.Math.min.name Lib.Math.min.code 2 (some .int) ∈ UW) (hR : 1 ≤ R.frames ∧ (st.map fun v => v.category).sum + 13 ≤ R.locals) (hf : cells ≤ R.cells ∧ slots ≤ R.slots) (hdg : decode cc pc = .ok (.invokestatic index, 3)) (kk : Wk p l e R s m args below meth c Q g nL cells slots (pc + 3) lv (.int (iI z) :: st) S) : Wk p l e R s m args below meth c Q g nL cells slots pc lv (.int (iI y) :: .int (iI x) :: st) S := fun H locs ls hP hD hS hR0 hl => by
  refine va_mmin C.1 C.2.1 (C.2.2.1.trans hl.1.symm) C.home (C.words _ ml) (C.words _ stt) (C.words _ ini) (C.words _ co) hR.1 hR.2 hf.1 hf.2 hdg ?_
  have h : (if iI y < iI x then iI y else iI x) = iI z := by
    rw [← hz]
    split <;> split
    · rfl
    · next h1 h2 => exact absurd ((iI_lt hy hx).mp h1) h2
    · next h1 h2 => exact absurd ((iI_lt hy hx).mpr h2) h1
    · rfl
  rw [h]
  exact kk H locs ls hP hD hS hR0 hl
theorem KMabs (C : Cx p l s m args meth c cc nL own ret g) {x z : Int} (hx : inR x) (hz : (if 0 ≤ x then x else 0 - x) = z) (ml : Cond.methodLink own index Lib.Math.abs.name ∈ UW) (stt : Cond.static Lib.Math.abs.name ∈ UW) (ini : Cond.initialized "java/lang/Math" ∈ UW) (co : Cond.code Lib.Math.abs.name Lib.Math.abs.code 1 (some .int) ∈ UW) (hR : 1 ≤ R.frames ∧ (st.map fun v => v.category).sum + 13 ≤ R.locals) (hf : cells ≤ R.cells ∧ slots ≤ R.slots) (hdg : decode cc pc = .ok (.invokestatic index, 3)) (kk : Wk p l e R s m args below meth c Q g nL cells slots (pc + 3) lv (.int (iI z) :: st) S) : Wk p l e R s m args below meth c Q g nL cells slots pc lv (.int (iI x) :: st) S := fun H locs ls hP hD hS hR0 hl => by
  refine va_mabs C.1 C.2.1 (C.2.2.1.trans hl.1.symm) C.home (C.words _ ml) (C.words _ stt) (C.words _ ini) (C.words _ co) hR.1 hR.2 hf.1 hf.2 hdg ?_
  have h : (if 0 ≤ iI x then iI x else 0 - iI x) = iI z := by
    rw [← hz]
    split <;> split
    · rfl
    · next h1 h2 => exact absurd ((iI_le inR_0 hx).mp (iI_0 ▸ h1)) h2
    · next h1 h2 => exact absurd (iI_0 ▸ (iI_le inR_0 hx).mpr h2) h1
    · rw [iI_0, iI_sub]
  rw [h]
  exact kk H locs ls hP hD hS hR0 hl
end
end
section
/-! ===== the throws' words; rows that were wanting; where the system's cells lie ===== -/
theorem un_tab {w : Cond} (h : w ∈ UN) : w.onTables = true := by
  have h2 := un_kind h
  cases w <;> first | rfl | (simp [isNest] at h2)
theorem thr_w {args : Array Value} {s : State} (hW : ∀ w ∈ UW, w.before args s = true) (hN : Nws s) {L : List Cond} (h1 : ∀ w ∈ L.filter goodWord, w ∈ UW) (h2 : ∀ w ∈ L.filter (fun w => !goodWord w), w ∈ UN) : ∀ w ∈ L, w.before args s = true :=
  vx_hat (fun w h => hW w (h1 w h)) h2 (fun w h => va_Nw.use (un_tab h) (hN.1 w h))
theorem thr_words_RX5_66 {args : Array Value} {s : State} (hW : ∀ w ∈ UW, w.before args s = true) (hN : Nws s) : ∀ w ∈ vx_atS RX5 66 "java/lang/IndexOutOfBoundsException" ["java/lang/RuntimeException", "java/lang/Exception"], w.before args s = true := thr_w hW hN (by decide +kernel) (by decide +kernel)
theorem thr_good_RX5_66 : ∀ w ∈ Cond.classLink RX5 61 "java/lang/IndexOutOfBoundsException" :: Cond.initialized "java/lang/IndexOutOfBoundsException" :: vx_atS RX5 66 "java/lang/IndexOutOfBoundsException" ["java/lang/RuntimeException", "java/lang/Exception"], vx_ot w = true := by decide +kernel
theorem thr_words_RX5_81 {args : Array Value} {s : State} (hW : ∀ w ∈ UW, w.before args s = true) (hN : Nws s) : ∀ w ∈ vx_atS RX5 81 "java/lang/IllegalStateException" ["java/lang/RuntimeException", "java/lang/Exception"], w.before args s = true := thr_w hW hN (by decide +kernel) (by decide +kernel)
theorem thr_good_RX5_81 : ∀ w ∈ Cond.classLink RX5 77 "java/lang/IllegalStateException" :: Cond.initialized "java/lang/IllegalStateException" :: vx_atS RX5 81 "java/lang/IllegalStateException" ["java/lang/RuntimeException", "java/lang/Exception"], vx_ot w = true := by decide +kernel
theorem thr_words_RX5_127 {args : Array Value} {s : State} (hW : ∀ w ∈ UW, w.before args s = true) (hN : Nws s) : ∀ w ∈ vx_atS RX5 127 "java/lang/IllegalArgumentException" ["java/lang/RuntimeException", "java/lang/Exception"], w.before args s = true := thr_w hW hN (by decide +kernel) (by decide +kernel)
theorem thr_good_RX5_127 : ∀ w ∈ Cond.classLink RX5 123 "java/lang/IllegalArgumentException" :: Cond.initialized "java/lang/IllegalArgumentException" :: vx_atS RX5 127 "java/lang/IllegalArgumentException" ["java/lang/RuntimeException", "java/lang/Exception"], vx_ot w = true := by decide +kernel
theorem tdiv_pos {x y : Int} (h : 0 ≤ x) : x.tdiv y = x / y := Int.tdiv_eq_ediv_of_nonneg h
theorem tmod_pos {x y : Int} (h : 0 ≤ x) : x.tmod y = x % y := Int.tmod_eq_emod_of_nonneg h
theorem Rg.b {S : Sto} (h : Rg S) (a : Nat) (k : Int) {v : Int} (hv : sI S a k = v) : -2147483648 ≤ v ∧ v < 2147483648 := by rw [← hv]; exact h a k
/-- one row of the whole numbers -/
def row1 (f : Nat → Int → Int) (a : Nat) (F : Int → Int) : Nat → Int → Int := fun b j => if b = a then F j else f b j
theorem row1_same (f : Nat → Int → Int) (a : Nat) (F : Int → Int) (j : Int) : row1 f a F a j = F j := by simp [row1]
theorem row1_ne (f : Nat → Int → Int) {a b : Nat} (F : Int → Int) (j : Int) (h : b ≠ a) : row1 f a F b j = f b j := by simp [row1, h]
theorem row1_self (f : Nat → Int → Int) (a : Nat) : row1 f a (f a) = f := by
  funext b j
  unfold row1
  split
  · next h => rw [h]
  · rfl
def upd1 (F : Int → Int) (k v : Int) : Int → Int := fun j => if j = k then v else F j
theorem up2_row1 (f : Nat → Int → Int) (a : Nat) (F : Int → Int) (k v : Int) : up2 (row1 f a F) a k v = row1 f a (upd1 F k v) := by
  funext b j
  unfold up2 row1 upd1
  by_cases hb : b = a
  · by_cases hj : j = k
    · simp [hb, hj]
    · simp [hb, hj]
  · simp [hb]
theorem up2_to_row1 (f : Nat → Int → Int) (a : Nat) (k v : Int) : up2 f a k v = row1 f a (upd1 (f a) k v) := by
  funext b j
  unfold up2 row1 upd1
  by_cases hb : b = a
  · subst hb
    by_cases hj : j = k
    · simp [hj]
    · simp [hj]
  · simp [hb]
theorem row1_row1 (f : Nat → Int → Int) (a : Nat) (F G : Int → Int) : row1 (row1 f a F) a G = row1 f a G := by
  funext b j
  unfold row1
  by_cases hb : b = a <;> simp [hb]
theorem wI_wI (S : Sto) (f h : Nat → Int → Int) : wI (wI S f) h = wI S h := rfl
def tix : List Nat := [0, 1, 2, 3, 4, 5, 6, 7, 8, 9, 10, 11, 12, 13, 20, 21, 22, 23, 24, 25, 26, 27, 28, 29, 30, 31, 32, 33, 34, 35, 36, 37, 38, 39, 40, 41, 42, 43, 44, 45, 46, 47, 48, 49, 50, 51, 52, 53, 54, 55, 56, 57, 58, 59, 60, 61, 62, 63, 64, 65, 66, 67, 68, 69, 80, 81, 82, 83, 84, 85, 86, 87, 88, 89, 90, 91, 92, 93]
def tkd : List (Nat × Nat) := [(0, 6), (1, 4), (2, 3), (3, 5), (4, 0), (5, 0), (6, 20), (7, 20), (8, 20), (9, 20), (10, 20), (11, 22), (12, 20), (13, 22), (20, 20), (21, 20), (22, 20), (23, 20), (24, 20), (25, 20), (26, 20), (27, 20), (28, 20), (29, 20), (30, 20), (31, 20), (32, 20), (33, 20), (34, 20), (35, 20), (36, 20), (37, 20), (38, 20), (39, 20), (40, 20), (41, 20), (42, 20), (43, 20), (44, 20), (45, 20), (46, 20), (47, 20), (48, 20), (49, 20), (50, 20), (51, 20), (52, 20), (53, 20), (54, 20), (55, 20), (56, 20), (57, 20), (58, 20), (59, 20), (60, 20), (61, 20), (62, 20), (63, 20), (64, 20), (65, 20), (66, 20), (67, 20), (68, 20), (69, 20), (80, 7), (81, 20), (82, 20), (83, 20), (84, 20), (85, 20), (86, 20), (87, 20), (88, 20), (89, 20), (90, 20), (91, 20), (92, 20), (93, 23)]
def tln : List (Nat × Nat) := [(6, 20), (7, 20), (8, 20), (9, 20), (10, 9), (11, 10), (12, 4608), (13, 40), (20, 10), (21, 10), (22, 10), (23, 10), (24, 10), (25, 10), (26, 10), (27, 10), (28, 10), (29, 10), (30, 40), (31, 40), (32, 40), (33, 40), (34, 40), (35, 40), (36, 40), (37, 40), (38, 40), (39, 40), (40, 40), (41, 40), (42, 40), (43, 40), (44, 40), (45, 40), (46, 40), (47, 40), (48, 40), (49, 40), (50, 40), (51, 40), (52, 40), (53, 40), (54, 40), (55, 40), (56, 40), (57, 40), (58, 40), (59, 40), (60, 40), (61, 40), (62, 40), (63, 40), (64, 40), (65, 40), (66, 40), (67, 40), (68, 40), (69, 40), (81, 20), (82, 40), (83, 40), (84, 40), (85, 40), (86, 200), (87, 200), (88, 9), (89, 5120), (90, 9), (91, 20), (92, 20), (93, 1)]
def tptr : List (Nat × Int × Nat) := [(0, 0, 1), (0, 1, 2), (0, 2, 3), (0, 3, 4), (1, 3, 6), (1, 4, 7), (1, 5, 8), (1, 6, 9), (2, 0, 1), (2, 1, 10), (2, 3, 11), (2, 4, 12), (3, 0, 2), (3, 1, 5), (3, 2, 13), (80, 5, 81), (80, 7, 82), (80, 8, 83), (80, 9, 84), (80, 10, 85), (80, 11, 86), (80, 12, 87), (80, 17, 88), (80, 18, 89), (80, 19, 90), (80, 20, 91), (80, 21, 92)]
/-- where the system's and the reference's cells lie: q i is the address of cell i -/
def Top (S : Sto) (q : Nat → Nat) : Prop := (∀ t ∈ tkd, At0 S (q t.1) t.2) ∧ (∀ t ∈ tln, sN S (q t.1) = t.2) ∧ (∀ i ∈ tix, ∀ j ∈ tix, q i = q j → i = j) ∧ (∀ t ∈ tptr, sP S (q t.1) t.2.1 = some (q t.2.2)) ∧ (∀ i : Nat, i < 10 → sP S (q 11) (i : Int) = some (q (20 + i))) ∧ (∀ i : Nat, i < 40 → sP S (q 13) (i : Int) = some (q (30 + i)))
theorem Top.at0 {S : Sto} {q : Nat → Nat} (h : Top S q) (i k : Nat) (hi : (i, k) ∈ tkd := by decide) : At0 S (q i) k := h.1 (i, k) hi
theorem Top.ln0 {S : Sto} {q : Nat → Nat} (h : Top S q) (i k : Nat) (hi : (i, k) ∈ tln := by decide) : sN S (q i) = k := h.2.1 (i, k) hi
theorem Top.ne {S : Sto} {q : Nat → Nat} (h : Top S q) (i j : Nat) (hi : i ∈ tix := by decide) (hj : j ∈ tix := by decide) (hn : i ≠ j := by decide) : q i ≠ q j := fun e => hn (h.2.2.1 i hi j hj e)
theorem Top.ptr {S : Sto} {q : Nat → Nat} (h : Top S q) (i : Nat) (k : Int) (j : Nat) (hi : (i, k, j) ∈ tptr := by decide) : sP S (q i) k = some (q j) := h.2.2.2.1 (i, k, j) hi
theorem Top.way {S : Sto} {q : Nat → Nat} (h : Top S q) {i : Nat} (hi : i < 10) : sP S (q 11) (i : Int) = some (q (20 + i)) := h.2.2.2.2.1 i hi
theorem Top.sav {S : Sto} {q : Nat → Nat} (h : Top S q) {i : Nat} (hi : i < 40) : sP S (q 13) (i : Int) = some (q (30 + i)) := h.2.2.2.2.2 i hi
section
variable {p : Program} {l : Launch} {e : Env} {R : Room} {s : State} {m : MethodId} {args : Array Value} {below : List Frame} {meth : Method} {c : Code} {Q : State → Prop} {cc : ByteArray} {nL : Nat} {own : String} {ret : Option FieldType} {g : GG} {cells slots pc : Nat} {lv lv' : List (Nat × Value)} {st : List Value} {S : Sto} {a : Nat}
theorem KObjInit (C : Cx p l s m args meth c cc nL own ret g) {index : Nat} (ml : Cond.methodLink own index objectInit ∈ UW) (hdg : decode cc pc = .ok (.invokespecial index, 3)) (hR : 1 ≤ R.frames ∧ (st.map fun v => v.category).sum + 12 ≤ R.locals) (kk : Wk p l e R s m args below meth c Q g nL cells slots (pc + 3) lv st S) : Wk p l e R s m args below meth c Q g nL cells slots pc lv (.ref a :: st) S := fun H locs ls hP hD hS hR0 hl =>
  W.objInit C.1 C.2.1 C.home (C.words _ ml) (C.words _ u_im_objectInit) (C.words _ u_co_objectInit) rfl (by rw [C.2.2.1]; exact hl.1) rfl hdg hR.1 (by show 2 * 0 + _ + 12 ≤ _; omega) (kk H locs ls hP hD hS hR0 hl)
theorem KDup2 (C : Cx p l s m args meth c cc nL own ret g) {v w : Value} (hdg : decode cc pc = .ok (.dup2, 1)) (hva : v.category = 1) (hvb : w.category = 1) (kk : Wk p l e R s m args below meth c Q g nL cells slots (pc + 1) lv (v :: w :: v :: w :: st) S) : Wk p l e R s m args below meth c Q g nL cells slots pc lv (v :: w :: st) S := fun H locs ls hP hD hS hR0 hl => lv_dup2_11 C.1 C.2.1 hdg hva hvb (kk H locs ls hP hD hS hR0 hl)
end
end
section
/-! ===== pure words ===== -/
def absI (x : Int) : Int := if 0 ≤ x then x else 0 - x
def minI (x y : Int) : Int := if y < x then y else x
def maxI (x y : Int) : Int := if x < y then y else x
theorem absI_b (x : Int) : 0 ≤ absI x ∧ (absI x = x ∨ absI x = 0 - x) := by unfold absI; split <;> omega
theorem minI_b (x y : Int) : minI x y ≤ x ∧ minI x y ≤ y ∧ (minI x y = x ∨ minI x y = y) := by unfold minI; split <;> omega
theorem maxI_b (x y : Int) : x ≤ maxI x y ∧ y ≤ maxI x y ∧ (maxI x y = x ∨ maxI x y = y) := by unfold maxI; split <;> omega
/-- the distance of two places; N positions, the gap G -/
def dst (N G x y : Int) : Int := if absI (x / 100 - y / 100) = 0 then absI (x % 100 - y % 100) else absI (x / 100 - y / 100) * G + minI (x % 100 + y % 100) (2 * (N + 1) - (x % 100 + y % 100))
/-- a place's number: the start, or a place -/
def isPl (x : Int) : Prop := 0 ≤ x ∧ x / 100 ≤ 5 ∧ x % 100 ≤ 20
theorem dst_b {N G x y : Int} (hN : 1 ≤ N ∧ N ≤ 20) (hG : 1 ≤ G ∧ G ≤ 9) (hx : isPl x) (hy : isPl y) (hxN : x % 100 ≤ N) (hyN : y % 100 ≤ N) : 0 ≤ dst N G x y ∧ dst N G x y ≤ 66 := by
  obtain ⟨x1, x2, x3⟩ := hx
  obtain ⟨y1, y2, y3⟩ := hy
  have a1 := absI_b (x / 100 - y / 100)
  have a2 := absI_b (x % 100 - y % 100)
  have a3 := minI_b (x % 100 + y % 100) (2 * (N + 1) - (x % 100 + y % 100))
  have a4 : absI (x / 100 - y / 100) ≤ 5 := by omega
  have a5 : 0 ≤ absI (x / 100 - y / 100) * G := Int.mul_nonneg a1.1 (by omega)
  have a6 : absI (x / 100 - y / 100) * G ≤ 5 * 9 := Int.mul_le_mul a4 hG.2 (by omega) (by omega)
  unfold dst
  split <;> omega
/-- what the constructor was told -/
def Cf (S : Sto) (q : Nat → Nat) : Prop := 1 ≤ sI S (q 1) 0 ∧ sI S (q 1) 0 ≤ 6 ∧ 1 ≤ sI S (q 1) 1 ∧ sI S (q 1) 1 ≤ 20 ∧ 1 ≤ sI S (q 1) 2 ∧ sI S (q 1) 2 ≤ 9
/-- the first place from 0 on where F is v -/
def firstAt (F : Int → Int) (v : Int) : Nat → Int
  | 0 => -1
  | n + 1 => if firstAt F v n = -1 then (if F n = v then (n : Int) else -1) else firstAt F v n
theorem firstAt_no {F : Int → Int} {v : Int} {n : Nat} (h : ∀ j : Int, 0 ≤ j → j < n → F j ≠ v) : firstAt F v n = -1 := by
  induction n with
  | zero => rfl
  | succ n ih =>
    have h1 := ih (fun j a b => h j a (by omega))
    unfold firstAt
    rw [if_pos h1, if_neg (h n (by omega) (by omega))]
theorem firstAt_yes {F : Int → Int} {v : Int} {n i : Nat} (h : ∀ j : Int, 0 ≤ j → j < i → F j ≠ v) (hi : F i = v) (hn : i < n) : firstAt F v n = i := by
  induction n with
  | zero => omega
  | succ n ih =>
    unfold firstAt
    by_cases hin : i = n
    · subst hin
      rw [if_pos (firstAt_no h), if_pos hi]
    · have h1 := ih (by omega)
      rw [h1, if_neg (by omega)]
end
section
/-! ===== bits ===== -/
theorem ib_sl : ∀ n, n < 32 → ((nI n &&& 31).toBitVec.smod 32).toNat = n := by decide +kernel
theorem ib_nI (n : Nat) : iI (n : Int) = nI n := iI_nat n
theorem ib_shr {m p : Nat} (hm : m < 2147483648) (hp : p < 32) : iI (m : Int) >>> (iI (p : Int) &&& 31) = iI ((m / 2 ^ p : Nat) : Int) := by
  rw [ib_nI, ib_nI, ib_nI]
  exact pk_shrN (by omega) _ p (ib_sl p hp)
theorem ib_and (a b : Nat) : iI (a : Int) &&& iI (b : Int) = iI ((a &&& b : Nat) : Int) := by
  rw [ib_nI, ib_nI, ib_nI]
  apply Int32.toBitVec_inj.1
  show BitVec.ofNat 32 a &&& BitVec.ofNat 32 b = BitVec.ofNat 32 (a &&& b)
  apply BitVec.eq_of_getLsbD_eq
  intro i hi
  simp [hi]
theorem ib_or (a b : Nat) : iI (a : Int) ||| iI (b : Int) = iI ((a ||| b : Nat) : Int) := by
  rw [ib_nI, ib_nI, ib_nI]
  apply Int32.toBitVec_inj.1
  show BitVec.ofNat 32 a ||| BitVec.ofNat 32 b = BitVec.ofNat 32 (a ||| b)
  apply BitVec.eq_of_getLsbD_eq
  intro i hi
  simp [hi]
theorem ib_xor (a b : Nat) : iI (a : Int) ^^^ iI (b : Int) = iI ((a ^^^ b : Nat) : Int) := by
  rw [ib_nI, ib_nI, ib_nI]
  apply Int32.toBitVec_inj.1
  show BitVec.ofNat 32 a ^^^ BitVec.ofNat 32 b = BitVec.ofNat 32 (a ^^^ b)
  apply BitVec.eq_of_getLsbD_eq
  intro i hi
  simp [hi]
theorem ib_shl {p : Nat} (hp : p < 31) : iI 1 <<< (iI (p : Int) &&& 31) = iI ((2 ^ p : Nat) : Int) := by
  have h1 : iI 1 = nI 1 := iI_nat 1
  have h2 : 2 ^ p < 2 ^ 31 := Nat.pow_lt_pow_right (by omega) hp
  rw [h1, ib_nI, ib_nI, pk_shlN (n := 1) _ p (ib_sl p (by omega)) (by omega), Nat.one_mul]
theorem ib_bit {m p : Nat} (hm : m < 2147483648) (hp : p < 32) : iI ((m / 2 ^ p : Nat) : Int) &&& iI 1 = iI ((m / 2 ^ p % 2 : Nat) : Int) := by
  have h1 : (1 : Int) = ((1 : Nat) : Int) := rfl
  rw [h1, ib_and]
  congr 2
  exact Nat.and_one_is_mod _
theorem tb_1 {m p : Nat} (h : m / 2 ^ p % 2 ≠ 0) : m.testBit p = true := by
  rw [Nat.testBit_eq_decide_div_mod_eq]
  exact decide_eq_true (by omega)
theorem tb_0 {m p : Nat} (h : m / 2 ^ p % 2 = 0) : m.testBit p = false := by
  rw [Nat.testBit_eq_decide_div_mod_eq]
  exact decide_eq_false (by omega)
theorem tb_ge {m k : Nat} (h : m.testBit k = true) : 2 ^ k ≤ m := by
  rcases Nat.lt_or_ge m (2 ^ k) with h1 | h1
  · rw [Nat.testBit_lt_two_pow h1] at h
    cases h
  · exact h1
/-- a bit taken away -/
theorem tb_sub {m k : Nat} (h : m.testBit k = true) (j : Nat) : (m - 2 ^ k).testBit j = (m.testBit j && !decide (j = k)) := by
  have hp : 0 < 2 ^ k := Nat.two_pow_pos k
  have hx : m / 2 ^ k % 2 = 1 := by
    rw [Nat.testBit_eq_decide_div_mod_eq] at h
    exact of_decide_eq_true h
  have hb : m % 2 ^ k < 2 ^ k := Nat.mod_lt _ hp
  have e1 : m = 2 ^ k * (m / 2 ^ k) + m % 2 ^ k := (Nat.div_add_mod m (2 ^ k)).symm
  generalize m / 2 ^ k = x at hx e1
  generalize m % 2 ^ k = b at hb e1
  obtain ⟨y, rfl⟩ : ∃ y, x = y + 1 := ⟨x - 1, by omega⟩
  have e2 : m - 2 ^ k = 2 ^ k * y + b := by
    rw [e1, Nat.mul_succ]
    omega
  rw [e2, e1, Nat.two_pow_add_eq_or_of_lt hb, Nat.two_pow_add_eq_or_of_lt hb, Nat.testBit_or, Nat.testBit_or, Nat.testBit_two_pow_mul, Nat.testBit_two_pow_mul]
  rcases Nat.lt_trichotomy j k with h1 | h1 | h1
  · have e3 : ¬ j ≥ k := by omega
    have e4 : ¬ j = k := by omega
    simp [e3, e4]
  · subst h1
    have e5 : y % 2 = 0 := by omega
    have e6 : b.testBit j = false := Nat.testBit_lt_two_pow hb
    simp [e6, Nat.testBit_zero, e5]
  · obtain ⟨t, ht⟩ : ∃ t, j - k = t + 1 := ⟨j - k - 1, by omega⟩
    have e4 : ¬ j = k := by omega
    have e7 : (y + 1) / 2 = y / 2 := by omega
    rw [ht, Nat.testBit_succ, Nat.testBit_succ, e7]
    simp [e4]
theorem tb_xor {m k : Nat} (h : m.testBit k = true) : m ^^^ 2 ^ k = m - 2 ^ k := by
  apply Nat.eq_of_testBit_eq
  intro i
  rw [tb_sub h, Nat.testBit_xor, Nat.testBit_two_pow]
  by_cases hi : k = i
  · subst hi; simp [h]
  · have hi2 : ¬ i = k := fun e => hi e.symm
    simp [hi, hi2]
theorem tb_full {n k : Nat} : (2 ^ n - 1).testBit k = decide (k < n) := Nat.testBit_two_pow_sub_one n k
theorem tb_lt {m n k : Nat} (h : m < 2 ^ n) (hk : m.testBit k = true) : k < n := by
  rcases Nat.lt_or_ge k n with h1 | h1
  · exact h1
  · have h2 := tb_ge hk
    have h3 : 2 ^ n ≤ 2 ^ k := Nat.pow_le_pow_right (by omega) h1
    omega
theorem tb_some {m n : Nat} (h : m < 2 ^ n) (h0 : m ≠ 0) : ∃ k, k < n ∧ m.testBit k = true := by
  obtain ⟨k, hk⟩ := Nat.exists_testBit_of_ne_zero h0
  exact ⟨k, tb_lt h hk, hk⟩
/-! ===== the least tour by a set, from a point, home; 9 is home ===== -/
/-- the least of g over the bits of left below n, from B on -/
def mnb (B : Int) (left : Nat) (g : Nat → Int) : Nat → Int
  | 0 => B
  | n + 1 => if left.testBit n then minI (mnb B left g n) (g n) else mnb B left g n
theorem mnb_le (B : Int) (left : Nat) (g : Nat → Int) (n : Nat) : mnb B left g n ≤ B := by
  induction n with
  | zero => exact Int.le_refl _
  | succ n ih =>
    unfold mnb
    split
    · have := minI_b (mnb B left g n) (g n); omega
    · exact ih
theorem mnb_le_g (B : Int) (left : Nat) (g : Nat → Int) {n k : Nat} (hk : k < n) (hb : left.testBit k = true) : mnb B left g n ≤ g k := by
  induction n with
  | zero => omega
  | succ n ih =>
    unfold mnb
    by_cases h : k = n
    · subst h
      rw [if_pos hb]
      have := minI_b (mnb B left g k) (g k); omega
    · have h1 := ih (by omega)
      split
      · have := minI_b (mnb B left g n) (g n); omega
      · exact h1
theorem mnb_mem (B : Int) (left : Nat) (g : Nat → Int) (n : Nat) : mnb B left g n = B ∨ ∃ k, k < n ∧ left.testBit k = true ∧ mnb B left g n = g k := by
  induction n with
  | zero => exact Or.inl rfl
  | succ n ih =>
    unfold mnb
    by_cases hb : left.testBit n = true
    · rw [if_pos hb]
      rcases (minI_b (mnb B left g n) (g n)).2.2 with h | h
      · rw [h]
        rcases ih with h1 | ⟨k, h1, h2, h3⟩
        · exact Or.inl h1
        · exact Or.inr ⟨k, by omega, h2, h3⟩
      · exact Or.inr ⟨n, by omega, hb, h⟩
    · rw [if_neg hb]
      rcases ih with h1 | ⟨k, h1, h2, h3⟩
      · exact Or.inl h1
      · exact Or.inr ⟨k, by omega, h2, h3⟩
/-- the bound does not matter where some value is under it -/
theorem mnb_B {B B' : Int} {left : Nat} {g : Nat → Int} {n k : Nat} (hk : k < n) (hb : left.testBit k = true) (h1 : g k < B) (h2 : g k < B') : mnb B left g n = mnb B' left g n := by
  have a1 := mnb_le_g B left g hk hb
  have a2 := mnb_le_g B' left g hk hb
  rcases mnb_mem B left g n with h | ⟨i, i1, i2, i3⟩
  · omega
  · rcases mnb_mem B' left g n with h' | ⟨j, j1, j2, j3⟩
    · omega
    · have b1 := mnb_le_g B left g j1 j2
      have b2 := mnb_le_g B' left g i1 i2
      omega
theorem mnb_congr {B : Int} {left : Nat} {g h : Nat → Int} {n : Nat} (e : ∀ k, k < n → left.testBit k = true → g k = h k) : mnb B left g n = mnb B left h n := by
  induction n with
  | zero => rfl
  | succ n ih =>
    unfold mnb
    rw [ih (fun k a b => e k (by omega) b)]
    by_cases hb : left.testBit n = true
    · rw [if_pos hb, if_pos hb, e n (by omega) hb]
    · rw [if_neg hb, if_neg hb]
def trF (d : Nat → Nat → Int) (n : Nat) : Nat → Nat → Nat → Int
  | 0, _, src => d src 9
  | f + 1, left, src => if left = 0 then d src 9 else mnb 1000000 left (fun k => d src k + trF d n f (left - 2 ^ k) k) n
/-- the least length from src by the points of left home -/
def tr (d : Nat → Nat → Int) (n left src : Nat) : Int := trF d n left left src
theorem trF_fuel (d : Nat → Nat → Int) (n : Nat) : ∀ f f' left src, left ≤ f → left ≤ f' → trF d n f left src = trF d n f' left src := by
  intro f
  induction f with
  | zero =>
    intro f' left src h1 h2
    have h0 : left = 0 := by omega
    subst h0
    cases f' with
    | zero => rfl
    | succ f' => unfold trF; rw [if_pos rfl]
  | succ f ih =>
    intro f' left src h1 h2
    cases f' with
    | zero =>
      have h0 : left = 0 := by omega
      subst h0
      unfold trF; rw [if_pos rfl]
    | succ f' =>
      unfold trF
      by_cases h0 : left = 0
      · rw [if_pos h0, if_pos h0]
      · rw [if_neg h0, if_neg h0]
        refine mnb_congr fun k hk hb => ?_
        have h3 := tb_ge hb
        have h4 : 0 < 2 ^ k := Nat.two_pow_pos _
        rw [ih f' (left - 2 ^ k) k (by omega) (by omega)]
theorem tr_0 (d : Nat → Nat → Int) (n src : Nat) : tr d n 0 src = d src 9 := rfl
theorem tr_step (d : Nat → Nat → Int) (n : Nat) {left src : Nat} (h : left ≠ 0) : tr d n left src = mnb 1000000 left (fun k => d src k + tr d n (left - 2 ^ k) k) n := by
  have h1 : tr d n left src = trF d n ((left - 1) + 1) left src := trF_fuel d n left _ left src (Nat.le_refl _) (by omega)
  rw [h1]
  unfold trF
  rw [if_neg h]
  refine mnb_congr fun k hk hb => ?_
  have h3 := tb_ge hb
  have h4 : 0 < 2 ^ k := Nat.two_pow_pos _
  unfold tr
  rw [trF_fuel d n (left - 1) (left - 2 ^ k) (left - 2 ^ k) k (by omega) (Nat.le_refl _)]
/-- the distances are small and not negative -/
def okD (d : Nat → Nat → Int) (n : Nat) : Prop := n ≤ 9 ∧ ∀ i j, (i < n ∨ i = 9) → (j < n ∨ j = 9) → 0 ≤ d i j ∧ d i j ≤ 66
theorem trF_nn {d : Nat → Nat → Int} {n : Nat} (hd : okD d n) : ∀ f left src, (src < n ∨ src = 9) → 0 ≤ trF d n f left src := by
  intro f
  induction f with
  | zero => intro left src hs; exact (hd.2 src 9 hs (Or.inr rfl)).1
  | succ f ih =>
    intro left src hs
    unfold trF
    split
    · exact (hd.2 src 9 hs (Or.inr rfl)).1
    · rcases mnb_mem 1000000 left (fun k => d src k + trF d n f (left - 2 ^ k) k) n with h | ⟨k, k1, k2, k3⟩
      · omega
      · rw [k3]
        have h1 := hd.2 src k hs (Or.inl k1)
        have h2 := ih (left - 2 ^ k) k (Or.inl k1)
        omega
theorem tr_nn {d : Nat → Nat → Int} {n : Nat} (hd : okD d n) (left src : Nat) (hs : src < n ∨ src = 9) : 0 ≤ tr d n left src := trF_nn hd left left src hs
theorem tr_b {d : Nat → Nat → Int} {n : Nat} (hd : okD d n) : ∀ j left src, j ≤ n → left < 2 ^ j → (src < n ∨ src = 9) → 0 ≤ tr d n left src ∧ tr d n left src ≤ 66 * ((j : Int) + 1) := by
  intro j
  induction j with
  | zero =>
    intro left src _ hl hs
    have h0 : left = 0 := by omega
    subst h0
    rw [tr_0]
    have := hd.2 src 9 hs (Or.inr rfl)
    omega
  | succ j ih =>
    intro left src hj hl hs
    by_cases hlt : left < 2 ^ j
    · have := ih left src (by omega) hlt hs
      omega
    · have hb : left.testBit j = true := by
        rw [Nat.testBit_eq_decide_div_mod_eq]
        have h2 : 2 ^ (j + 1) = 2 ^ j * 2 := Nat.pow_succ 2 j
        have h3 : 0 < 2 ^ j := Nat.two_pow_pos _
        have h4 : left / 2 ^ j = 1 := by
          apply Nat.div_eq_of_lt_le <;> omega
        rw [h4]; rfl
      have h2 : 2 ^ (j + 1) = 2 ^ j * 2 := Nat.pow_succ 2 j
      have h3 : 0 < 2 ^ j := Nat.two_pow_pos _
      have h0 : left ≠ 0 := by omega
      rw [tr_step d n h0]
      have h5 := mnb_le_g 1000000 left (fun k => d src k + tr d n (left - 2 ^ k) k) (show j < n by omega) hb
      have h6 := ih (left - 2 ^ j) j (by omega) (by omega) (Or.inl (by omega))
      have h7 := hd.2 src j hs (Or.inl (by omega))
      have h8 := tr_nn hd left src hs
      rw [tr_step d n h0] at h8
      exact ⟨h8, by omega⟩
end
section
/-! ===== putting in by shifting up ===== -/
def insPosN (b : Nat → Bool) : Nat → Nat
  | 0 => 0
  | n + 1 => if b n then insPosN b n else n + 1
theorem insPosN_le (b : Nat → Bool) (n : Nat) : insPosN b n ≤ n := by
  induction n with
  | zero => exact Nat.le_refl _
  | succ n ih => unfold insPosN; split <;> omega
theorem insPosN_congr {b b' : Nat → Bool} {n : Nat} (h : ∀ j, j < n → b j = b' j) : insPosN b n = insPosN b' n := by
  induction n with
  | zero => rfl
  | succ n ih =>
    unfold insPosN
    rw [h n (by omega), ih (fun j hj => h j (by omega))]
theorem insPosN_t {b : Nat → Bool} {n : Nat} (h : b n = true) : insPosN b (n + 1) = insPosN b n := by
  show (if b n then insPosN b n else n + 1) = _
  rw [if_pos h]
theorem insPosN_f {b : Nat → Bool} {n : Nat} (h : b n = false) : insPosN b (n + 1) = n + 1 := by
  show (if b n then insPosN b n else n + 1) = _
  rw [h]
  rfl
theorem insPosN_above {b : Nat → Bool} {n j : Nat} (h1 : insPosN b n ≤ j) (h2 : j < n) : b j = true := by
  induction n with
  | zero => omega
  | succ n ih =>
    cases hb : b n with
    | false => rw [insPosN_f hb] at h1; omega
    | true =>
      rw [insPosN_t hb] at h1
      by_cases hj : j = n
      · rw [hj]; exact hb
      · exact ih h1 (by omega)
theorem insPosN_below {b : Nat → Bool} {n : Nat} (h : 0 < insPosN b n) : b (insPosN b n - 1) = false := by
  induction n with
  | zero => exact absurd h (Nat.lt_irrefl 0)
  | succ n ih =>
    cases hb : b n with
    | false => rw [insPosN_f hb]; exact hb
    | true => rw [insPosN_t hb] at h ⊢; exact ih h
/-- from p to n one place up; place p as it was -/
def shf (F : Int → Int) (p n : Nat) : Int → Int := fun j => if (p : Int) < j ∧ j ≤ (n : Int) then F (j - 1) else F j
theorem shf_self (F : Int → Int) (n : Nat) : shf F n n = F := by
  funext j
  unfold shf
  rw [if_neg (by omega)]
theorem shf_step (F : Int → Int) {p n : Nat} (hp : p + 1 ≤ n) : upd1 (shf F (p + 1) n) ((p : Int) + 1) (F (p : Int)) = shf F p n := by
  funext j
  unfold upd1 shf
  by_cases hj : j = (p : Int) + 1
  · rw [if_pos hj, if_pos (by omega), hj]
    congr 1
    omega
  · rw [if_neg hj]
    by_cases h2 : ((p + 1 : Nat) : Int) < j ∧ j ≤ n
    · rw [if_pos h2, if_pos (by omega)]
    · rw [if_neg h2, if_neg (by omega)]
theorem shf_lo (F : Int → Int) {p n : Nat} {j : Int} (h : j ≤ p) : shf F p n j = F j := by
  unfold shf
  rw [if_neg (by omega)]
def insAt (F : Int → Int) (p n : Nat) (v : Int) : Int → Int := upd1 (shf F p n) p v
theorem insAt_lo (F : Int → Int) {p n : Nat} {v j : Int} (h : j < p) : insAt F p n v j = F j := by
  unfold insAt upd1
  rw [if_neg (by omega), shf_lo F (by omega)]
theorem insAt_eq (F : Int → Int) {p n : Nat} {v : Int} : insAt F p n v p = v := by
  unfold insAt upd1
  rw [if_pos rfl]
theorem insAt_hi (F : Int → Int) {p n : Nat} {v j : Int} (h : (p : Int) < j) (h2 : j ≤ n) : insAt F p n v j = F (j - 1) := by
  unfold insAt upd1 shf
  rw [if_neg (by omega), if_pos ⟨h, h2⟩]
theorem insAt_out (F : Int → Int) {p n : Nat} {v j : Int} (hp : p ≤ n) (h2 : (n : Int) < j) : insAt F p n v j = F j := by
  unfold insAt upd1 shf
  rw [if_neg (by omega), if_neg (by omega)]
/-- the same in a list -/
def insL (b : Nat → Bool) (l : List Nat) (v : Nat) : List Nat := l.take (insPosN (fun j => b (l.getD j 0)) l.length) ++ v :: l.drop (insPosN (fun j => b (l.getD j 0)) l.length)
theorem insL_len (b : Nat → Bool) (l : List Nat) (v : Nat) : (insL b l v).length = l.length + 1 := by
  unfold insL
  have h := insPosN_le (fun j => b (l.getD j 0)) l.length
  rw [List.length_append, List.length_cons, List.length_take, List.length_drop]
  omega
theorem insL_lo {b : Nat → Bool} {l : List Nat} {v j : Nat} (h : j < insPosN (fun j => b (l.getD j 0)) l.length) : (insL b l v).getD j 0 = l.getD j 0 := by
  unfold insL
  have hl := insPosN_le (fun j => b (l.getD j 0)) l.length
  rw [List.getD_eq_getElem?_getD, List.getElem?_append_left (by rw [List.length_take]; omega), List.getElem?_take, if_pos h, ← List.getD_eq_getElem?_getD]
theorem insL_eq {b : Nat → Bool} {l : List Nat} {v : Nat} : (insL b l v).getD (insPosN (fun j => b (l.getD j 0)) l.length) 0 = v := by
  unfold insL
  have hl := insPosN_le (fun j => b (l.getD j 0)) l.length
  rw [List.getD_eq_getElem?_getD, List.getElem?_append_right (by rw [List.length_take]; omega), List.length_take]
  rw [show insPosN (fun j => b (l.getD j 0)) l.length - min (insPosN (fun j => b (l.getD j 0)) l.length) l.length = 0 by omega]
  rfl
theorem insL_hi {b : Nat → Bool} {l : List Nat} {v j : Nat} (h : insPosN (fun j => b (l.getD j 0)) l.length < j) : (insL b l v).getD j 0 = l.getD (j - 1) 0 := by
  unfold insL
  have hl := insPosN_le (fun j => b (l.getD j 0)) l.length
  rw [List.getD_eq_getElem?_getD, List.getElem?_append_right (by rw [List.length_take]; omega), List.length_take]
  obtain ⟨k, hk⟩ : ∃ k, j - min (insPosN (fun j => b (l.getD j 0)) l.length) l.length = k + 1 := ⟨j - min (insPosN (fun j => b (l.getD j 0)) l.length) l.length - 1, by omega⟩
  rw [hk, List.getElem?_cons_succ, List.getElem?_drop, ← List.getD_eq_getElem?_getD]
  congr 1
  omega
/-- a row that holds a list, after the same is put into both -/
theorem ins_rep {b : Nat → Bool} {b2 : Nat → Bool} {F : Int → Int} {l : List Nat} {h : Nat → Int} {v : Nat} (hF : ∀ j : Nat, j < l.length → F j = h (l.getD j 0)) (hb : ∀ j : Nat, j < l.length → b2 j = b (l.getD j 0)) : ∀ j : Nat, j < (insL b l v).length → insAt F (insPosN b2 l.length) l.length (h v) j = h ((insL b l v).getD j 0) := by
  intro j hj
  rw [insL_len] at hj
  have e : insPosN b2 l.length = insPosN (fun j => b (l.getD j 0)) l.length := insPosN_congr hb
  rw [e]
  have hl := insPosN_le (fun j => b (l.getD j 0)) l.length
  rcases Nat.lt_trichotomy j (insPosN (fun j => b (l.getD j 0)) l.length) with h1 | h1 | h1
  · rw [insL_lo h1, insAt_lo F (by omega)]
    exact hF j (by omega)
  · rw [h1, insL_eq, insAt_eq]
  · rw [insL_hi h1, insAt_hi F (by omega) (by omega)]
    have := hF (j - 1) (by omega)
    rw [← this]
    congr 1
    omega
/-! ===== the products of a set, by rising places ===== -/
def cntb (m : Nat) : Nat → Nat
  | 0 => 0
  | n + 1 => cntb m n + (if m.testBit n = true then 1 else 0)
theorem cntb_mono (m : Nat) {a b : Nat} (h : a ≤ b) : cntb m a ≤ cntb m b := by
  induction b with
  | zero => rw [show a = 0 by omega]; exact Nat.le_refl _
  | succ b ih =>
    by_cases e : a = b + 1
    · rw [e]; exact Nat.le_refl _
    · have := ih (by omega)
      show cntb m a ≤ cntb m b + _
      omega
theorem cntb_or (a b n : Nat) : cntb (a ||| b) n ≤ cntb a n + cntb b n := by
  induction n with
  | zero => exact Nat.le_refl _
  | succ n ih =>
    unfold cntb
    rw [Nat.testBit_or]
    cases a.testBit n <;> cases b.testBit n <;> simp <;> omega
theorem cntb_0 (n : Nat) : cntb 0 n = 0 := by
  induction n with
  | zero => rfl
  | succ n ih => unfold cntb; rw [ih, Nat.zero_testBit]; rfl
theorem cntb_set {m p n : Nat} (h : m.testBit p = false) (hp : p < n) : cntb (m ||| 2 ^ p) n = cntb m n + 1 := by
  have aux : ∀ k, k ≤ p → cntb (m ||| 2 ^ p) k = cntb m k := by
    intro k
    induction k with
    | zero => intro _; rfl
    | succ k ih =>
      intro hk
      unfold cntb
      rw [ih (by omega), Nat.testBit_or, Nat.testBit_two_pow]
      have : ¬ p = k := by omega
      simp [this]
  induction n with
  | zero => omega
  | succ n ih =>
    unfold cntb
    by_cases e : p = n
    · subst e
      rw [aux p (Nat.le_refl _), Nat.testBit_or, Nat.testBit_two_pow, h]
      simp
    · rw [ih (by omega), Nat.testBit_or, Nat.testBit_two_pow]
      simp [e]
      omega
def sl (P : Int → Int) (m : Nat) : Nat → List Nat
  | 0 => []
  | p + 1 => if m.testBit p = true then insL (fun x => decide (P p < P x)) (sl P m p) p else sl P m p
theorem sl_len (P : Int → Int) (m n : Nat) : (sl P m n).length = cntb m n := by
  induction n with
  | zero => rfl
  | succ n ih =>
    unfold sl cntb
    split
    · rw [insL_len, ih]
    · rw [ih]; rfl
theorem sl_mem (P : Int → Int) (m n : Nat) : ∀ j, j < (sl P m n).length → (sl P m n).getD j 0 < n ∧ m.testBit ((sl P m n).getD j 0) = true := by
  induction n with
  | zero => intro j hj; exact absurd hj (Nat.not_lt_zero _)
  | succ n ih =>
    intro j hj
    unfold sl at hj ⊢
    by_cases hb : m.testBit n = true
    · rw [if_pos hb] at hj ⊢
      rw [insL_len] at hj
      rcases Nat.lt_trichotomy j (insPosN (fun j => (fun x => decide (P n < P x)) ((sl P m n).getD j 0)) (sl P m n).length) with h1 | h1 | h1
      · rw [insL_lo h1]
        have h2 := insPosN_le (fun j => (fun x => decide (P n < P x)) ((sl P m n).getD j 0)) (sl P m n).length
        have := ih j (by omega)
        exact ⟨by omega, this.2⟩
      · rw [h1, insL_eq]
        exact ⟨by omega, hb⟩
      · rw [insL_hi h1]
        have := ih (j - 1) (by omega)
        exact ⟨by omega, this.2⟩
    · rw [if_neg hb] at hj ⊢
      have := ih j hj
      exact ⟨by omega, this.2⟩
theorem sl_onto (P : Int → Int) (m n : Nat) : ∀ p, p < n → m.testBit p = true → ∃ j, j < (sl P m n).length ∧ (sl P m n).getD j 0 = p := by
  induction n with
  | zero => intro p hp; omega
  | succ n ih =>
    intro p hp hb
    unfold sl
    by_cases hn : m.testBit n = true
    · rw [if_pos hn, insL_len]
      by_cases e : p = n
      · subst e
        have h2 := insPosN_le (fun j => decide (P p < P ((sl P m p).getD j 0))) (sl P m p).length
        exact ⟨_, Nat.lt_succ_of_le h2, insL_eq⟩
      · obtain ⟨j, h1, h2⟩ := ih p (by omega) hb
        by_cases hj : j < insPosN (fun j => (fun x => decide (P n < P x)) ((sl P m n).getD j 0)) (sl P m n).length
        · exact ⟨j, by omega, by rw [insL_lo hj]; exact h2⟩
        · exact ⟨j + 1, by omega, by rw [insL_hi (Nat.lt_succ_of_le (Nat.not_lt.mp hj))]; exact h2⟩
    · rw [if_neg hn]
      by_cases e : p = n
      · subst e; exact absurd hb hn
      · exact ih p (by omega) hb
/-- rising: where no two are at one place -/
theorem sl_lt {P : Int → Int} {m : Nat} (hd : ∀ a b : Nat, a < 20 → b < 20 → m.testBit a = true → m.testBit b = true → P a = P b → a = b) : ∀ n, n ≤ 20 → ∀ i j, i < j → j < (sl P m n).length → P ((sl P m n).getD i 0) < P ((sl P m n).getD j 0) := by
  intro n
  induction n with
  | zero => intro _ i j _ hj; exact absurd hj (Nat.not_lt_zero _)
  | succ n ih =>
    intro hn i j hij hj
    have ih := ih (by omega)
    have hmem := sl_mem P m n
    unfold sl at hj ⊢
    by_cases hb : m.testBit n = true
    · rw [if_pos hb] at hj ⊢
      rw [insL_len] at hj
      generalize hk : insPosN (fun j => (fun x => decide (P n < P x)) ((sl P m n).getD j 0)) (sl P m n).length = k
      have hkl : k ≤ (sl P m n).length := by rw [← hk]; exact insPosN_le _ _
      have hup : ∀ x, k ≤ x → x < (sl P m n).length → P n < P ((sl P m n).getD x 0) := by
        intro x h1 h2
        have h3 := insPosN_above (b := fun j => (fun x => decide (P n < P x)) ((sl P m n).getD j 0)) (n := (sl P m n).length) (j := x) (by rw [hk]; exact h1) h2
        exact of_decide_eq_true h3
      have hdn : ∀ x, x < k → P ((sl P m n).getD x 0) < P n := by
        intro x h1
        have h3 := insPosN_below (b := fun j => (fun x => decide (P n < P x)) ((sl P m n).getD j 0)) (n := (sl P m n).length) (by rw [hk]; omega)
        rw [hk] at h3
        have h4 : ¬ P n < P ((sl P m n).getD (k - 1) 0) := of_decide_eq_false h3
        have h5 : P ((sl P m n).getD x 0) ≤ P ((sl P m n).getD (k - 1) 0) := by
          by_cases e : x = k - 1
          · rw [e]; exact Int.le_refl _
          · exact Int.le_of_lt (ih x (k - 1) (by omega) (by omega))
        have h6 : P ((sl P m n).getD x 0) ≠ P n := by
          intro e
          have h7 := hmem x (by omega)
          have := hd _ n (by omega) (by omega) h7.2 hb e
          omega
        omega
      have lo : ∀ x, x < k → (insL (fun x => decide (P n < P x)) (sl P m n) n).getD x 0 = (sl P m n).getD x 0 := fun x hx => insL_lo (by rw [hk]; exact hx)
      have eq : (insL (fun x => decide (P n < P x)) (sl P m n) n).getD k 0 = n := by rw [← hk]; exact insL_eq
      have hi : ∀ x, k < x → (insL (fun x => decide (P n < P x)) (sl P m n) n).getD x 0 = (sl P m n).getD (x - 1) 0 := fun x hx => insL_hi (by rw [hk]; exact hx)
      rcases Nat.lt_trichotomy i k with h1 | h1 | h1
      · rw [lo i h1]
        rcases Nat.lt_trichotomy j k with h2 | h2 | h2
        · rw [lo j h2]; exact ih i j hij (by omega)
        · rw [h2, eq]; exact hdn i h1
        · rw [hi j h2]
          exact Int.lt_trans (hdn i h1) (hup (j - 1) (by omega) (by omega))
      · rw [h1, eq, hi j (by omega)]
        exact hup (j - 1) (by omega) (by omega)
      · rw [hi i h1, hi j (by omega)]
        exact ih (i - 1) (j - 1) (by omega) (by omega)
    · rw [if_neg hb] at hj ⊢
      exact ih i j hij hj
/-- the point of a stop: 9 is home -/
def pt (P : Int → Int) (l : List Nat) (j : Nat) : Int := if j = 9 then 0 else P (l.getD j 0)
def dd (N G : Int) (P : Int → Int) (l : List Nat) (i j : Nat) : Int := dst N G (pt P l i) (pt P l j)
/-- a set of products that a route can come by -/
def okM (N : Int) (P : Int → Int) (m : Nat) : Prop := (∀ p : Nat, p < 20 → m.testBit p = true → 0 ≤ P p ∧ P p / 100 ≤ 5 ∧ 1 ≤ P p % 100 ∧ P p % 100 ≤ N) ∧ cntb m 20 ≤ 9 ∧ m < 1048576
theorem okM_pt {N : Int} {P : Int → Int} {m : Nat} (hN : 1 ≤ N ∧ N ≤ 20) (h : okM N P m) {j : Nat} (hj : j < (sl P m 20).length ∨ j = 9) : isPl (pt P (sl P m 20) j) ∧ pt P (sl P m 20) j % 100 ≤ N ∧ pt P (sl P m 20) j ≤ 600 := by
  unfold pt
  by_cases e : j = 9
  · rw [if_pos e]
    unfold isPl
    omega
  · rw [if_neg e]
    have h1 := sl_mem P m 20 j (by omega)
    have h2 := h.1 _ h1.1 h1.2
    unfold isPl
    omega
theorem okM_okD {N G : Int} {P : Int → Int} {m : Nat} (hN : 1 ≤ N ∧ N ≤ 20) (hG : 1 ≤ G ∧ G ≤ 9) (h : okM N P m) : okD (dd N G P (sl P m 20)) (sl P m 20).length := by
  refine ⟨by rw [sl_len]; exact h.2.1, fun i j hi hj => ?_⟩
  have h1 := okM_pt hN h hi
  have h2 := okM_pt hN h hj
  exact dst_b hN hG h1.1 h2.1 h1.2.1 h2.2.1
theorem dst_sym (N G x y : Int) : dst N G x y = dst N G y x := by
  unfold dst
  have e1 : absI (x / 100 - y / 100) = absI (y / 100 - x / 100) := by unfold absI; split <;> split <;> omega
  have e2 : absI (x % 100 - y % 100) = absI (y % 100 - x % 100) := by unfold absI; split <;> split <;> omega
  rw [e1, e2, Int.add_comm (x % 100) (y % 100)]
end
section
def P_X3_depth (S : Sto) (q : Nat → Nat) : Option Value → Sto → Prop := fun v u => v = some (.int (iI (sI S (q 1) 1 + 1))) ∧ S = u
set_option maxRecDepth 100000 in
set_option maxHeartbeats 4000000 in
theorem ct_X3_depth (l : Launch) (g : GG) (S : Sto) (q : Nat → Nat) (hT : Top S q) : MetS l g yX3_depth cX3_depth 1 (some FieldType.int) 1 0 0 [.ref (q 1)] S (P_X3_depth S q) := by
  refine MetS.of (own := RX3) (lv := [(0, .ref (q 1))]) (by decide) rfl (Nat.le_of_ble_eq_true rfl) rfl ?_
  intro p e s m args below meth c C hin
  refine KRg (fun hR => ?_)
  refine KAload_n C dX3_depth_0 rfl 0 rfl ?_
  refine KGetI C ul_X3 rfl (by decide) 1 1 rfl (by decide) rfl u_fl_RX3_28 (hT.at0 1 4) (v := sI S (q 1) 1) rfl dX3_depth_1 (fun _ h => h) ?_
  have rb1 := hR.b (q 1) 1 (v := sI S (q 1) 1) rfl
  refine KIconst C dX3_depth_4 ?_
  refine KIadd C dX3_depth_5 ?_
  refine KIret C rfl rfl (by
      exact ⟨rfl, rfl⟩) (by decide) (by decide) dX3_depth_6
def P_X3_hasAisle (S : Sto) (q : Nat → Nat) (a : Int) : Option Value → Sto → Prop := fun v u => ((0 ≤ a ∧ a < sI S (q 1) 0) ∧ v = some (.int (iI 1)) ∨ ¬(0 ≤ a ∧ a < sI S (q 1) 0) ∧ v = some (.int (iI 0))) ∧ S = u
set_option maxRecDepth 100000 in
set_option maxHeartbeats 4000000 in
theorem ct_X3_hasAisle (l : Launch) (g : GG) (S : Sto) (q : Nat → Nat) (a : Int) (hT : Top S q) (ha : inR a) : MetS l g yX3_hasAisle cX3_hasAisle 2 (some FieldType.boolean) 1 0 0 [.ref (q 1), .int (iI a)] S (P_X3_hasAisle S q a) := by
  refine MetS.of (own := RX3) (lv := [(0, .ref (q 1)), (1, .int (iI a))]) (by decide) rfl (Nat.le_of_ble_eq_true rfl) rfl ?_
  intro p e s m args below meth c C hin
  refine KRg (fun hR => ?_)
  obtain ⟨ha1, ha2⟩ := ha
  refine KIload_n C dX3_hasAisle_0 rfl 1 rfl ?_
  refine KIf_lt (tgt := 16) C dX3_hasAisle_1 (by decide) ⟨by omega, by omega⟩ (fun c1 => ?_) (fun c1 => ?_)
  · refine KIconst C dX3_hasAisle_16 ?_
    refine KIret C rfl rfl (by
        first | exact ⟨Or.inl ⟨by omega, rfl⟩, rfl⟩ | exact ⟨Or.inr ⟨by omega, rfl⟩, rfl⟩) (by decide) (by decide) dX3_hasAisle_17
  · refine KIload_n C dX3_hasAisle_4 rfl 1 rfl ?_
    refine KAload_n C dX3_hasAisle_5 rfl 0 rfl ?_
    refine KGetI C ul_X3 rfl (by decide) 0 0 rfl (by decide) rfl u_fl_RX3_24 (hT.at0 1 4) (v := sI S (q 1) 0) rfl dX3_hasAisle_6 (fun _ h => h) ?_
    have rb1 := hR.b (q 1) 0 (v := sI S (q 1) 0) rfl
    refine KIcmp_ge (tgt := 16) C dX3_hasAisle_9 (by decide) ⟨by omega, by omega⟩ ⟨by omega, by omega⟩ (fun c9 => ?_) (fun c9 => ?_)
    · refine KIconst C dX3_hasAisle_16 ?_
      refine KIret C rfl rfl (by
          first | exact ⟨Or.inl ⟨by omega, rfl⟩, rfl⟩ | exact ⟨Or.inr ⟨by omega, rfl⟩, rfl⟩) (by decide) (by decide) dX3_hasAisle_17
    · refine KIconst C dX3_hasAisle_12 ?_
      refine KGoto (tgt := 17) C dX3_hasAisle_13 (by decide) ?_
      refine KIret C rfl rfl (by
          first | exact ⟨Or.inl ⟨by omega, rfl⟩, rfl⟩ | exact ⟨Or.inr ⟨by omega, rfl⟩, rfl⟩) (by decide) (by decide) dX3_hasAisle_17
def P_X3_hasPosition (S : Sto) (q : Nat → Nat) (a : Int) : Option Value → Sto → Prop := fun v u => ((1 ≤ a ∧ a ≤ sI S (q 1) 1) ∧ v = some (.int (iI 1)) ∨ ¬(1 ≤ a ∧ a ≤ sI S (q 1) 1) ∧ v = some (.int (iI 0))) ∧ S = u
set_option maxRecDepth 100000 in
set_option maxHeartbeats 4000000 in
theorem ct_X3_hasPosition (l : Launch) (g : GG) (S : Sto) (q : Nat → Nat) (a : Int) (hT : Top S q) (ha : inR a) : MetS l g yX3_hasPosition cX3_hasPosition 2 (some FieldType.boolean) 1 0 0 [.ref (q 1), .int (iI a)] S (P_X3_hasPosition S q a) := by
  refine MetS.of (own := RX3) (lv := [(0, .ref (q 1)), (1, .int (iI a))]) (by decide) rfl (Nat.le_of_ble_eq_true rfl) rfl ?_
  intro p e s m args below meth c C hin
  refine KRg (fun hR => ?_)
  obtain ⟨ha1, ha2⟩ := ha
  refine KIload_n C dX3_hasPosition_0 rfl 1 rfl ?_
  refine KIconst C dX3_hasPosition_1 ?_
  refine KIcmp_lt (tgt := 17) C dX3_hasPosition_2 (by decide) ⟨by omega, by omega⟩ ⟨by omega, by omega⟩ (fun c2 => ?_) (fun c2 => ?_)
  · refine KIconst C dX3_hasPosition_17 ?_
    refine KIret C rfl rfl (by
        first | exact ⟨Or.inl ⟨by omega, rfl⟩, rfl⟩ | exact ⟨Or.inr ⟨by omega, rfl⟩, rfl⟩) (by decide) (by decide) dX3_hasPosition_18
  · refine KIload_n C dX3_hasPosition_5 rfl 1 rfl ?_
    refine KAload_n C dX3_hasPosition_6 rfl 0 rfl ?_
    refine KGetI C ul_X3 rfl (by decide) 1 1 rfl (by decide) rfl u_fl_RX3_28 (hT.at0 1 4) (v := sI S (q 1) 1) rfl dX3_hasPosition_7 (fun _ h => h) ?_
    have rb1 := hR.b (q 1) 1 (v := sI S (q 1) 1) rfl
    refine KIcmp_gt (tgt := 17) C dX3_hasPosition_10 (by decide) ⟨by omega, by omega⟩ ⟨by omega, by omega⟩ (fun c10 => ?_) (fun c10 => ?_)
    · refine KIconst C dX3_hasPosition_17 ?_
      refine KIret C rfl rfl (by
          first | exact ⟨Or.inl ⟨by omega, rfl⟩, rfl⟩ | exact ⟨Or.inr ⟨by omega, rfl⟩, rfl⟩) (by decide) (by decide) dX3_hasPosition_18
    · refine KIconst C dX3_hasPosition_13 ?_
      refine KGoto (tgt := 18) C dX3_hasPosition_14 (by decide) ?_
      refine KIret C rfl rfl (by
          first | exact ⟨Or.inl ⟨by omega, rfl⟩, rfl⟩ | exact ⟨Or.inr ⟨by omega, rfl⟩, rfl⟩) (by decide) (by decide) dX3_hasPosition_18
def P_X3_productAt (S : Sto) (q : Nat → Nat) (x : Int) : Option Value → Sto → Prop := fun v u => v = some (.int (iI (firstAt (sI S (q 6)) x 20))) ∧ S = u
set_option maxRecDepth 100000 in
set_option maxHeartbeats 4000000 in
theorem ct_X3_productAt (l : Launch) (g : GG) (S : Sto) (q : Nat → Nat) (x : Int) (hT : Top S q) (hx : inR x) : MetS l g yX3_productAt cX3_productAt 3 (some FieldType.int) 1 0 0 [.ref (q 1), .int (iI x)] S (P_X3_productAt S q x) := by
  refine MetS.of (own := RX3) (lv := [(0, .ref (q 1)), (1, .int (iI x))]) (by decide) rfl (Nat.le_of_ble_eq_true rfl) rfl ?_
  intro p e s m args below meth c C hin
  refine KRg (fun hR => ?_)
  obtain ⟨hx1, hx2⟩ := hx
  refine KIconst C dX3_productAt_0 ?_
  refine KIstore_n (lv' := [(2, .int (iI 0)), (0, .ref (q 1)), (1, .int (iI x))]) C dX3_productAt_1 rfl (by decide) rfl ?_
  refine KLv (lv' := [(0, .ref (q 1)), (1, .int (iI x)), (2, .int (iI 0))]) [1, 2, 0] rfl ?_
  have loop2 : ∀ (n : Nat) (i : Nat), 20 - i < n → (i ≤ 20) → (∀ j : Int, 0 ≤ j → j < i → sI S (q 6) j ≠ x) → Wk p l e (rmK 1 0 0) s m args below meth c (MQ below (QcG g (P_X3_productAt S q x)) args s 0 0 (ge (gB g))) g 3 0 0 2 [(0, .ref (q 1)), (1, .int (iI x)), (2, .int (iI (i : Int)))] [] S := by
    intro n
    induction n with
    | zero => intro i hm; exact absurd hm (Nat.not_lt_zero _)
    | succ n ih2 =>
      intro i hm2 hi hno
      refine KRg (fun hR => ?_)
      refine KIload_n C dX3_productAt_2 rfl 2 rfl ?_
      refine KBipush C dX3_productAt_3 (by decide) ?_
      refine KIcmp_ge (tgt := 26) C dX3_productAt_5 (by decide) ⟨by omega, by omega⟩ ⟨by omega, by omega⟩ (fun c5 => ?_) (fun c5 => ?_)
      · refine KIconst C dX3_productAt_26 ?_
        refine KIret C rfl rfl (by
            exact ⟨by rw [firstAt_no (fun j a b => hno j a (by omega))], rfl⟩) (by decide) (by decide) dX3_productAt_27
      · refine KAload_n C dX3_productAt_8 rfl 0 rfl ?_
        refine KGetR C ul_X3 rfl (by decide) 3 3 rfl (by decide) rfl u_fl_RX3_9 (hT.at0 1 4) (b := q 6) (hT.ptr 1 3 6) dX3_productAt_9 (fun _ h => h) ?_
        refine KIload_n C dX3_productAt_12 rfl 2 rfl ?_
        refine KIald  (v := sI S (q 6) (i : Int)) C 20 (hT.at0 6 20) (hT.ln0 6 20) ⟨by omega, by omega⟩ (by omega) rfl dX3_productAt_13 ?_
        have rb1 := hR.b (q 6) (i : Int) (v := sI S (q 6) (i : Int)) rfl
        refine KIload_n C dX3_productAt_14 rfl 1 rfl ?_
        refine KIcmp_ne (tgt := 20) C dX3_productAt_15 (by decide) ⟨by omega, by omega⟩ ⟨by omega, by omega⟩ (fun c15 => ?_) (fun c15 => ?_)
        · refine KIinc (v := ((i + 1 : Nat) : Int)) (lv' := [(2, .int (iI ((i + 1 : Nat) : Int))), (0, .ref (q 1)), (1, .int (iI x))]) C dX3_productAt_20 2 rfl (by omega) (by decide) rfl ?_
          refine KGoto (tgt := 2) C dX3_productAt_23 (by decide) ?_
          refine KLv (lv' := [(0, .ref (q 1)), (1, .int (iI x)), (2, .int (iI ((i + 1 : Nat) : Int)))]) [1, 2, 0] rfl ?_
          exact ih2 (i + 1) (by omega) (by omega) (fun j a b => if e : j = i then e ▸ c15 else hno j a (by omega))
        · refine KIload_n C dX3_productAt_18 rfl 2 rfl ?_
          refine KIret C rfl rfl (by
              exact ⟨by rw [firstAt_yes hno c15 (by omega)], rfl⟩) (by decide) (by decide) dX3_productAt_19
  exact loop2 _ 0 (Nat.lt_succ_self _) (by omega) (fun j a b => by omega)
def P_X3_between (S : Sto) (q : Nat → Nat) (x : Int) (y : Int) : Option Value → Sto → Prop := fun v u => v = some (.int (iI (dst (sI S (q 1) 1) (sI S (q 1) 2) x y))) ∧ S = u
set_option maxRecDepth 100000 in
set_option maxHeartbeats 4000000 in
theorem ct_X3_between (l : Launch) (g : GG) (S : Sto) (q : Nat → Nat) (x : Int) (y : Int) (hT : Top S q) (hCf : Cf S q) (hx : 0 ≤ x ∧ x ≤ 1000) (hy : 0 ≤ y ∧ y ≤ 1000) : MetS l g yX3_between cX3_between 8 (some FieldType.int) 2 0 0 [.ref (q 1), .int (iI x), .int (iI y)] S (P_X3_between S q x y) := by
  refine MetS.of (own := RX3) (lv := [(0, .ref (q 1)), (1, .int (iI x)), (2, .int (iI y))]) (by decide) rfl (Nat.le_of_ble_eq_true rfl) rfl ?_
  intro p e s m args below meth c C hin
  refine KRg (fun hR => ?_)
  obtain ⟨hA1, hA2, hN1, hN2, hG1, hG2⟩ := id hCf
  refine KIload_n C dX3_between_0 rfl 1 rfl ?_
  refine KBipush C dX3_between_1 (by decide) ?_
  refine KIrem (z := x % 100) C dX3_between_3 ⟨by omega, by omega⟩ ⟨by omega, by omega⟩ (by omega) (tmod_pos (by omega)) ?_
  refine KIstore_n (lv' := [(3, .int (iI (x % 100))), (0, .ref (q 1)), (1, .int (iI x)), (2, .int (iI y))]) C dX3_between_4 rfl (by decide) rfl ?_
  refine KIload_n C dX3_between_5 rfl 3 rfl ?_
  refine KBipush C dX3_between_6 (by decide) ?_
  refine KIrem (z := y % 100) C dX3_between_8 ⟨by omega, by omega⟩ ⟨by omega, by omega⟩ (by omega) (tmod_pos (by omega)) ?_
  refine KIstore (lv' := [(4, .int (iI (y % 100))), (3, .int (iI (x % 100))), (0, .ref (q 1)), (1, .int (iI x)), (2, .int (iI y))]) C dX3_between_9 (by decide) rfl ?_
  refine KIload_n C dX3_between_11 rfl 3 rfl ?_
  refine KBipush C dX3_between_12 (by decide) ?_
  refine KIdiv (z := x / 100) C dX3_between_14 ⟨by omega, by omega⟩ ⟨by omega, by omega⟩ (by omega) (tdiv_pos (by omega)) ?_
  refine KIload_n C dX3_between_15 rfl 4 rfl ?_
  refine KBipush C dX3_between_16 (by decide) ?_
  refine KIdiv (z := y / 100) C dX3_between_18 ⟨by omega, by omega⟩ ⟨by omega, by omega⟩ (by omega) (tdiv_pos (by omega)) ?_
  refine KIsub C dX3_between_19 ?_
  refine KMabs (z := absI ((x / 100) - (y / 100))) C ⟨by omega, by omega⟩ rfl u_ml_RX3_34 u_st_yJ9_abs_0f7a4 u_in_RJ9 u_co_yJ9_abs_0f7a4 ⟨Nat.le_of_ble_eq_true rfl, Nat.le_of_ble_eq_true rfl⟩ ⟨Nat.le_of_ble_eq_true rfl, Nat.le_of_ble_eq_true rfl⟩ dX3_between_20 ?_
  have mb1 := absI_b ((x / 100) - (y / 100))
  refine KIstore (lv' := [(5, .int (iI (absI ((x / 100) - (y / 100))))), (4, .int (iI (y % 100))), (3, .int (iI (x % 100))), (0, .ref (q 1)), (1, .int (iI x)), (2, .int (iI y))]) C dX3_between_23 (by decide) rfl ?_
  refine KIload C dX3_between_25 0 rfl ?_
  refine KIf_ne (tgt := 38) C dX3_between_27 (by decide) ⟨by omega, by omega⟩ (fun c27 => ?_) (fun c27 => ?_)
  · refine KIload_n C dX3_between_38 rfl 2 rfl ?_
    refine KIload C dX3_between_39 1 rfl ?_
    refine KIadd C dX3_between_41 ?_
    refine KIstore (lv' := [(6, .int (iI ((x % 100) + (y % 100)))), (5, .int (iI (absI ((x / 100) - (y / 100))))), (4, .int (iI (y % 100))), (3, .int (iI (x % 100))), (0, .ref (q 1)), (1, .int (iI x)), (2, .int (iI y))]) C dX3_between_42 (by decide) rfl ?_
    refine KIconst C dX3_between_44 ?_
    refine KAload_n C dX3_between_45 rfl 4 rfl ?_
    refine KCallV (As := []) (b := q 1) (st := [.int (iI 2)]) C (ct_X3_depth l g S q hT) u_ml_RX3_40 u_im_yX3_depth u_se_yX3_depth u_in_RX3 u_co_yX3_depth hd_yX3_depth (hT.at0 1 4) (by decide) rfl rfl ⟨Nat.le_of_ble_eq_true rfl, Nat.le_of_ble_eq_true rfl⟩ ⟨Nat.le_of_ble_eq_true rfl, Nat.le_of_ble_eq_true rfl⟩ (Nat.le_of_ble_eq_true rfl) dX3_between_46 rfl (fun v46 u46 hp46 => ?_)
    obtain ⟨rfl, rfl⟩ := hp46
    refine KSt (st2 := [.int (iI (sI S (q 1) 1 + 1)), .int (iI 2)]) rfl ?_
    refine KImul C dX3_between_49 ?_
    refine KIload C dX3_between_50 0 rfl ?_
    refine KIsub C dX3_between_52 ?_
    refine KIstore (lv' := [(7, .int (iI ((2 * (sI S (q 1) 1 + 1)) - ((x % 100) + (y % 100))))), (6, .int (iI ((x % 100) + (y % 100)))), (5, .int (iI (absI ((x / 100) - (y / 100))))), (4, .int (iI (y % 100))), (3, .int (iI (x % 100))), (0, .ref (q 1)), (1, .int (iI x)), (2, .int (iI y))]) C dX3_between_53 (by decide) rfl ?_
    refine KIload C dX3_between_55 2 rfl ?_
    refine KAload_n C dX3_between_57 rfl 5 rfl ?_
    refine KGetI C ul_X3 rfl (by decide) 2 2 rfl (by decide) rfl u_fl_RX3_31 (hT.at0 1 4) (v := sI S (q 1) 2) rfl dX3_between_58 (fun _ h => h) ?_
    have rb2 := hR.b (q 1) 2 (v := sI S (q 1) 2) rfl
    refine KImul C dX3_between_61 ?_
    refine KIload C dX3_between_62 1 rfl ?_
    refine KIload C dX3_between_64 0 rfl ?_
    refine KMmin (z := minI ((x % 100) + (y % 100)) ((2 * (sI S (q 1) 1 + 1)) - ((x % 100) + (y % 100)))) C ⟨by omega, by omega⟩ ⟨by omega, by omega⟩ rfl u_ml_RX3_44 u_st_yJ9_min_7cf53 u_in_RJ9 u_co_yJ9_min_7cf53 ⟨Nat.le_of_ble_eq_true rfl, Nat.le_of_ble_eq_true rfl⟩ ⟨Nat.le_of_ble_eq_true rfl, Nat.le_of_ble_eq_true rfl⟩ dX3_between_66 ?_
    have mb3 := minI_b ((x % 100) + (y % 100)) ((2 * (sI S (q 1) 1 + 1)) - ((x % 100) + (y % 100)))
    refine KIadd C dX3_between_69 ?_
    refine KIret C rfl rfl (by
        refine ⟨?_, rfl⟩
        unfold dst
        first | rw [if_pos (by assumption)] | rw [if_neg (by assumption)]) (by decide) (by decide) dX3_between_70
  · refine KIload_n C dX3_between_30 rfl 2 rfl ?_
    refine KIload C dX3_between_31 1 rfl ?_
    refine KIsub C dX3_between_33 ?_
    refine KMabs (z := absI ((x % 100) - (y % 100))) C ⟨by omega, by omega⟩ rfl u_ml_RX3_34 u_st_yJ9_abs_0f7a4 u_in_RJ9 u_co_yJ9_abs_0f7a4 ⟨Nat.le_of_ble_eq_true rfl, Nat.le_of_ble_eq_true rfl⟩ ⟨Nat.le_of_ble_eq_true rfl, Nat.le_of_ble_eq_true rfl⟩ dX3_between_34 ?_
    have mb4 := absI_b ((x % 100) - (y % 100))
    refine KIret C rfl rfl (by
        refine ⟨?_, rfl⟩
        unfold dst
        first | rw [if_pos (by assumption)] | rw [if_neg (by assumption)]) (by decide) (by decide) dX3_between_37
def P_X3_move (S : Sto) (q : Nat → Nat) (a : Int) (x : Int) : Option Value → Sto → Prop := fun v u => v = some (.int (iI (sI S (q 6) a))) ∧ u = uI S (q 6) a x
set_option maxRecDepth 100000 in
set_option maxHeartbeats 4000000 in
theorem ct_X3_move (l : Launch) (g : GG) (S : Sto) (q : Nat → Nat) (a : Int) (x : Int) (hT : Top S q) (ha : 0 ≤ a ∧ a < 20) (hx : inR x) : MetS l g yX3_move cX3_move 4 (some FieldType.int) 1 0 0 [.ref (q 1), .int (iI a), .int (iI x)] S (P_X3_move S q a x) := by
  refine MetS.of (own := RX3) (lv := [(0, .ref (q 1)), (1, .int (iI a)), (2, .int (iI x))]) (by decide) rfl (Nat.le_of_ble_eq_true rfl) rfl ?_
  intro p e s m args below meth c C hin
  refine KRg (fun hR => ?_)
  obtain ⟨hx1, hx2⟩ := hx
  refine KAload_n C dX3_move_0 rfl 0 rfl ?_
  refine KGetR C ul_X3 rfl (by decide) 3 3 rfl (by decide) rfl u_fl_RX3_9 (hT.at0 1 4) (b := q 6) (hT.ptr 1 3 6) dX3_move_1 (fun _ h => h) ?_
  refine KIload_n C dX3_move_4 rfl 1 rfl ?_
  refine KIald  (v := sI S (q 6) a) C 20 (hT.at0 6 20) (hT.ln0 6 20) ⟨by omega, by omega⟩ (by omega) rfl dX3_move_5 ?_
  have rb1 := hR.b (q 6) a (v := sI S (q 6) a) rfl
  refine KIstore_n (lv' := [(3, .int (iI (sI S (q 6) a))), (0, .ref (q 1)), (1, .int (iI a)), (2, .int (iI x))]) C dX3_move_6 rfl (by decide) rfl ?_
  refine KAload_n C dX3_move_7 rfl 1 rfl ?_
  refine KGetR C ul_X3 rfl (by decide) 3 3 rfl (by decide) rfl u_fl_RX3_9 (hT.at0 1 4) (b := q 6) (hT.ptr 1 3 6) dX3_move_8 (fun _ h => h) ?_
  refine KIload_n C dX3_move_11 rfl 2 rfl ?_
  refine KIload_n C dX3_move_12 rfl 3 rfl ?_
  refine KIast C 20 (hT.at0 6 20) (hT.ln0 6 20) ⟨by omega, by omega⟩ (by omega) ⟨by omega, by omega⟩ dX3_move_13 ?_
  refine KIload_n C dX3_move_14 rfl 0 rfl ?_
  refine KIret C rfl rfl (by
      exact ⟨rfl, rfl⟩) (by decide) (by decide) dX3_move_15
end
section
/-! the last part -/
theorem zz_1 : True := trivial
end
