-- ===== PART A: goes FIRST, ahead of the names: the tables' words, and 'selects' of the private methods out of them =====
/-- a private method of a class that the tables say can be made, by its rows of tables_1 -/
def lw_okq (q : MethodName × Nat) : Prop := (q.1.cls ≠ "java/lang/invoke/MethodHandle" ∧ q.1.cls ≠ "java/lang/invoke/VarHandle") ∧ Cond.instantiable q.1.cls q.2 ∈ tables_1 ∧ Cond.privateMethod q.1 ∈ tables_1 ∧ Cond.instanceMethod q.1 ∈ tables_1
theorem lw_p0 : lw_okq (⟨"HueAndCry$Land", "shorten", "(III)Z"⟩, 10) := ⟨⟨by decide +kernel, by decide +kernel⟩, List.mem_of_getElem? (i := 45) (by decide +kernel), List.mem_of_getElem? (i := 380) (by decide +kernel), List.mem_of_getElem? (i := 381) (by decide +kernel)⟩
theorem lw_p1 : lw_okq (⟨"HueAndCry", "canAsk", "(II)Z"⟩, 8) := ⟨⟨by decide +kernel, by decide +kernel⟩, List.mem_of_getElem? (i := 25) (by decide +kernel), List.mem_of_getElem? (i := 411) (by decide +kernel), List.mem_of_getElem? (i := 412) (by decide +kernel)⟩
theorem lw_p2 : lw_okq (⟨"HueAndCry$Chase", "heedOne", "(I)J"⟩, 6) := ⟨⟨by decide +kernel, by decide +kernel⟩, List.mem_of_getElem? (i := 39) (by decide +kernel), List.mem_of_getElem? (i := 424) (by decide +kernel), List.mem_of_getElem? (i := 425) (by decide +kernel)⟩
theorem lw_p3 : lw_okq (⟨"HueAndCry$Chase", "cameAt", "(I)I"⟩, 6) := ⟨⟨by decide +kernel, by decide +kernel⟩, List.mem_of_getElem? (i := 39) (by decide +kernel), List.mem_of_getElem? (i := 433) (by decide +kernel), List.mem_of_getElem? (i := 434) (by decide +kernel)⟩
theorem lw_p4 : lw_okq (⟨"HueAndCry$Chase", "arrivalsBy", "(II)I"⟩, 6) := ⟨⟨by decide +kernel, by decide +kernel⟩, List.mem_of_getElem? (i := 39) (by decide +kernel), List.mem_of_getElem? (i := 442) (by decide +kernel), List.mem_of_getElem? (i := 443) (by decide +kernel)⟩
theorem lw_p5 : lw_okq (⟨"HueAndCry$Chase", "isClear", "(III)Z"⟩, 6) := ⟨⟨by decide +kernel, by decide +kernel⟩, List.mem_of_getElem? (i := 39) (by decide +kernel), List.mem_of_getElem? (i := 446) (by decide +kernel), List.mem_of_getElem? (i := 447) (by decide +kernel)⟩
theorem lw_p6 : lw_okq (⟨"HueAndCry$Chase", "lookOnward", "(I)V"⟩, 6) := ⟨⟨by decide +kernel, by decide +kernel⟩, List.mem_of_getElem? (i := 39) (by decide +kernel), List.mem_of_getElem? (i := 465) (by decide +kernel), List.mem_of_getElem? (i := 466) (by decide +kernel)⟩
theorem lw_p7 : lw_okq (⟨"HueAndCry$Chase", "goesOnAt", "(I)I"⟩, 6) := ⟨⟨by decide +kernel, by decide +kernel⟩, List.mem_of_getElem? (i := 39) (by decide +kernel), List.mem_of_getElem? (i := 469) (by decide +kernel), List.mem_of_getElem? (i := 470) (by decide +kernel)⟩
theorem lw_p8 : lw_okq (⟨"HueAndCry$Chase", "departuresBy", "(II)I"⟩, 6) := ⟨⟨by decide +kernel, by decide +kernel⟩, List.mem_of_getElem? (i := 39) (by decide +kernel), List.mem_of_getElem? (i := 473) (by decide +kernel), List.mem_of_getElem? (i := 474) (by decide +kernel)⟩
theorem lw_p9 : lw_okq (⟨"HueAndCry$Chase", "cameBy", "(II)I"⟩, 6) := ⟨⟨by decide +kernel, by decide +kernel⟩, List.mem_of_getElem? (i := 39) (by decide +kernel), List.mem_of_getElem? (i := 505) (by decide +kernel), List.mem_of_getElem? (i := 506) (by decide +kernel)⟩
theorem lw_p10 : lw_okq (⟨"HueAndCry$Chase", "mends", "(I)Z"⟩, 6) := ⟨⟨by decide +kernel, by decide +kernel⟩, List.mem_of_getElem? (i := 39) (by decide +kernel), List.mem_of_getElem? (i := 530) (by decide +kernel), List.mem_of_getElem? (i := 531) (by decide +kernel)⟩
theorem lw_p11 : lw_okq (⟨"HueAndCry$Chase", "isUnderWay", "(I)Z"⟩, 6) := ⟨⟨by decide +kernel, by decide +kernel⟩, List.mem_of_getElem? (i := 39) (by decide +kernel), List.mem_of_getElem? (i := 534) (by decide +kernel), List.mem_of_getElem? (i := 535) (by decide +kernel)⟩
theorem lw_p12 : lw_okq (⟨"HueAndCry$Patrol", "pickLowest", "(I)V"⟩, 7) := ⟨⟨by decide +kernel, by decide +kernel⟩, List.mem_of_getElem? (i := 33) (by decide +kernel), List.mem_of_getElem? (i := 551) (by decide +kernel), List.mem_of_getElem? (i := 552) (by decide +kernel)⟩
theorem lw_p13 : lw_okq (⟨"HueAndCry$Patrol", "picked", "(I)I"⟩, 7) := ⟨⟨by decide +kernel, by decide +kernel⟩, List.mem_of_getElem? (i := 33) (by decide +kernel), List.mem_of_getElem? (i := 555) (by decide +kernel), List.mem_of_getElem? (i := 556) (by decide +kernel)⟩
theorem lw_p14 : lw_okq (⟨"HueAndCry$Patrol", "misses", "(I)Z"⟩, 7) := ⟨⟨by decide +kernel, by decide +kernel⟩, List.mem_of_getElem? (i := 33) (by decide +kernel), List.mem_of_getElem? (i := 560) (by decide +kernel), List.mem_of_getElem? (i := 561) (by decide +kernel)⟩
theorem lw_p15 : lw_okq (⟨"HueAndCry$Patrol", "escapes", "(I)Z"⟩, 7) := ⟨⟨by decide +kernel, by decide +kernel⟩, List.mem_of_getElem? (i := 33) (by decide +kernel), List.mem_of_getElem? (i := 564) (by decide +kernel), List.mem_of_getElem? (i := 565) (by decide +kernel)⟩
def lw_privs_1 : List (MethodName × Nat) := [(⟨"HueAndCry$Land", "shorten", "(III)Z"⟩, 10), (⟨"HueAndCry", "canAsk", "(II)Z"⟩, 8), (⟨"HueAndCry$Chase", "heedOne", "(I)J"⟩, 6), (⟨"HueAndCry$Chase", "cameAt", "(I)I"⟩, 6), (⟨"HueAndCry$Chase", "arrivalsBy", "(II)I"⟩, 6), (⟨"HueAndCry$Chase", "isClear", "(III)Z"⟩, 6), (⟨"HueAndCry$Chase", "lookOnward", "(I)V"⟩, 6), (⟨"HueAndCry$Chase", "goesOnAt", "(I)I"⟩, 6), (⟨"HueAndCry$Chase", "departuresBy", "(II)I"⟩, 6), (⟨"HueAndCry$Chase", "cameBy", "(II)I"⟩, 6), (⟨"HueAndCry$Chase", "mends", "(I)Z"⟩, 6), (⟨"HueAndCry$Chase", "isUnderWay", "(I)Z"⟩, 6), (⟨"HueAndCry$Patrol", "pickLowest", "(I)V"⟩, 7), (⟨"HueAndCry$Patrol", "picked", "(I)I"⟩, 7), (⟨"HueAndCry$Patrol", "misses", "(I)Z"⟩, 7), (⟨"HueAndCry$Patrol", "escapes", "(I)Z"⟩, 7)]
theorem lw_r1 : ∀ q ∈ lw_privs_1, lw_okq q := List.forall_mem_cons.mpr ⟨lw_p0, List.forall_mem_cons.mpr ⟨lw_p1, List.forall_mem_cons.mpr ⟨lw_p2, List.forall_mem_cons.mpr ⟨lw_p3, List.forall_mem_cons.mpr ⟨lw_p4, List.forall_mem_cons.mpr ⟨lw_p5, List.forall_mem_cons.mpr ⟨lw_p6, List.forall_mem_cons.mpr ⟨lw_p7, List.forall_mem_cons.mpr ⟨lw_p8, List.forall_mem_cons.mpr ⟨lw_p9, List.forall_mem_cons.mpr ⟨lw_p10, List.forall_mem_cons.mpr ⟨lw_p11, List.forall_mem_cons.mpr ⟨lw_p12, List.forall_mem_cons.mpr ⟨lw_p13, List.forall_mem_cons.mpr ⟨lw_p14, List.forall_mem_cons.mpr ⟨lw_p15, fun _ h => absurd h List.not_mem_nil⟩⟩⟩⟩⟩⟩⟩⟩⟩⟩⟩⟩⟩⟩⟩⟩
theorem lw_p16 : lw_okq (⟨"HueAndCry$Patrol", "pickNext", "(I)Z"⟩, 7) := ⟨⟨by decide +kernel, by decide +kernel⟩, List.mem_of_getElem? (i := 33) (by decide +kernel), List.mem_of_getElem? (i := 576) (by decide +kernel), List.mem_of_getElem? (i := 577) (by decide +kernel)⟩
theorem lw_p17 : lw_okq (⟨"HueAndCry$Act", "takes", "(I)Z"⟩, 7) := ⟨⟨by decide +kernel, by decide +kernel⟩, List.mem_of_getElem? (i := 227) (by decide +kernel), List.mem_of_getElem? (i := 676) (by decide +kernel), List.mem_of_getElem? (i := 677) (by decide +kernel)⟩
theorem lw_p18 : lw_okq (⟨"HueAndCry$Act", "takesLetter", "(I)Z"⟩, 7) := ⟨⟨by decide +kernel, by decide +kernel⟩, List.mem_of_getElem? (i := 227) (by decide +kernel), List.mem_of_getElem? (i := 680) (by decide +kernel), List.mem_of_getElem? (i := 681) (by decide +kernel)⟩
theorem lw_p19 : lw_okq (⟨"HueAndCry$Act", "takesComparison", "(I)Z"⟩, 7) := ⟨⟨by decide +kernel, by decide +kernel⟩, List.mem_of_getElem? (i := 227) (by decide +kernel), List.mem_of_getElem? (i := 684) (by decide +kernel), List.mem_of_getElem? (i := 685) (by decide +kernel)⟩
theorem lw_p20 : lw_okq (⟨"HueAndCry$Act", "takesInNumber", "(I)Z"⟩, 7) := ⟨⟨by decide +kernel, by decide +kernel⟩, List.mem_of_getElem? (i := 227) (by decide +kernel), List.mem_of_getElem? (i := 688) (by decide +kernel), List.mem_of_getElem? (i := 689) (by decide +kernel)⟩
theorem lw_p21 : lw_okq (⟨"HueAndCry$Act", "takesInWeight", "(I)Z"⟩, 7) := ⟨⟨by decide +kernel, by decide +kernel⟩, List.mem_of_getElem? (i := 227) (by decide +kernel), List.mem_of_getElem? (i := 695) (by decide +kernel), List.mem_of_getElem? (i := 696) (by decide +kernel)⟩
theorem lw_p22 : lw_okq (⟨"java/lang/Throwable", "fillInStackTrace", "(I)Ljava/lang/Throwable;"⟩, 6) := ⟨⟨by decide +kernel, by decide +kernel⟩, List.mem_of_getElem? (i := 786) (by decide +kernel), List.mem_of_getElem? (i := 784) (by decide +kernel), List.mem_of_getElem? (i := 785) (by decide +kernel)⟩
theorem lw_p23 : lw_okq (⟨"HueAndCryModel", "isParish", "(I)Z"⟩, 39) := ⟨⟨by decide +kernel, by decide +kernel⟩, List.mem_of_getElem? (i := 816) (by decide +kernel), List.mem_of_getElem? (i := 956) (by decide +kernel), List.mem_of_getElem? (i := 957) (by decide +kernel)⟩
theorem lw_p24 : lw_okq (⟨"HueAndCryModel", "fact", "(IZII)I"⟩, 39) := ⟨⟨by decide +kernel, by decide +kernel⟩, List.mem_of_getElem? (i := 816) (by decide +kernel), List.mem_of_getElem? (i := 987) (by decide +kernel), List.mem_of_getElem? (i := 988) (by decide +kernel)⟩
theorem lw_p25 : lw_okq (⟨"HueAndCryModel", "isAsked", "(II)Z"⟩, 39) := ⟨⟨by decide +kernel, by decide +kernel⟩, List.mem_of_getElem? (i := 816) (by decide +kernel), List.mem_of_getElem? (i := 1011) (by decide +kernel), List.mem_of_getElem? (i := 1012) (by decide +kernel)⟩
theorem lw_p26 : lw_okq (⟨"HueAndCryModel", "walks", "(III)V"⟩, 39) := ⟨⟨by decide +kernel, by decide +kernel⟩, List.mem_of_getElem? (i := 816) (by decide +kernel), List.mem_of_getElem? (i := 1015) (by decide +kernel), List.mem_of_getElem? (i := 1016) (by decide +kernel)⟩
theorem lw_p27 : lw_okq (⟨"HueAndCryModel", "mayCome", "(IIII)Z"⟩, 39) := ⟨⟨by decide +kernel, by decide +kernel⟩, List.mem_of_getElem? (i := 816) (by decide +kernel), List.mem_of_getElem? (i := 1022) (by decide +kernel), List.mem_of_getElem? (i := 1023) (by decide +kernel)⟩
theorem lw_p28 : lw_okq (⟨"HueAndCryModel", "other", "(II)I"⟩, 39) := ⟨⟨by decide +kernel, by decide +kernel⟩, List.mem_of_getElem? (i := 816) (by decide +kernel), List.mem_of_getElem? (i := 1026) (by decide +kernel), List.mem_of_getElem? (i := 1027) (by decide +kernel)⟩
theorem lw_p29 : lw_okq (⟨"HueAndCryModel", "isClear", "(III)Z"⟩, 39) := ⟨⟨by decide +kernel, by decide +kernel⟩, List.mem_of_getElem? (i := 816) (by decide +kernel), List.mem_of_getElem? (i := 1030) (by decide +kernel), List.mem_of_getElem? (i := 1031) (by decide +kernel)⟩
theorem lw_p30 : lw_okq (⟨"HueAndCryModel", "letsIn", "(II)Z"⟩, 39) := ⟨⟨by decide +kernel, by decide +kernel⟩, List.mem_of_getElem? (i := 816) (by decide +kernel), List.mem_of_getElem? (i := 1034) (by decide +kernel), List.mem_of_getElem? (i := 1035) (by decide +kernel)⟩
theorem lw_p31 : lw_okq (⟨"HueAndCryModel", "walksOn", "()V"⟩, 39) := ⟨⟨by decide +kernel, by decide +kernel⟩, List.mem_of_getElem? (i := 816) (by decide +kernel), List.mem_of_getElem? (i := 1042) (by decide +kernel), List.mem_of_getElem? (i := 1043) (by decide +kernel)⟩
def lw_privs_2 : List (MethodName × Nat) := [(⟨"HueAndCry$Patrol", "pickNext", "(I)Z"⟩, 7), (⟨"HueAndCry$Act", "takes", "(I)Z"⟩, 7), (⟨"HueAndCry$Act", "takesLetter", "(I)Z"⟩, 7), (⟨"HueAndCry$Act", "takesComparison", "(I)Z"⟩, 7), (⟨"HueAndCry$Act", "takesInNumber", "(I)Z"⟩, 7), (⟨"HueAndCry$Act", "takesInWeight", "(I)Z"⟩, 7), (⟨"java/lang/Throwable", "fillInStackTrace", "(I)Ljava/lang/Throwable;"⟩, 6), (⟨"HueAndCryModel", "isParish", "(I)Z"⟩, 39), (⟨"HueAndCryModel", "fact", "(IZII)I"⟩, 39), (⟨"HueAndCryModel", "isAsked", "(II)Z"⟩, 39), (⟨"HueAndCryModel", "walks", "(III)V"⟩, 39), (⟨"HueAndCryModel", "mayCome", "(IIII)Z"⟩, 39), (⟨"HueAndCryModel", "other", "(II)I"⟩, 39), (⟨"HueAndCryModel", "isClear", "(III)Z"⟩, 39), (⟨"HueAndCryModel", "letsIn", "(II)Z"⟩, 39), (⟨"HueAndCryModel", "walksOn", "()V"⟩, 39)]
theorem lw_r2 : ∀ q ∈ lw_privs_2, lw_okq q := List.forall_mem_cons.mpr ⟨lw_p16, List.forall_mem_cons.mpr ⟨lw_p17, List.forall_mem_cons.mpr ⟨lw_p18, List.forall_mem_cons.mpr ⟨lw_p19, List.forall_mem_cons.mpr ⟨lw_p20, List.forall_mem_cons.mpr ⟨lw_p21, List.forall_mem_cons.mpr ⟨lw_p22, List.forall_mem_cons.mpr ⟨lw_p23, List.forall_mem_cons.mpr ⟨lw_p24, List.forall_mem_cons.mpr ⟨lw_p25, List.forall_mem_cons.mpr ⟨lw_p26, List.forall_mem_cons.mpr ⟨lw_p27, List.forall_mem_cons.mpr ⟨lw_p28, List.forall_mem_cons.mpr ⟨lw_p29, List.forall_mem_cons.mpr ⟨lw_p30, List.forall_mem_cons.mpr ⟨lw_p31, fun _ h => absurd h List.not_mem_nil⟩⟩⟩⟩⟩⟩⟩⟩⟩⟩⟩⟩⟩⟩⟩⟩
theorem lw_p32 : lw_okq (⟨"HueAndCryModel", "mayGo", "(III)Z"⟩, 39) := ⟨⟨by decide +kernel, by decide +kernel⟩, List.mem_of_getElem? (i := 816) (by decide +kernel), List.mem_of_getElem? (i := 1046) (by decide +kernel), List.mem_of_getElem? (i := 1047) (by decide +kernel)⟩
theorem lw_p33 : lw_okq (⟨"HueAndCryModel", "agrees", "()Z"⟩, 39) := ⟨⟨by decide +kernel, by decide +kernel⟩, List.mem_of_getElem? (i := 816) (by decide +kernel), List.mem_of_getElem? (i := 1066) (by decide +kernel), List.mem_of_getElem? (i := 1067) (by decide +kernel)⟩
theorem lw_p34 : lw_okq (⟨"HueAndCryModel", "watchers", "(IIIII)I"⟩, 39) := ⟨⟨by decide +kernel, by decide +kernel⟩, List.mem_of_getElem? (i := 816) (by decide +kernel), List.mem_of_getElem? (i := 1075) (by decide +kernel), List.mem_of_getElem? (i := 1076) (by decide +kernel)⟩
theorem lw_p35 : lw_okq (⟨"HueAndCryModel", "getsOut", "(III)Z"⟩, 39) := ⟨⟨by decide +kernel, by decide +kernel⟩, List.mem_of_getElem? (i := 816) (by decide +kernel), List.mem_of_getElem? (i := 1079) (by decide +kernel), List.mem_of_getElem? (i := 1080) (by decide +kernel)⟩
theorem lw_p36 : lw_okq (⟨"HueAndCryModel", "unfit", "(I)I"⟩, 39) := ⟨⟨by decide +kernel, by decide +kernel⟩, List.mem_of_getElem? (i := 816) (by decide +kernel), List.mem_of_getElem? (i := 1101) (by decide +kernel), List.mem_of_getElem? (i := 1102) (by decide +kernel)⟩
theorem lw_p37 : lw_okq (⟨"HueAndCryModel", "reads", "(I)Z"⟩, 39) := ⟨⟨by decide +kernel, by decide +kernel⟩, List.mem_of_getElem? (i := 816) (by decide +kernel), List.mem_of_getElem? (i := 1126) (by decide +kernel), List.mem_of_getElem? (i := 1127) (by decide +kernel)⟩
theorem lw_p38 : lw_okq (⟨"HueAndCryModel", "ask", "(I)Z"⟩, 39) := ⟨⟨by decide +kernel, by decide +kernel⟩, List.mem_of_getElem? (i := 816) (by decide +kernel), List.mem_of_getElem? (i := 1130) (by decide +kernel), List.mem_of_getElem? (i := 1131) (by decide +kernel)⟩
theorem lw_p39 : lw_okq (⟨"HueAndCryModel", "isSign", "(ILjava/lang/String;)Z"⟩, 39) := ⟨⟨by decide +kernel, by decide +kernel⟩, List.mem_of_getElem? (i := 816) (by decide +kernel), List.mem_of_getElem? (i := 1135) (by decide +kernel), List.mem_of_getElem? (i := 1136) (by decide +kernel)⟩
theorem lw_p40 : lw_okq (⟨"HueAndCryModel", "digits", "(I)Z"⟩, 39) := ⟨⟨by decide +kernel, by decide +kernel⟩, List.mem_of_getElem? (i := 816) (by decide +kernel), List.mem_of_getElem? (i := 1222) (by decide +kernel), List.mem_of_getElem? (i := 1223) (by decide +kernel)⟩
theorem lw_p41 : lw_okq (⟨"HueAndCryModel", "weightOf", "(I)I"⟩, 39) := ⟨⟨by decide +kernel, by decide +kernel⟩, List.mem_of_getElem? (i := 816) (by decide +kernel), List.mem_of_getElem? (i := 1241) (by decide +kernel), List.mem_of_getElem? (i := 1242) (by decide +kernel)⟩
theorem lw_p42 : lw_okq (⟨"HueAndCryModel", "holds", "(II)Z"⟩, 39) := ⟨⟨by decide +kernel, by decide +kernel⟩, List.mem_of_getElem? (i := 816) (by decide +kernel), List.mem_of_getElem? (i := 1245) (by decide +kernel), List.mem_of_getElem? (i := 1246) (by decide +kernel)⟩
theorem lw_p43 : lw_okq (⟨"HueAndCryModel", "refuse", "()I"⟩, 39) := ⟨⟨by decide +kernel, by decide +kernel⟩, List.mem_of_getElem? (i := 816) (by decide +kernel), List.mem_of_getElem? (i := 1262) (by decide +kernel), List.mem_of_getElem? (i := 1263) (by decide +kernel)⟩
def lw_privs_3 : List (MethodName × Nat) := [(⟨"HueAndCryModel", "mayGo", "(III)Z"⟩, 39), (⟨"HueAndCryModel", "agrees", "()Z"⟩, 39), (⟨"HueAndCryModel", "watchers", "(IIIII)I"⟩, 39), (⟨"HueAndCryModel", "getsOut", "(III)Z"⟩, 39), (⟨"HueAndCryModel", "unfit", "(I)I"⟩, 39), (⟨"HueAndCryModel", "reads", "(I)Z"⟩, 39), (⟨"HueAndCryModel", "ask", "(I)Z"⟩, 39), (⟨"HueAndCryModel", "isSign", "(ILjava/lang/String;)Z"⟩, 39), (⟨"HueAndCryModel", "digits", "(I)Z"⟩, 39), (⟨"HueAndCryModel", "weightOf", "(I)I"⟩, 39), (⟨"HueAndCryModel", "holds", "(II)Z"⟩, 39), (⟨"HueAndCryModel", "refuse", "()I"⟩, 39)]
theorem lw_r3 : ∀ q ∈ lw_privs_3, lw_okq q := List.forall_mem_cons.mpr ⟨lw_p32, List.forall_mem_cons.mpr ⟨lw_p33, List.forall_mem_cons.mpr ⟨lw_p34, List.forall_mem_cons.mpr ⟨lw_p35, List.forall_mem_cons.mpr ⟨lw_p36, List.forall_mem_cons.mpr ⟨lw_p37, List.forall_mem_cons.mpr ⟨lw_p38, List.forall_mem_cons.mpr ⟨lw_p39, List.forall_mem_cons.mpr ⟨lw_p40, List.forall_mem_cons.mpr ⟨lw_p41, List.forall_mem_cons.mpr ⟨lw_p42, List.forall_mem_cons.mpr ⟨lw_p43, fun _ h => absurd h List.not_mem_nil⟩⟩⟩⟩⟩⟩⟩⟩⟩⟩⟩⟩
def lw_privs : List (MethodName × Nat) := lw_privs_1 ++ (lw_privs_2 ++ (lw_privs_3))
def lw_tbl : List Cond := k2_sels lw_privs ++ tables_1
theorem lw_privs_ok : ∀ q ∈ lw_privs, lw_okq q := by
  show ∀ q ∈ lw_privs_1 ++ (lw_privs_2 ++ (lw_privs_3)), lw_okq q
  exact List.forall_mem_append.mpr ⟨lw_r1, List.forall_mem_append.mpr ⟨lw_r2, lw_r3⟩⟩

def RX0 : String := "HueAndCry$Act"
def TX0 : u_T := fun k => match k with
  | 0 => ("HueAndCry$Act", "letters", "[I", true)
  | 1 => ("HueAndCry$Act", "comparisons", "[I", true)
  | 2 => ("HueAndCry$Act", "numbers", "[I", true)
  | 3 => ("HueAndCry$Act", "asks", "I", false)
  | 4 => ("HueAndCry$Act", "weight", "I", false)
  | 5 => ("HueAndCry$Act", "state", "I", false)
  | _ => ("HueAndCry$Act", "digits", "I", false)
def tyX0 : Nat → FieldType := fun k => match k with
  | 0 => .array .int
  | 1 => .array .int
  | 2 => .array .int
  | 3 => .int
  | 4 => .int
  | 5 => .int
  | _ => .int
abbrev wsX00 : List Cond := u_ws RX0 TX0 7
theorem nmX0 : ∀ a, a < 7 → ∀ b, b < 7 → a ≠ b → (TX0 a).2.1 ≠ (TX0 b).2.1 := by decide +kernel
theorem tyX0_ok : ∀ k, k < 7 → parseFieldDescriptor (TX0 k).2.2.1 = some (tyX0 k) := by decide +kernel
abbrev cX0_init : ByteArray := prog_2_method_1_code
def yX0_init : MethodName := ⟨RX0, "<init>", "()V"⟩
abbrev cX0_read : ByteArray := prog_2_method_2_code
def yX0_read : MethodName := ⟨RX0, "read", "(LHueAndCry$Tape;)I"⟩
abbrev cX0_takes : ByteArray := prog_2_method_3_code
def yX0_takes : MethodName := ⟨RX0, "takes", "(I)Z"⟩
abbrev cX0_takesLetter : ByteArray := prog_2_method_4_code
def yX0_takesLetter : MethodName := ⟨RX0, "takesLetter", "(I)Z"⟩
abbrev cX0_takesComparison : ByteArray := prog_2_method_5_code
def yX0_takesComparison : MethodName := ⟨RX0, "takesComparison", "(I)Z"⟩
abbrev cX0_takesInNumber : ByteArray := prog_2_method_6_code
def yX0_takesInNumber : MethodName := ⟨RX0, "takesInNumber", "(I)Z"⟩
abbrev cX0_takesInWeight : ByteArray := prog_2_method_7_code
def yX0_takesInWeight : MethodName := ⟨RX0, "takesInWeight", "(I)Z"⟩
abbrev cX0_isDigit : ByteArray := prog_2_method_8_code
def yX0_isDigit : MethodName := ⟨RX0, "isDigit", "(I)Z"⟩
abbrev cX0_isFor : ByteArray := prog_2_method_9_code
def yX0_isFor : MethodName := ⟨RX0, "isFor", "(III)Z"⟩
abbrev cX0_isSo : ByteArray := prog_2_method_10_code
def yX0_isSo : MethodName := ⟨RX0, "isSo", "(III)Z"⟩
def RX1 : String := "HueAndCry$Chase"
def TX1 : u_T := fun k => match k with
  | 0 => ("HueAndCry$Chase", "land", "LHueAndCry$Land;", true)
  | 1 => ("HueAndCry$Chase", "facts", "LHueAndCry$Facts;", true)
  | 2 => ("HueAndCry$Chase", "allowed", "[I", true)
  | 3 => ("HueAndCry$Chase", "barred", "[J", true)
  | 4 => ("HueAndCry$Chase", "reached", "[I", true)
  | _ => ("HueAndCry$Chase", "onward", "[I", true)
def tyX1 : Nat → FieldType := fun k => match k with
  | 0 => .object "HueAndCry$Land"
  | 1 => .object "HueAndCry$Facts"
  | 2 => .array .int
  | 3 => .array .long
  | 4 => .array .int
  | _ => .array .int
abbrev wsX10 : List Cond := u_ws RX1 TX1 6
theorem nmX1 : ∀ a, a < 6 → ∀ b, b < 6 → a ≠ b → (TX1 a).2.1 ≠ (TX1 b).2.1 := by decide +kernel
theorem tyX1_ok : ∀ k, k < 6 → parseFieldDescriptor (TX1 k).2.2.1 = some (tyX1 k) := by decide +kernel
abbrev cX1_init : ByteArray := prog_3_method_1_code
def yX1_init : MethodName := ⟨RX1, "<init>", "()V"⟩
abbrev cX1_mayBe : ByteArray := prog_3_method_2_code
def yX1_mayBe : MethodName := ⟨RX1, "mayBe", "(I)I"⟩
abbrev cX1_mayHaveBeen : ByteArray := prog_3_method_3_code
def yX1_mayHaveBeen : MethodName := ⟨RX1, "mayHaveBeen", "(I)I"⟩
abbrev cX1_firstHour : ByteArray := prog_3_method_4_code
def yX1_firstHour : MethodName := ⟨RX1, "firstHour", "(I)I"⟩
abbrev cX1_someAgrees : ByteArray := prog_3_method_5_code
def yX1_someAgrees : MethodName := ⟨RX1, "someAgrees", "()Z"⟩
abbrev cX1_menders : ByteArray := prog_3_method_6_code
def yX1_menders : MethodName := ⟨RX1, "menders", "()J"⟩
abbrev cX1_mends : ByteArray := prog_3_method_7_code
def yX1_mends : MethodName := ⟨RX1, "mends", "(I)Z"⟩
abbrev cX1_isUnderWay : ByteArray := prog_3_method_8_code
def yX1_isUnderWay : MethodName := ⟨RX1, "isUnderWay", "(I)Z"⟩
abbrev cX1_heed : ByteArray := prog_3_method_9_code
def yX1_heed : MethodName := ⟨RX1, "heed", "(II)V"⟩
abbrev cX1_heedOne : ByteArray := prog_3_method_10_code
def yX1_heedOne : MethodName := ⟨RX1, "heedOne", "(I)J"⟩
abbrev cX1_spread : ByteArray := prog_3_method_11_code
def yX1_spread : MethodName := ⟨RX1, "spread", "(III)V"⟩
abbrev cX1_cameAt : ByteArray := prog_3_method_12_code
def yX1_cameAt : MethodName := ⟨RX1, "cameAt", "(I)I"⟩
abbrev cX1_arrivalsBy : ByteArray := prog_3_method_13_code
def yX1_arrivalsBy : MethodName := ⟨RX1, "arrivalsBy", "(II)I"⟩
abbrev cX1_lookOnward : ByteArray := prog_3_method_14_code
def yX1_lookOnward : MethodName := ⟨RX1, "lookOnward", "(I)V"⟩
abbrev cX1_goesOnAt : ByteArray := prog_3_method_15_code
def yX1_goesOnAt : MethodName := ⟨RX1, "goesOnAt", "(I)I"⟩
abbrev cX1_departuresBy : ByteArray := prog_3_method_16_code
def yX1_departuresBy : MethodName := ⟨RX1, "departuresBy", "(II)I"⟩
abbrev cX1_isClear : ByteArray := prog_3_method_17_code
def yX1_isClear : MethodName := ⟨RX1, "isClear", "(III)Z"⟩
abbrev cX1_cameBy : ByteArray := prog_3_method_18_code
def yX1_cameBy : MethodName := ⟨RX1, "cameBy", "(II)I"⟩
abbrev cX1_tellWay : ByteArray := prog_3_method_19_code
def yX1_tellWay : MethodName := ⟨RX1, "tellWay", "(IILHueAndCry$Row;)V"⟩
abbrev cX1_wayBits : ByteArray := prog_3_method_20_code
def yX1_wayBits : MethodName := ⟨RX1, "wayBits", "(III)I"⟩
def RX2 : String := "HueAndCry$Court"
def TX2 : u_T := fun k => match k with
  | 0 => ("HueAndCry$Court", "book", "[LHueAndCry$Act;", true)
  | 1 => ("HueAndCry$Court", "counties", "[I", true)
  | 2 => ("HueAndCry$Court", "hours", "[I", true)
  | 3 => ("HueAndCry$Court", "weights", "[I", true)
  | 4 => ("HueAndCry$Court", "acts", "I", false)
  | _ => ("HueAndCry$Court", "claims", "I", false)
def tyX2 : Nat → FieldType := fun k => match k with
  | 0 => .array (.object "HueAndCry$Act")
  | 1 => .array .int
  | 2 => .array .int
  | 3 => .array .int
  | 4 => .int
  | _ => .int
abbrev wsX20 : List Cond := u_ws RX2 TX2 6
theorem nmX2 : ∀ a, a < 6 → ∀ b, b < 6 → a ≠ b → (TX2 a).2.1 ≠ (TX2 b).2.1 := by decide +kernel
theorem tyX2_ok : ∀ k, k < 6 → parseFieldDescriptor (TX2 k).2.2.1 = some (tyX2 k) := by decide +kernel
abbrev cX2_init : ByteArray := prog_4_method_1_code
def yX2_init : MethodName := ⟨RX2, "<init>", "()V"⟩
abbrev cX2_enact : ByteArray := prog_4_method_2_code
def yX2_enact : MethodName := ⟨RX2, "enact", "(LHueAndCry$Tape;)I"⟩
abbrev cX2_lodge : ByteArray := prog_4_method_3_code
def yX2_lodge : MethodName := ⟨RX2, "lodge", "(II)I"⟩
abbrev cX2_weigh : ByteArray := prog_4_method_4_code
def yX2_weigh : MethodName := ⟨RX2, "weigh", "(I)I"⟩
abbrev cX2_share : ByteArray := prog_4_method_5_code
def yX2_share : MethodName := ⟨RX2, "share", "(ILHueAndCry$Row;)I"⟩
def RX3 : String := "HueAndCry$Crowd"
def TX3 : u_T := fun k => match k with
  | 0 => ("HueAndCry$Crowd", "description", "LHueAndCry$Description;", true)
  | 1 => ("HueAndCry$Crowd", "homes", "[I", true)
  | 2 => ("HueAndCry$Crowd", "looks", "[I", true)
  | _ => ("HueAndCry$Crowd", "size", "I", false)
def tyX3 : Nat → FieldType := fun k => match k with
  | 0 => .object "HueAndCry$Description"
  | 1 => .array .int
  | 2 => .array .int
  | _ => .int
abbrev wsX30 : List Cond := u_ws RX3 TX3 4
theorem nmX3 : ∀ a, a < 4 → ∀ b, b < 4 → a ≠ b → (TX3 a).2.1 ≠ (TX3 b).2.1 := by decide +kernel
theorem tyX3_ok : ∀ k, k < 4 → parseFieldDescriptor (TX3 k).2.2.1 = some (tyX3 k) := by decide +kernel
abbrev cX3_init : ByteArray := prog_5_method_1_code
def yX3_init : MethodName := ⟨RX3, "<init>", "()V"⟩
abbrev cX3_add : ByteArray := prog_5_method_2_code
def yX3_add : MethodName := ⟨RX3, "add", "(III)I"⟩
abbrev cX3_misfit : ByteArray := prog_5_method_3_code
def yX3_misfit : MethodName := ⟨RX3, "misfit", "(I)I"⟩
abbrev cX3_fittingOf : ByteArray := prog_5_method_4_code
def yX3_fittingOf : MethodName := ⟨RX3, "fittingOf", "(I)I"⟩
def RX4 : String := "HueAndCry$Description"
def TX4 : u_T := fun k => match k with
  | 0 => ("HueAndCry$Description", "values", "[I", true)
  | _ => ("HueAndCry$Description", "blurs", "[I", true)
def tyX4 : Nat → FieldType := fun k => match k with
  | 0 => .array .int
  | _ => .array .int
abbrev wsX40 : List Cond := u_ws RX4 TX4 2
theorem nmX4 : ∀ a, a < 2 → ∀ b, b < 2 → a ≠ b → (TX4 a).2.1 ≠ (TX4 b).2.1 := by decide +kernel
theorem tyX4_ok : ∀ k, k < 2 → parseFieldDescriptor (TX4 k).2.2.1 = some (tyX4 k) := by decide +kernel
abbrev cX4_init : ByteArray := prog_6_method_1_code
def yX4_init : MethodName := ⟨RX4, "<init>", "()V"⟩
abbrev cX4_set : ByteArray := prog_6_method_2_code
def yX4_set : MethodName := ⟨RX4, "set", "(III)Z"⟩
abbrev cX4_tellOn : ByteArray := prog_6_method_3_code
def yX4_tellOn : MethodName := ⟨RX4, "tellOn", "(I)I"⟩
abbrev cX4_agrees : ByteArray := prog_6_method_4_code
def yX4_agrees : MethodName := ⟨RX4, "agrees", "(II)Z"⟩
def RX5 : String := "HueAndCry$Facts"
def TX5 : u_T := fun k => match k with
  | 0 => ("HueAndCry$Facts", "kinds", "[I", true)
  | 1 => ("HueAndCry$Facts", "spots", "[I", true)
  | 2 => ("HueAndCry$Facts", "hours", "[I", true)
  | 3 => ("HueAndCry$Facts", "struck", "[Z", true)
  | _ => ("HueAndCry$Facts", "size", "I", false)
def tyX5 : Nat → FieldType := fun k => match k with
  | 0 => .array .int
  | 1 => .array .int
  | 2 => .array .int
  | 3 => .array .boolean
  | _ => .int
abbrev wsX50 : List Cond := u_ws RX5 TX5 5
theorem nmX5 : ∀ a, a < 5 → ∀ b, b < 5 → a ≠ b → (TX5 a).2.1 ≠ (TX5 b).2.1 := by decide +kernel
theorem tyX5_ok : ∀ k, k < 5 → parseFieldDescriptor (TX5 k).2.2.1 = some (tyX5 k) := by decide +kernel
abbrev cX5_init : ByteArray := prog_7_method_1_code
def yX5_init : MethodName := ⟨RX5, "<init>", "()V"⟩
abbrev cX5_add : ByteArray := prog_7_method_2_code
def yX5_add : MethodName := ⟨RX5, "add", "(III)I"⟩
abbrev cX5_standing : ByteArray := prog_7_method_3_code
def yX5_standing : MethodName := ⟨RX5, "standing", "()I"⟩
def RX6 : String := "HueAndCry$Land"
def TX6 : u_T := fun k => match k with
  | 0 => ("HueAndCry$Land", "counties", "[I", true)
  | 1 => ("HueAndCry$Land", "distances", "[I", true)
  | 2 => ("HueAndCry$Land", "from", "[I", true)
  | 3 => ("HueAndCry$Land", "to", "[I", true)
  | 4 => ("HueAndCry$Land", "hours", "[I", true)
  | 5 => ("HueAndCry$Land", "shut", "[Z", true)
  | 6 => ("HueAndCry$Land", "parishes", "I", false)
  | 7 => ("HueAndCry$Land", "roads", "I", false)
  | 8 => ("HueAndCry$Land", "exits", "I", false)
  | _ => ("HueAndCry$Land", "start", "I", false)
def tyX6 : Nat → FieldType := fun k => match k with
  | 0 => .array .int
  | 1 => .array .int
  | 2 => .array .int
  | 3 => .array .int
  | 4 => .array .int
  | 5 => .array .boolean
  | 6 => .int
  | 7 => .int
  | 8 => .int
  | _ => .int
abbrev wsX60 : List Cond := u_ws RX6 TX6 10
theorem nmX6 : ∀ a, a < 10 → ∀ b, b < 10 → a ≠ b → (TX6 a).2.1 ≠ (TX6 b).2.1 := by decide +kernel
theorem tyX6_ok : ∀ k, k < 10 → parseFieldDescriptor (TX6 k).2.2.1 = some (tyX6 k) := by decide +kernel
abbrev cX6_init : ByteArray := prog_8_method_1_code
def yX6_init : MethodName := ⟨RX6, "<init>", "()V"⟩
abbrev cX6_hasParish : ByteArray := prog_8_method_2_code
def yX6_hasParish : MethodName := ⟨RX6, "hasParish", "(I)Z"⟩
abbrev cX6_hasRoad : ByteArray := prog_8_method_3_code
def yX6_hasRoad : MethodName := ⟨RX6, "hasRoad", "(I)Z"⟩
abbrev cX6_addParish : ByteArray := prog_8_method_4_code
def yX6_addParish : MethodName := ⟨RX6, "addParish", "(I)I"⟩
abbrev cX6_addRoad : ByteArray := prog_8_method_5_code
def yX6_addRoad : MethodName := ⟨RX6, "addRoad", "(III)I"⟩
abbrev cX6_parishesOf : ByteArray := prog_8_method_6_code
def yX6_parishesOf : MethodName := ⟨RX6, "parishesOf", "(I)I"⟩
abbrev cX6_startBit : ByteArray := prog_8_method_7_code
def yX6_startBit : MethodName := ⟨RX6, "startBit", "()I"⟩
abbrev cX6_across : ByteArray := prog_8_method_8_code
def yX6_across : MethodName := ⟨RX6, "across", "(II)I"⟩
abbrev cX6_otherEnd : ByteArray := prog_8_method_9_code
def yX6_otherEnd : MethodName := ⟨RX6, "otherEnd", "(II)I"⟩
abbrev cX6_shortest : ByteArray := prog_8_method_10_code
def yX6_shortest : MethodName := ⟨RX6, "shortest", "(II)I"⟩
abbrev cX6_shorten : ByteArray := prog_8_method_11_code
def yX6_shorten : MethodName := ⟨RX6, "shorten", "(III)Z"⟩
def RX7 : String := "HueAndCry$Patrol"
def TX7 : u_T := fun k => match k with
  | 0 => ("HueAndCry$Patrol", "chase", "LHueAndCry$Chase;", true)
  | 1 => ("HueAndCry$Patrol", "land", "LHueAndCry$Land;", true)
  | 2 => ("HueAndCry$Patrol", "picks", "[I", true)
  | 3 => ("HueAndCry$Patrol", "ways", "[I", true)
  | 4 => ("HueAndCry$Patrol", "found", "I", false)
  | 5 => ("HueAndCry$Patrol", "since", "I", false)
  | _ => ("HueAndCry$Patrol", "until", "I", false)
def tyX7 : Nat → FieldType := fun k => match k with
  | 0 => .object "HueAndCry$Chase"
  | 1 => .object "HueAndCry$Land"
  | 2 => .array .int
  | 3 => .array .int
  | 4 => .int
  | 5 => .int
  | _ => .int
abbrev wsX70 : List Cond := u_ws RX7 TX7 7
theorem nmX7 : ∀ a, a < 7 → ∀ b, b < 7 → a ≠ b → (TX7 a).2.1 ≠ (TX7 b).2.1 := by decide +kernel
theorem tyX7_ok : ∀ k, k < 7 → parseFieldDescriptor (TX7 k).2.2.1 = some (tyX7 k) := by decide +kernel
abbrev cX7_init : ByteArray := prog_9_method_1_code
def yX7_init : MethodName := ⟨RX7, "<init>", "()V"⟩
abbrev cX7_fewest : ByteArray := prog_9_method_2_code
def yX7_fewest : MethodName := ⟨RX7, "fewest", "(II)I"⟩
abbrev cX7_tellPicks : ByteArray := prog_9_method_3_code
def yX7_tellPicks : MethodName := ⟨RX7, "tellPicks", "(ILHueAndCry$Row;)V"⟩
abbrev cX7_pickLowest : ByteArray := prog_9_method_4_code
def yX7_pickLowest : MethodName := ⟨RX7, "pickLowest", "(I)V"⟩
abbrev cX7_pickNext : ByteArray := prog_9_method_5_code
def yX7_pickNext : MethodName := ⟨RX7, "pickNext", "(I)Z"⟩
abbrev cX7_picked : ByteArray := prog_9_method_6_code
def yX7_picked : MethodName := ⟨RX7, "picked", "(I)I"⟩
abbrev cX7_misses : ByteArray := prog_9_method_7_code
def yX7_misses : MethodName := ⟨RX7, "misses", "(I)Z"⟩
abbrev cX7_escapes : ByteArray := prog_9_method_8_code
def yX7_escapes : MethodName := ⟨RX7, "escapes", "(I)Z"⟩
def RX8 : String := "HueAndCry$Row"
def TX8 : u_T := fun k => match k with
  | 0 => ("HueAndCry$Row", "numbers", "[I", true)
  | _ => ("HueAndCry$Row", "size", "I", false)
def tyX8 : Nat → FieldType := fun k => match k with
  | 0 => .array .int
  | _ => .int
abbrev wsX80 : List Cond := u_ws RX8 TX8 2
theorem nmX8 : ∀ a, a < 2 → ∀ b, b < 2 → a ≠ b → (TX8 a).2.1 ≠ (TX8 b).2.1 := by decide +kernel
theorem tyX8_ok : ∀ k, k < 2 → parseFieldDescriptor (TX8 k).2.2.1 = some (tyX8 k) := by decide +kernel
abbrev cX8_init : ByteArray := prog_10_method_1_code
def yX8_init : MethodName := ⟨RX8, "<init>", "()V"⟩
abbrev cX8_add : ByteArray := prog_10_method_2_code
def yX8_add : MethodName := ⟨RX8, "add", "(I)V"⟩
abbrev cX8_turnRound : ByteArray := prog_10_method_3_code
def yX8_turnRound : MethodName := ⟨RX8, "turnRound", "()V"⟩
def RX9 : String := "HueAndCry$Tape"
def TX9 : u_T := fun k => match k with
  | 0 => ("HueAndCry$Tape", "signs", "[I", true)
  | _ => ("HueAndCry$Tape", "size", "I", false)
def tyX9 : Nat → FieldType := fun k => match k with
  | 0 => .array .int
  | _ => .int
abbrev wsX90 : List Cond := u_ws RX9 TX9 2
theorem nmX9 : ∀ a, a < 2 → ∀ b, b < 2 → a ≠ b → (TX9 a).2.1 ≠ (TX9 b).2.1 := by decide +kernel
theorem tyX9_ok : ∀ k, k < 2 → parseFieldDescriptor (TX9 k).2.2.1 = some (tyX9 k) := by decide +kernel
abbrev cX9_init : ByteArray := prog_11_method_1_code
def yX9_init : MethodName := ⟨RX9, "<init>", "()V"⟩
abbrev cX9_addFour : ByteArray := prog_11_method_2_code
def yX9_addFour : MethodName := ⟨RX9, "addFour", "(I)I"⟩
abbrev cX9_cut : ByteArray := prog_11_method_3_code
def yX9_cut : MethodName := ⟨RX9, "cut", "(I)Z"⟩
def RX10 : String := "HueAndCry"
def TX10 : u_T := fun k => match k with
  | 0 => ("HueAndCry", "patrol", "LHueAndCry$Patrol;", true)
  | 1 => ("HueAndCry", "chase", "LHueAndCry$Chase;", true)
  | 2 => ("HueAndCry", "land", "LHueAndCry$Land;", true)
  | 3 => ("HueAndCry", "facts", "LHueAndCry$Facts;", true)
  | 4 => ("HueAndCry", "crowd", "LHueAndCry$Crowd;", true)
  | 5 => ("HueAndCry", "tape", "LHueAndCry$Tape;", true)
  | 6 => ("HueAndCry", "court", "LHueAndCry$Court;", true)
  | _ => ("HueAndCry", "told", "LHueAndCry$Row;", true)
def tyX10 : Nat → FieldType := fun k => match k with
  | 0 => .object "HueAndCry$Patrol"
  | 1 => .object "HueAndCry$Chase"
  | 2 => .object "HueAndCry$Land"
  | 3 => .object "HueAndCry$Facts"
  | 4 => .object "HueAndCry$Crowd"
  | 5 => .object "HueAndCry$Tape"
  | 6 => .object "HueAndCry$Court"
  | _ => .object "HueAndCry$Row"
abbrev wsX100 : List Cond := u_ws RX10 TX10 8
theorem nmX10 : ∀ a, a < 8 → ∀ b, b < 8 → a ≠ b → (TX10 a).2.1 ≠ (TX10 b).2.1 := by decide +kernel
theorem tyX10_ok : ∀ k, k < 8 → parseFieldDescriptor (TX10 k).2.2.1 = some (tyX10 k) := by decide +kernel
abbrev cX10_init : ByteArray := prog_1_method_1_code
def yX10_init : MethodName := ⟨RX10, "<init>", "()V"⟩
abbrev cX10_parish : ByteArray := prog_1_method_2_code
def yX10_parish : MethodName := ⟨RX10, "parish", "(I)I"⟩
abbrev cX10_road : ByteArray := prog_1_method_3_code
def yX10_road : MethodName := ⟨RX10, "road", "(III)I"⟩
abbrev cX10_shut : ByteArray := prog_1_method_4_code
def yX10_shut : MethodName := ⟨RX10, "shut", "(IZ)Z"⟩
abbrev cX10_exit : ByteArray := prog_1_method_5_code
def yX10_exit : MethodName := ⟨RX10, "exit", "(IZ)Z"⟩
abbrev cX10_begin : ByteArray := prog_1_method_6_code
def yX10_begin : MethodName := ⟨RX10, "begin", "(I)Z"⟩
abbrev cX10_count : ByteArray := prog_1_method_7_code
def yX10_count : MethodName := ⟨RX10, "count", "(I)I"⟩
abbrev cX10_far : ByteArray := prog_1_method_8_code
def yX10_far : MethodName := ⟨RX10, "far", "(II)I"⟩
abbrev cX10_seen : ByteArray := prog_1_method_9_code
def yX10_seen : MethodName := ⟨RX10, "seen", "(II)I"⟩
abbrev cX10_vain : ByteArray := prog_1_method_10_code
def yX10_vain : MethodName := ⟨RX10, "vain", "(II)I"⟩
abbrev cX10_guarded : ByteArray := prog_1_method_11_code
def yX10_guarded : MethodName := ⟨RX10, "guarded", "(II)I"⟩
abbrev cX10_strike : ByteArray := prog_1_method_12_code
def yX10_strike : MethodName := ⟨RX10, "strike", "(IZ)Z"⟩
abbrev cX10_may : ByteArray := prog_1_method_13_code
def yX10_may : MethodName := ⟨RX10, "may", "(II)I"⟩
abbrev cX10_was : ByteArray := prog_1_method_14_code
def yX10_was : MethodName := ⟨RX10, "was", "(II)I"⟩
abbrev cX10_places : ByteArray := prog_1_method_15_code
def yX10_places : MethodName := ⟨RX10, "places", "(II)I"⟩
abbrev cX10_first : ByteArray := prog_1_method_16_code
def yX10_first : MethodName := ⟨RX10, "first", "(I)I"⟩
abbrev cX10_trail : ByteArray := prog_1_method_17_code
def yX10_trail : MethodName := ⟨RX10, "trail", "(II)I"⟩
abbrev cX10_quarrel : ByteArray := prog_1_method_18_code
def yX10_quarrel : MethodName := ⟨RX10, "quarrel", "()J"⟩
abbrev cX10_watch : ByteArray := prog_1_method_19_code
def yX10_watch : MethodName := ⟨RX10, "watch", "(II)I"⟩
abbrev cX10_trait : ByteArray := prog_1_method_20_code
def yX10_trait : MethodName := ⟨RX10, "trait", "(III)Z"⟩
abbrev cX10_telling : ByteArray := prog_1_method_21_code
def yX10_telling : MethodName := ⟨RX10, "telling", "(I)I"⟩
abbrev cX10_person : ByteArray := prog_1_method_22_code
def yX10_person : MethodName := ⟨RX10, "person", "(III)I"⟩
abbrev cX10_fits : ByteArray := prog_1_method_23_code
def yX10_fits : MethodName := ⟨RX10, "fits", "(I)I"⟩
abbrev cX10_many : ByteArray := prog_1_method_24_code
def yX10_many : MethodName := ⟨RX10, "many", "(I)I"⟩
abbrev cX10_suspects : ByteArray := prog_1_method_25_code
def yX10_suspects : MethodName := ⟨RX10, "suspects", "(I)I"⟩
abbrev cX10_sign : ByteArray := prog_1_method_26_code
def yX10_sign : MethodName := ⟨RX10, "sign", "(I)I"⟩
abbrev cX10_end : ByteArray := prog_1_method_27_code
def yX10_end : MethodName := ⟨RX10, "end", "(I)Z"⟩
abbrev cX10_act : ByteArray := prog_1_method_28_code
def yX10_act : MethodName := ⟨RX10, "act", "()I"⟩
abbrev cX10_repeal : ByteArray := prog_1_method_29_code
def yX10_repeal : MethodName := ⟨RX10, "repeal", "()I"⟩
abbrev cX10_claim : ByteArray := prog_1_method_30_code
def yX10_claim : MethodName := ⟨RX10, "claim", "(II)I"⟩
abbrev cX10_weight : ByteArray := prog_1_method_31_code
def yX10_weight : MethodName := ⟨RX10, "weight", "(I)I"⟩
abbrev cX10_reward : ByteArray := prog_1_method_32_code
def yX10_reward : MethodName := ⟨RX10, "reward", "(I)I"⟩
abbrev cX10_waive : ByteArray := prog_1_method_33_code
def yX10_waive : MethodName := ⟨RX10, "waive", "()I"⟩
abbrev cX10_row : ByteArray := prog_1_method_34_code
def yX10_row : MethodName := ⟨RX10, "row", "(I)I"⟩
abbrev cX10_canAsk : ByteArray := prog_1_method_35_code
def yX10_canAsk : MethodName := ⟨RX10, "canAsk", "(II)Z"⟩
abbrev cX10_isHour : ByteArray := prog_1_method_36_code
def yX10_isHour : MethodName := ⟨RX10, "isHour", "(I)Z"⟩
abbrev cX10_isCounty : ByteArray := prog_1_method_37_code
def yX10_isCounty : MethodName := ⟨RX10, "isCounty", "(I)Z"⟩
abbrev cX10_isNumber : ByteArray := prog_1_method_38_code
def yX10_isNumber : MethodName := ⟨RX10, "isNumber", "(I)Z"⟩
abbrev cX10_bit : ByteArray := prog_1_method_39_code
def yX10_bit : MethodName := ⟨RX10, "bit", "(I)I"⟩
abbrev cX10_has : ByteArray := prog_1_method_40_code
def yX10_has : MethodName := ⟨RX10, "has", "(II)Z"⟩
def RX11 : String := "HueAndCryModel"
def TX11 : u_T := fun k => match k with
  | 0 => ("HueAndCryModel", "thrown", "I", false)
  | 1 => ("HueAndCryModel", "parishes", "I", false)
  | 2 => ("HueAndCryModel", "county", "[I", true)
  | 3 => ("HueAndCryModel", "isExit", "[Z", true)
  | 4 => ("HueAndCryModel", "roads", "I", false)
  | 5 => ("HueAndCryModel", "roadA", "[I", true)
  | 6 => ("HueAndCryModel", "roadB", "[I", true)
  | 7 => ("HueAndCryModel", "roadHours", "[I", true)
  | 8 => ("HueAndCryModel", "isShut", "[Z", true)
  | 9 => ("HueAndCryModel", "start", "I", false)
  | 10 => ("HueAndCryModel", "away", "[I", true)
  | 11 => ("HueAndCryModel", "facts", "I", false)
  | 12 => ("HueAndCryModel", "factKind", "[I", true)
  | 13 => ("HueAndCryModel", "factOf", "[I", true)
  | 14 => ("HueAndCryModel", "factHour", "[I", true)
  | 15 => ("HueAndCryModel", "isStruck", "[Z", true)
  | 16 => ("HueAndCryModel", "might", "[Z", true)
  | 17 => ("HueAndCryModel", "goes", "[Z", true)
  | 18 => ("HueAndCryModel", "rows", "I", false)
  | 19 => ("HueAndCryModel", "row", "[I", true)
  | 20 => ("HueAndCryModel", "back", "[I", true)
  | 21 => ("HueAndCryModel", "value", "[I", true)
  | 22 => ("HueAndCryModel", "blur", "[I", true)
  | 23 => ("HueAndCryModel", "persons", "I", false)
  | 24 => ("HueAndCryModel", "home", "[I", true)
  | 25 => ("HueAndCryModel", "numbers", "[I", true)
  | 26 => ("HueAndCryModel", "tape", "[I", true)
  | 27 => ("HueAndCryModel", "taped", "I", false)
  | 28 => ("HueAndCryModel", "acts", "I", false)
  | 29 => ("HueAndCryModel", "asks", "[I", true)
  | 30 => ("HueAndCryModel", "askOf", "[I", true)
  | 31 => ("HueAndCryModel", "askSign", "[I", true)
  | 32 => ("HueAndCryModel", "askNumber", "[I", true)
  | 33 => ("HueAndCryModel", "weights", "[I", true)
  | 34 => ("HueAndCryModel", "at", "I", false)
  | 35 => ("HueAndCryModel", "number", "I", false)
  | 36 => ("HueAndCryModel", "claims", "I", false)
  | 37 => ("HueAndCryModel", "claimOf", "[I", true)
  | _ => ("HueAndCryModel", "claimHour", "[I", true)
def tyX11 : Nat → FieldType := fun k => match k with
  | 0 => .int
  | 1 => .int
  | 2 => .array .int
  | 3 => .array .boolean
  | 4 => .int
  | 5 => .array .int
  | 6 => .array .int
  | 7 => .array .int
  | 8 => .array .boolean
  | 9 => .int
  | 10 => .array .int
  | 11 => .int
  | 12 => .array .int
  | 13 => .array .int
  | 14 => .array .int
  | 15 => .array .boolean
  | 16 => .array .boolean
  | 17 => .array .boolean
  | 18 => .int
  | 19 => .array .int
  | 20 => .array .int
  | 21 => .array .int
  | 22 => .array .int
  | 23 => .int
  | 24 => .array .int
  | 25 => .array .int
  | 26 => .array .int
  | 27 => .int
  | 28 => .int
  | 29 => .array .int
  | 30 => .array .int
  | 31 => .array .int
  | 32 => .array .int
  | 33 => .array .int
  | 34 => .int
  | 35 => .int
  | 36 => .int
  | 37 => .array .int
  | _ => .array .int
abbrev wsX110 : List Cond := u_ws RX11 TX11 39
theorem nmX11 : ∀ a, a < 39 → ∀ b, b < 39 → a ≠ b → (TX11 a).2.1 ≠ (TX11 b).2.1 := by decide +kernel
theorem tyX11_ok : ∀ k, k < 39 → parseFieldDescriptor (TX11 k).2.2.1 = some (tyX11 k) := by decide +kernel
abbrev cX11_init : ByteArray := prog_13_method_1_code
def yX11_init : MethodName := ⟨RX11, "<init>", "()V"⟩
abbrev cX11_thrown : ByteArray := prog_13_method_2_code
def yX11_thrown : MethodName := ⟨RX11, "thrown", "()I"⟩
abbrev cX11_in : ByteArray := prog_13_method_3_code
def yX11_in : MethodName := ⟨RX11, "in", "(JJJ)Z"⟩
abbrev cX11_refuse : ByteArray := prog_13_method_4_code
def yX11_refuse : MethodName := ⟨RX11, "refuse", "()I"⟩
abbrev cX11_isParish : ByteArray := prog_13_method_5_code
def yX11_isParish : MethodName := ⟨RX11, "isParish", "(I)Z"⟩
abbrev cX11_isHour : ByteArray := prog_13_method_6_code
def yX11_isHour : MethodName := ⟨RX11, "isHour", "(I)Z"⟩
abbrev cX11_parish : ByteArray := prog_13_method_7_code
def yX11_parish : MethodName := ⟨RX11, "parish", "(I)I"⟩
abbrev cX11_road : ByteArray := prog_13_method_8_code
def yX11_road : MethodName := ⟨RX11, "road", "(III)I"⟩
abbrev cX11_shut : ByteArray := prog_13_method_9_code
def yX11_shut : MethodName := ⟨RX11, "shut", "(IZ)Z"⟩
abbrev cX11_exit : ByteArray := prog_13_method_10_code
def yX11_exit : MethodName := ⟨RX11, "exit", "(IZ)Z"⟩
abbrev cX11_begin : ByteArray := prog_13_method_11_code
def yX11_begin : MethodName := ⟨RX11, "begin", "(I)Z"⟩
abbrev cX11_count : ByteArray := prog_13_method_12_code
def yX11_count : MethodName := ⟨RX11, "count", "(I)I"⟩
abbrev cX11_far : ByteArray := prog_13_method_13_code
def yX11_far : MethodName := ⟨RX11, "far", "(II)I"⟩
abbrev cX11_fact : ByteArray := prog_13_method_14_code
def yX11_fact : MethodName := ⟨RX11, "fact", "(IZII)I"⟩
abbrev cX11_seen : ByteArray := prog_13_method_15_code
def yX11_seen : MethodName := ⟨RX11, "seen", "(II)I"⟩
abbrev cX11_vain : ByteArray := prog_13_method_16_code
def yX11_vain : MethodName := ⟨RX11, "vain", "(II)I"⟩
abbrev cX11_guarded : ByteArray := prog_13_method_17_code
def yX11_guarded : MethodName := ⟨RX11, "guarded", "(II)I"⟩
abbrev cX11_strike : ByteArray := prog_13_method_18_code
def yX11_strike : MethodName := ⟨RX11, "strike", "(IZ)Z"⟩
abbrev cX11_letsIn : ByteArray := prog_13_method_19_code
def yX11_letsIn : MethodName := ⟨RX11, "letsIn", "(II)Z"⟩
abbrev cX11_isClear : ByteArray := prog_13_method_20_code
def yX11_isClear : MethodName := ⟨RX11, "isClear", "(III)Z"⟩
abbrev cX11_cell : ByteArray := prog_13_method_21_code
def yX11_cell : MethodName := ⟨RX11, "cell", "(II)I"⟩
abbrev cX11_other : ByteArray := prog_13_method_22_code
def yX11_other : MethodName := ⟨RX11, "other", "(II)I"⟩
abbrev cX11_mayCome : ByteArray := prog_13_method_23_code
def yX11_mayCome : MethodName := ⟨RX11, "mayCome", "(IIII)Z"⟩
abbrev cX11_walks : ByteArray := prog_13_method_24_code
def yX11_walks : MethodName := ⟨RX11, "walks", "(III)V"⟩
abbrev cX11_walksOn : ByteArray := prog_13_method_25_code
def yX11_walksOn : MethodName := ⟨RX11, "walksOn", "()V"⟩
abbrev cX11_mayGo : ByteArray := prog_13_method_26_code
def yX11_mayGo : MethodName := ⟨RX11, "mayGo", "(III)Z"⟩
abbrev cX11_isAsked : ByteArray := prog_13_method_27_code
def yX11_isAsked : MethodName := ⟨RX11, "isAsked", "(II)Z"⟩
abbrev cX11_may : ByteArray := prog_13_method_28_code
def yX11_may : MethodName := ⟨RX11, "may", "(II)I"⟩
abbrev cX11_was : ByteArray := prog_13_method_29_code
def yX11_was : MethodName := ⟨RX11, "was", "(II)I"⟩
abbrev cX11_places : ByteArray := prog_13_method_30_code
def yX11_places : MethodName := ⟨RX11, "places", "(II)I"⟩
abbrev cX11_first : ByteArray := prog_13_method_31_code
def yX11_first : MethodName := ⟨RX11, "first", "(I)I"⟩
abbrev cX11_trail : ByteArray := prog_13_method_32_code
def yX11_trail : MethodName := ⟨RX11, "trail", "(II)I"⟩
abbrev cX11_agrees : ByteArray := prog_13_method_33_code
def yX11_agrees : MethodName := ⟨RX11, "agrees", "()Z"⟩
abbrev cX11_quarrel : ByteArray := prog_13_method_34_code
def yX11_quarrel : MethodName := ⟨RX11, "quarrel", "()J"⟩
abbrev cX11_getsOut : ByteArray := prog_13_method_35_code
def yX11_getsOut : MethodName := ⟨RX11, "getsOut", "(III)Z"⟩
abbrev cX11_watchers : ByteArray := prog_13_method_36_code
def yX11_watchers : MethodName := ⟨RX11, "watchers", "(IIIII)I"⟩
abbrev cX11_watch : ByteArray := prog_13_method_37_code
def yX11_watch : MethodName := ⟨RX11, "watch", "(II)I"⟩
abbrev cX11_trait : ByteArray := prog_13_method_38_code
def yX11_trait : MethodName := ⟨RX11, "trait", "(III)Z"⟩
abbrev cX11_telling : ByteArray := prog_13_method_39_code
def yX11_telling : MethodName := ⟨RX11, "telling", "(I)I"⟩
abbrev cX11_person : ByteArray := prog_13_method_40_code
def yX11_person : MethodName := ⟨RX11, "person", "(III)I"⟩
abbrev cX11_unfit : ByteArray := prog_13_method_41_code
def yX11_unfit : MethodName := ⟨RX11, "unfit", "(I)I"⟩
abbrev cX11_fits : ByteArray := prog_13_method_42_code
def yX11_fits : MethodName := ⟨RX11, "fits", "(I)I"⟩
abbrev cX11_many : ByteArray := prog_13_method_43_code
def yX11_many : MethodName := ⟨RX11, "many", "(I)I"⟩
abbrev cX11_suspects : ByteArray := prog_13_method_44_code
def yX11_suspects : MethodName := ⟨RX11, "suspects", "(I)I"⟩
abbrev cX11_sign : ByteArray := prog_13_method_45_code
def yX11_sign : MethodName := ⟨RX11, "sign", "(I)I"⟩
abbrev cX11_end : ByteArray := prog_13_method_46_code
def yX11_end : MethodName := ⟨RX11, "end", "(I)Z"⟩
abbrev cX11_isSign : ByteArray := prog_13_method_47_code
def yX11_isSign : MethodName := ⟨RX11, "isSign", "(ILjava/lang/String;)Z"⟩
abbrev cX11_digits : ByteArray := prog_13_method_48_code
def yX11_digits : MethodName := ⟨RX11, "digits", "(I)Z"⟩
abbrev cX11_ask : ByteArray := prog_13_method_49_code
def yX11_ask : MethodName := ⟨RX11, "ask", "(I)Z"⟩
abbrev cX11_reads : ByteArray := prog_13_method_50_code
def yX11_reads : MethodName := ⟨RX11, "reads", "(I)Z"⟩
abbrev cX11_act : ByteArray := prog_13_method_51_code
def yX11_act : MethodName := ⟨RX11, "act", "()I"⟩
abbrev cX11_repeal : ByteArray := prog_13_method_52_code
def yX11_repeal : MethodName := ⟨RX11, "repeal", "()I"⟩
abbrev cX11_claim : ByteArray := prog_13_method_53_code
def yX11_claim : MethodName := ⟨RX11, "claim", "(II)I"⟩
abbrev cX11_holds : ByteArray := prog_13_method_54_code
def yX11_holds : MethodName := ⟨RX11, "holds", "(II)Z"⟩
abbrev cX11_weightOf : ByteArray := prog_13_method_55_code
def yX11_weightOf : MethodName := ⟨RX11, "weightOf", "(I)I"⟩
abbrev cX11_weight : ByteArray := prog_13_method_56_code
def yX11_weight : MethodName := ⟨RX11, "weight", "(I)I"⟩
abbrev cX11_reward : ByteArray := prog_13_method_57_code
def yX11_reward : MethodName := ⟨RX11, "reward", "(I)I"⟩
abbrev cX11_waive : ByteArray := prog_13_method_58_code
def yX11_waive : MethodName := ⟨RX11, "waive", "()I"⟩
abbrev cX11_row : ByteArray := prog_13_method_59_code
def yX11_row : MethodName := ⟨RX11, "row", "(I)I"⟩
def RJ11 : String := "java/lang/Character"
def TJ11 : u_T := fun k => match k with
  | _ => ("", "", "", false)
def tyJ11 : Nat → FieldType := fun k => match k with
  | _ => .int
abbrev wsJ110 : List Cond := u_ws RJ11 TJ11 0
theorem nmJ11 : ∀ a, a < 0 → ∀ b, b < 0 → a ≠ b → (TJ11 a).2.1 ≠ (TJ11 b).2.1 := by decide +kernel
theorem tyJ11_ok : ∀ k, k < 0 → parseFieldDescriptor (TJ11 k).2.2.1 = some (tyJ11 k) := by decide +kernel
abbrev cJ11_isValidCodePoint_9a6ad : ByteArray := prog_14_method_11_code
def yJ11_isValidCodePoint_9a6ad : MethodName := ⟨RJ11, "isValidCodePoint", "(I)Z"⟩
abbrev cJ11_highSurrogate_5068e : ByteArray := prog_14_method_28_code
def yJ11_highSurrogate_5068e : MethodName := ⟨RJ11, "highSurrogate", "(I)C"⟩
abbrev cJ11_lowSurrogate_5068e : ByteArray := prog_14_method_29_code
def yJ11_lowSurrogate_5068e : MethodName := ⟨RJ11, "lowSurrogate", "(I)C"⟩
def RJ6 : String := "java/lang/Integer"
def TJ6 : u_T := fun k => match k with
  | _ => ("", "", "", false)
def tyJ6 : Nat → FieldType := fun k => match k with
  | _ => .int
abbrev wsJ60 : List Cond := u_ws RJ6 TJ6 0
theorem nmJ6 : ∀ a, a < 0 → ∀ b, b < 0 → a ≠ b → (TJ6 a).2.1 ≠ (TJ6 b).2.1 := by decide +kernel
theorem tyJ6_ok : ∀ k, k < 0 → parseFieldDescriptor (TJ6 k).2.2.1 = some (tyJ6 k) := by decide +kernel
abbrev cJ6_numberOfTrailingZeros_0f7a4 : ByteArray := prog_16_method_48_code
def yJ6_numberOfTrailingZeros_0f7a4 : MethodName := ⟨RJ6, "numberOfTrailingZeros", "(I)I"⟩
def RJ9 : String := "java/lang/Math"
def TJ9 : u_T := fun k => match k with
  | _ => ("", "", "", false)
def tyJ9 : Nat → FieldType := fun k => match k with
  | _ => .int
abbrev wsJ90 : List Cond := u_ws RJ9 TJ9 0
theorem nmJ9 : ∀ a, a < 0 → ∀ b, b < 0 → a ≠ b → (TJ9 a).2.1 ≠ (TJ9 b).2.1 := by decide +kernel
theorem tyJ9_ok : ∀ k, k < 0 → parseFieldDescriptor (TJ9 k).2.2.1 = some (tyJ9 k) := by decide +kernel
abbrev cJ9_abs_0f7a4 : ByteArray := prog_17_method_59_code
def yJ9_abs_0f7a4 : MethodName := ⟨RJ9, "abs", "(I)I"⟩
abbrev cJ9_max_7cf53 : ByteArray := prog_17_method_65_code
def yJ9_max_7cf53 : MethodName := ⟨RJ9, "max", "(II)I"⟩
abbrev cJ9_min_7cf53 : ByteArray := prog_17_method_69_code
def yJ9_min_7cf53 : MethodName := ⟨RJ9, "min", "(II)I"⟩
def RJ0 : String := "java/lang/String"
def TJ0 : u_T := fun k => match k with
  | _ => ("", "", "", false)
def tyJ0 : Nat → FieldType := fun k => match k with
  | _ => .int
abbrev wsJ00 : List Cond := u_ws RJ0 TJ0 0
theorem nmJ0 : ∀ a, a < 0 → ∀ b, b < 0 → a ≠ b → (TJ0 a).2.1 ≠ (TJ0 b).2.1 := by decide +kernel
theorem tyJ0_ok : ∀ k, k < 0 → parseFieldDescriptor (TJ0 k).2.2.1 = some (tyJ0 k) := by decide +kernel
abbrev cJ0_length_8abf5 : ByteArray := prog_19_method_54_code
def yJ0_length_8abf5 : MethodName := ⟨RJ0, "length", "()I"⟩
abbrev cJ0_indexOf_0f7a4 : ByteArray := prog_19_method_79_code
def yJ0_indexOf_0f7a4 : MethodName := ⟨RJ0, "indexOf", "(I)I"⟩
abbrev cJ0_indexOf_7cf53 : ByteArray := prog_19_method_80_code
def yJ0_indexOf_7cf53 : MethodName := ⟨RJ0, "indexOf", "(II)I"⟩
abbrev cJ0_coder_7d493 : ByteArray := prog_19_method_152_code
def yJ0_coder_7d493 : MethodName := ⟨RJ0, "coder", "()B"⟩
abbrev cJ0_isLatin1_aae02 : ByteArray := prog_19_method_154_code
def yJ0_isLatin1_aae02 : MethodName := ⟨RJ0, "isLatin1", "()Z"⟩
abbrev cJ0_checkBoundsBeginEnd_23922 : ByteArray := prog_19_method_158_code
def yJ0_checkBoundsBeginEnd_23922 : MethodName := ⟨RJ0, "checkBoundsBeginEnd", "(III)V"⟩
def RJ1 : String := "java/lang/StringLatin1"
def TJ1 : u_T := fun k => match k with
  | _ => ("", "", "", false)
def tyJ1 : Nat → FieldType := fun k => match k with
  | _ => .int
abbrev wsJ10 : List Cond := u_ws RJ1 TJ1 0
theorem nmJ1 : ∀ a, a < 0 → ∀ b, b < 0 → a ≠ b → (TJ1 a).2.1 ≠ (TJ1 b).2.1 := by decide +kernel
theorem tyJ1_ok : ∀ k, k < 0 → parseFieldDescriptor (TJ1 k).2.2.1 = some (tyJ1 k) := by decide +kernel
abbrev cJ1_canEncode_9a6ad : ByteArray := prog_20_method_4_code
def yJ1_canEncode_9a6ad : MethodName := ⟨RJ1, "canEncode", "(I)Z"⟩
abbrev cJ1_indexOf_4cfef : ByteArray := prog_20_method_22_code
def yJ1_indexOf_4cfef : MethodName := ⟨RJ1, "indexOf", "([BIII)I"⟩
abbrev cJ1_indexOfChar_4cfef : ByteArray := prog_20_method_23_code
def yJ1_indexOfChar_4cfef : MethodName := ⟨RJ1, "indexOfChar", "([BIII)I"⟩
def RJ2 : String := "java/lang/StringUTF16"
def TJ2 : u_T := fun k => match k with
  | _ => ("", "", "", false)
def tyJ2 : Nat → FieldType := fun k => match k with
  | _ => .int
abbrev wsJ20 : List Cond := u_ws RJ2 TJ2 0
theorem nmJ2 : ∀ a, a < 0 → ∀ b, b < 0 → a ≠ b → (TJ2 a).2.1 ≠ (TJ2 b).2.1 := by decide +kernel
theorem tyJ2_ok : ∀ k, k < 0 → parseFieldDescriptor (TJ2 k).2.2.1 = some (tyJ2 k) := by decide +kernel
abbrev cJ2_getChar_3b067 : ByteArray := prog_21_method_5_code
def yJ2_getChar_3b067 : MethodName := ⟨RJ2, "getChar", "([BI)C"⟩
abbrev cJ2_length_9d52b : ByteArray := prog_21_method_6_code
def yJ2_length_9d52b : MethodName := ⟨RJ2, "length", "([B)I"⟩
abbrev cJ2_indexOf_4cfef : ByteArray := prog_21_method_40_code
def yJ2_indexOf_4cfef : MethodName := ⟨RJ2, "indexOf", "([BIII)I"⟩
abbrev cJ2_indexOfChar_4cfef : ByteArray := prog_21_method_47_code
def yJ2_indexOfChar_4cfef : MethodName := ⟨RJ2, "indexOfChar", "([BIII)I"⟩
abbrev cJ2_indexOfCharUnsafe_4cfef : ByteArray := prog_21_method_48_code
def yJ2_indexOfCharUnsafe_4cfef : MethodName := ⟨RJ2, "indexOfCharUnsafe", "([BIII)I"⟩
abbrev cJ2_indexOfSupplementary_4cfef : ByteArray := prog_21_method_49_code
def yJ2_indexOfSupplementary_4cfef : MethodName := ⟨RJ2, "indexOfSupplementary", "([BIII)I"⟩
abbrev cJ2_checkBoundsBeginEnd_d044e : ByteArray := prog_21_method_93_code
def yJ2_checkBoundsBeginEnd_d044e : MethodName := ⟨RJ2, "checkBoundsBeginEnd", "(II[B)V"⟩
def RJ3 : String := "jdk/internal/util/Preconditions"
def TJ3 : u_T := fun k => match k with
  | _ => ("", "", "", false)
def tyJ3 : Nat → FieldType := fun k => match k with
  | _ => .int
abbrev wsJ30 : List Cond := u_ws RJ3 TJ3 0
theorem nmJ3 : ∀ a, a < 0 → ∀ b, b < 0 → a ≠ b → (TJ3 a).2.1 ≠ (TJ3 b).2.1 := by decide +kernel
theorem tyJ3_ok : ∀ k, k < 0 → parseFieldDescriptor (TJ3 k).2.2.1 = some (tyJ3 k) := by decide +kernel
abbrev cJ3_checkFromToIndex_8c36e : ByteArray := prog_24_method_12_code
def yJ3_checkFromToIndex_8c36e : MethodName := ⟨RJ3, "checkFromToIndex", "(IIILjava/util/function/BiFunction;)I"⟩
def RL : String := "HueAndCryLaw"
abbrev cL_row : ByteArray := method_3_code
def yL_row : MethodName := ⟨RL, "row", "(LHueAndCry;I[J)I"⟩
abbrev cL_law : ByteArray := code
def yL_law : MethodName := ⟨RL, "law", "([I)Z"⟩
abbrev vwCl : List vw_C := [(RX0, TX0, 7), (RX1, TX1, 6), (RX2, TX2, 6), (RX3, TX3, 4), (RX4, TX4, 2), (RX5, TX5, 5), (RX6, TX6, 10), (RX7, TX7, 7), (RX8, TX8, 2), (RX9, TX9, 2), (RX10, TX10, 8), (RX11, TX11, 39)]
