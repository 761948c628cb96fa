section
-- ===== PART A: goes FIRST, ahead of the names: the tables' words, and 'selects' of the private methods out of them =====
/-- a private method of a class that the tables say can be made, by its rows of tables_1 -/
def lw_okq (q : MethodName × Nat) : Prop := (q.1.cls ≠ "java/lang/invoke/MethodHandle" ∧ q.1.cls ≠ "java/lang/invoke/VarHandle") ∧ Cond.instantiable q.1.cls q.2 ∈ tables_1 ∧ Cond.privateMethod q.1 ∈ tables_1 ∧ Cond.instanceMethod q.1 ∈ tables_1
theorem lw_p0 : lw_okq (⟨"HueAndCry$Land", "shorten", "(III)Z"⟩, 10) := ⟨⟨by decide +kernel, by decide +kernel⟩, List.mem_of_getElem? (i := 45) (by decide +kernel), List.mem_of_getElem? (i := 380) (by decide +kernel), List.mem_of_getElem? (i := 381) (by decide +kernel)⟩
theorem lw_p1 : lw_okq (⟨"HueAndCry", "canAsk", "(II)Z"⟩, 8) := ⟨⟨by decide +kernel, by decide +kernel⟩, List.mem_of_getElem? (i := 25) (by decide +kernel), List.mem_of_getElem? (i := 411) (by decide +kernel), List.mem_of_getElem? (i := 412) (by decide +kernel)⟩
theorem lw_p2 : lw_okq (⟨"HueAndCry$Chase", "heedOne", "(I)J"⟩, 6) := ⟨⟨by decide +kernel, by decide +kernel⟩, List.mem_of_getElem? (i := 39) (by decide +kernel), List.mem_of_getElem? (i := 424) (by decide +kernel), List.mem_of_getElem? (i := 425) (by decide +kernel)⟩
theorem lw_p3 : lw_okq (⟨"HueAndCry$Chase", "cameAt", "(I)I"⟩, 6) := ⟨⟨by decide +kernel, by decide +kernel⟩, List.mem_of_getElem? (i := 39) (by decide +kernel), List.mem_of_getElem? (i := 433) (by decide +kernel), List.mem_of_getElem? (i := 434) (by decide +kernel)⟩
theorem lw_p4 : lw_okq (⟨"HueAndCry$Chase", "arrivalsBy", "(II)I"⟩, 6) := ⟨⟨by decide +kernel, by decide +kernel⟩, List.mem_of_getElem? (i := 39) (by decide +kernel), List.mem_of_getElem? (i := 442) (by decide +kernel), List.mem_of_getElem? (i := 443) (by decide +kernel)⟩
theorem lw_p5 : lw_okq (⟨"HueAndCry$Chase", "isClear", "(III)Z"⟩, 6) := ⟨⟨by decide +kernel, by decide +kernel⟩, List.mem_of_getElem? (i := 39) (by decide +kernel), List.mem_of_getElem? (i := 446) (by decide +kernel), List.mem_of_getElem? (i := 447) (by decide +kernel)⟩
theorem lw_p6 : lw_okq (⟨"HueAndCry$Chase", "lookOnward", "(I)V"⟩, 6) := ⟨⟨by decide +kernel, by decide +kernel⟩, List.mem_of_getElem? (i := 39) (by decide +kernel), List.mem_of_getElem? (i := 465) (by decide +kernel), List.mem_of_getElem? (i := 466) (by decide +kernel)⟩
theorem lw_p7 : lw_okq (⟨"HueAndCry$Chase", "goesOnAt", "(I)I"⟩, 6) := ⟨⟨by decide +kernel, by decide +kernel⟩, List.mem_of_getElem? (i := 39) (by decide +kernel), List.mem_of_getElem? (i := 469) (by decide +kernel), List.mem_of_getElem? (i := 470) (by decide +kernel)⟩
theorem lw_p8 : lw_okq (⟨"HueAndCry$Chase", "departuresBy", "(II)I"⟩, 6) := ⟨⟨by decide +kernel, by decide +kernel⟩, List.mem_of_getElem? (i := 39) (by decide +kernel), List.mem_of_getElem? (i := 473) (by decide +kernel), List.mem_of_getElem? (i := 474) (by decide +kernel)⟩
theorem lw_p9 : lw_okq (⟨"HueAndCry$Chase", "cameBy", "(II)I"⟩, 6) := ⟨⟨by decide +kernel, by decide +kernel⟩, List.mem_of_getElem? (i := 39) (by decide +kernel), List.mem_of_getElem? (i := 505) (by decide +kernel), List.mem_of_getElem? (i := 506) (by decide +kernel)⟩
theorem lw_p10 : lw_okq (⟨"HueAndCry$Chase", "mends", "(I)Z"⟩, 6) := ⟨⟨by decide +kernel, by decide +kernel⟩, List.mem_of_getElem? (i := 39) (by decide +kernel), List.mem_of_getElem? (i := 530) (by decide +kernel), List.mem_of_getElem? (i := 531) (by decide +kernel)⟩
theorem lw_p11 : lw_okq (⟨"HueAndCry$Chase", "isUnderWay", "(I)Z"⟩, 6) := ⟨⟨by decide +kernel, by decide +kernel⟩, List.mem_of_getElem? (i := 39) (by decide +kernel), List.mem_of_getElem? (i := 534) (by decide +kernel), List.mem_of_getElem? (i := 535) (by decide +kernel)⟩
theorem lw_p12 : lw_okq (⟨"HueAndCry$Patrol", "pickLowest", "(I)V"⟩, 7) := ⟨⟨by decide +kernel, by decide +kernel⟩, List.mem_of_getElem? (i := 33) (by decide +kernel), List.mem_of_getElem? (i := 551) (by decide +kernel), List.mem_of_getElem? (i := 552) (by decide +kernel)⟩
theorem lw_p13 : lw_okq (⟨"HueAndCry$Patrol", "picked", "(I)I"⟩, 7) := ⟨⟨by decide +kernel, by decide +kernel⟩, List.mem_of_getElem? (i := 33) (by decide +kernel), List.mem_of_getElem? (i := 555) (by decide +kernel), List.mem_of_getElem? (i := 556) (by decide +kernel)⟩
theorem lw_p14 : lw_okq (⟨"HueAndCry$Patrol", "misses", "(I)Z"⟩, 7) := ⟨⟨by decide +kernel, by decide +kernel⟩, List.mem_of_getElem? (i := 33) (by decide +kernel), List.mem_of_getElem? (i := 560) (by decide +kernel), List.mem_of_getElem? (i := 561) (by decide +kernel)⟩
theorem lw_p15 : lw_okq (⟨"HueAndCry$Patrol", "escapes", "(I)Z"⟩, 7) := ⟨⟨by decide +kernel, by decide +kernel⟩, List.mem_of_getElem? (i := 33) (by decide +kernel), List.mem_of_getElem? (i := 564) (by decide +kernel), List.mem_of_getElem? (i := 565) (by decide +kernel)⟩
def lw_privs_1 : List (MethodName × Nat) := [(⟨"HueAndCry$Land", "shorten", "(III)Z"⟩, 10), (⟨"HueAndCry", "canAsk", "(II)Z"⟩, 8), (⟨"HueAndCry$Chase", "heedOne", "(I)J"⟩, 6), (⟨"HueAndCry$Chase", "cameAt", "(I)I"⟩, 6), (⟨"HueAndCry$Chase", "arrivalsBy", "(II)I"⟩, 6), (⟨"HueAndCry$Chase", "isClear", "(III)Z"⟩, 6), (⟨"HueAndCry$Chase", "lookOnward", "(I)V"⟩, 6), (⟨"HueAndCry$Chase", "goesOnAt", "(I)I"⟩, 6), (⟨"HueAndCry$Chase", "departuresBy", "(II)I"⟩, 6), (⟨"HueAndCry$Chase", "cameBy", "(II)I"⟩, 6), (⟨"HueAndCry$Chase", "mends", "(I)Z"⟩, 6), (⟨"HueAndCry$Chase", "isUnderWay", "(I)Z"⟩, 6), (⟨"HueAndCry$Patrol", "pickLowest", "(I)V"⟩, 7), (⟨"HueAndCry$Patrol", "picked", "(I)I"⟩, 7), (⟨"HueAndCry$Patrol", "misses", "(I)Z"⟩, 7), (⟨"HueAndCry$Patrol", "escapes", "(I)Z"⟩, 7)]
theorem lw_r1 : ∀ q ∈ lw_privs_1, lw_okq q := List.forall_mem_cons.mpr ⟨lw_p0, List.forall_mem_cons.mpr ⟨lw_p1, List.forall_mem_cons.mpr ⟨lw_p2, List.forall_mem_cons.mpr ⟨lw_p3, List.forall_mem_cons.mpr ⟨lw_p4, List.forall_mem_cons.mpr ⟨lw_p5, List.forall_mem_cons.mpr ⟨lw_p6, List.forall_mem_cons.mpr ⟨lw_p7, List.forall_mem_cons.mpr ⟨lw_p8, List.forall_mem_cons.mpr ⟨lw_p9, List.forall_mem_cons.mpr ⟨lw_p10, List.forall_mem_cons.mpr ⟨lw_p11, List.forall_mem_cons.mpr ⟨lw_p12, List.forall_mem_cons.mpr ⟨lw_p13, List.forall_mem_cons.mpr ⟨lw_p14, List.forall_mem_cons.mpr ⟨lw_p15, fun _ h => absurd h List.not_mem_nil⟩⟩⟩⟩⟩⟩⟩⟩⟩⟩⟩⟩⟩⟩⟩⟩
theorem lw_p16 : lw_okq (⟨"HueAndCry$Patrol", "pickNext", "(I)Z"⟩, 7) := ⟨⟨by decide +kernel, by decide +kernel⟩, List.mem_of_getElem? (i := 33) (by decide +kernel), List.mem_of_getElem? (i := 576) (by decide +kernel), List.mem_of_getElem? (i := 577) (by decide +kernel)⟩
theorem lw_p17 : lw_okq (⟨"HueAndCry$Act", "takes", "(I)Z"⟩, 7) := ⟨⟨by decide +kernel, by decide +kernel⟩, List.mem_of_getElem? (i := 227) (by decide +kernel), List.mem_of_getElem? (i := 676) (by decide +kernel), List.mem_of_getElem? (i := 677) (by decide +kernel)⟩
theorem lw_p18 : lw_okq (⟨"HueAndCry$Act", "takesLetter", "(I)Z"⟩, 7) := ⟨⟨by decide +kernel, by decide +kernel⟩, List.mem_of_getElem? (i := 227) (by decide +kernel), List.mem_of_getElem? (i := 680) (by decide +kernel), List.mem_of_getElem? (i := 681) (by decide +kernel)⟩
theorem lw_p19 : lw_okq (⟨"HueAndCry$Act", "takesComparison", "(I)Z"⟩, 7) := ⟨⟨by decide +kernel, by decide +kernel⟩, List.mem_of_getElem? (i := 227) (by decide +kernel), List.mem_of_getElem? (i := 684) (by decide +kernel), List.mem_of_getElem? (i := 685) (by decide +kernel)⟩
theorem lw_p20 : lw_okq (⟨"HueAndCry$Act", "takesInNumber", "(I)Z"⟩, 7) := ⟨⟨by decide +kernel, by decide +kernel⟩, List.mem_of_getElem? (i := 227) (by decide +kernel), List.mem_of_getElem? (i := 688) (by decide +kernel), List.mem_of_getElem? (i := 689) (by decide +kernel)⟩
theorem lw_p21 : lw_okq (⟨"HueAndCry$Act", "takesInWeight", "(I)Z"⟩, 7) := ⟨⟨by decide +kernel, by decide +kernel⟩, List.mem_of_getElem? (i := 227) (by decide +kernel), List.mem_of_getElem? (i := 695) (by decide +kernel), List.mem_of_getElem? (i := 696) (by decide +kernel)⟩
theorem lw_p22 : lw_okq (⟨"java/lang/Throwable", "fillInStackTrace", "(I)Ljava/lang/Throwable;"⟩, 6) := ⟨⟨by decide +kernel, by decide +kernel⟩, List.mem_of_getElem? (i := 786) (by decide +kernel), List.mem_of_getElem? (i := 784) (by decide +kernel), List.mem_of_getElem? (i := 785) (by decide +kernel)⟩
theorem lw_p23 : lw_okq (⟨"HueAndCryModel", "isParish", "(I)Z"⟩, 39) := ⟨⟨by decide +kernel, by decide +kernel⟩, List.mem_of_getElem? (i := 816) (by decide +kernel), List.mem_of_getElem? (i := 956) (by decide +kernel), List.mem_of_getElem? (i := 957) (by decide +kernel)⟩
theorem lw_p24 : lw_okq (⟨"HueAndCryModel", "fact", "(IZII)I"⟩, 39) := ⟨⟨by decide +kernel, by decide +kernel⟩, List.mem_of_getElem? (i := 816) (by decide +kernel), List.mem_of_getElem? (i := 987) (by decide +kernel), List.mem_of_getElem? (i := 988) (by decide +kernel)⟩
theorem lw_p25 : lw_okq (⟨"HueAndCryModel", "isAsked", "(II)Z"⟩, 39) := ⟨⟨by decide +kernel, by decide +kernel⟩, List.mem_of_getElem? (i := 816) (by decide +kernel), List.mem_of_getElem? (i := 1011) (by decide +kernel), List.mem_of_getElem? (i := 1012) (by decide +kernel)⟩
theorem lw_p26 : lw_okq (⟨"HueAndCryModel", "walks", "(III)V"⟩, 39) := ⟨⟨by decide +kernel, by decide +kernel⟩, List.mem_of_getElem? (i := 816) (by decide +kernel), List.mem_of_getElem? (i := 1015) (by decide +kernel), List.mem_of_getElem? (i := 1016) (by decide +kernel)⟩
theorem lw_p27 : lw_okq (⟨"HueAndCryModel", "mayCome", "(IIII)Z"⟩, 39) := ⟨⟨by decide +kernel, by decide +kernel⟩, List.mem_of_getElem? (i := 816) (by decide +kernel), List.mem_of_getElem? (i := 1022) (by decide +kernel), List.mem_of_getElem? (i := 1023) (by decide +kernel)⟩
theorem lw_p28 : lw_okq (⟨"HueAndCryModel", "other", "(II)I"⟩, 39) := ⟨⟨by decide +kernel, by decide +kernel⟩, List.mem_of_getElem? (i := 816) (by decide +kernel), List.mem_of_getElem? (i := 1026) (by decide +kernel), List.mem_of_getElem? (i := 1027) (by decide +kernel)⟩
theorem lw_p29 : lw_okq (⟨"HueAndCryModel", "isClear", "(III)Z"⟩, 39) := ⟨⟨by decide +kernel, by decide +kernel⟩, List.mem_of_getElem? (i := 816) (by decide +kernel), List.mem_of_getElem? (i := 1030) (by decide +kernel), List.mem_of_getElem? (i := 1031) (by decide +kernel)⟩
theorem lw_p30 : lw_okq (⟨"HueAndCryModel", "letsIn", "(II)Z"⟩, 39) := ⟨⟨by decide +kernel, by decide +kernel⟩, List.mem_of_getElem? (i := 816) (by decide +kernel), List.mem_of_getElem? (i := 1034) (by decide +kernel), List.mem_of_getElem? (i := 1035) (by decide +kernel)⟩
theorem lw_p31 : lw_okq (⟨"HueAndCryModel", "walksOn", "()V"⟩, 39) := ⟨⟨by decide +kernel, by decide +kernel⟩, List.mem_of_getElem? (i := 816) (by decide +kernel), List.mem_of_getElem? (i := 1042) (by decide +kernel), List.mem_of_getElem? (i := 1043) (by decide +kernel)⟩
def lw_privs_2 : List (MethodName × Nat) := [(⟨"HueAndCry$Patrol", "pickNext", "(I)Z"⟩, 7), (⟨"HueAndCry$Act", "takes", "(I)Z"⟩, 7), (⟨"HueAndCry$Act", "takesLetter", "(I)Z"⟩, 7), (⟨"HueAndCry$Act", "takesComparison", "(I)Z"⟩, 7), (⟨"HueAndCry$Act", "takesInNumber", "(I)Z"⟩, 7), (⟨"HueAndCry$Act", "takesInWeight", "(I)Z"⟩, 7), (⟨"java/lang/Throwable", "fillInStackTrace", "(I)Ljava/lang/Throwable;"⟩, 6), (⟨"HueAndCryModel", "isParish", "(I)Z"⟩, 39), (⟨"HueAndCryModel", "fact", "(IZII)I"⟩, 39), (⟨"HueAndCryModel", "isAsked", "(II)Z"⟩, 39), (⟨"HueAndCryModel", "walks", "(III)V"⟩, 39), (⟨"HueAndCryModel", "mayCome", "(IIII)Z"⟩, 39), (⟨"HueAndCryModel", "other", "(II)I"⟩, 39), (⟨"HueAndCryModel", "isClear", "(III)Z"⟩, 39), (⟨"HueAndCryModel", "letsIn", "(II)Z"⟩, 39), (⟨"HueAndCryModel", "walksOn", "()V"⟩, 39)]
theorem lw_r2 : ∀ q ∈ lw_privs_2, lw_okq q := List.forall_mem_cons.mpr ⟨lw_p16, List.forall_mem_cons.mpr ⟨lw_p17, List.forall_mem_cons.mpr ⟨lw_p18, List.forall_mem_cons.mpr ⟨lw_p19, List.forall_mem_cons.mpr ⟨lw_p20, List.forall_mem_cons.mpr ⟨lw_p21, List.forall_mem_cons.mpr ⟨lw_p22, List.forall_mem_cons.mpr ⟨lw_p23, List.forall_mem_cons.mpr ⟨lw_p24, List.forall_mem_cons.mpr ⟨lw_p25, List.forall_mem_cons.mpr ⟨lw_p26, List.forall_mem_cons.mpr ⟨lw_p27, List.forall_mem_cons.mpr ⟨lw_p28, List.forall_mem_cons.mpr ⟨lw_p29, List.forall_mem_cons.mpr ⟨lw_p30, List.forall_mem_cons.mpr ⟨lw_p31, fun _ h => absurd h List.not_mem_nil⟩⟩⟩⟩⟩⟩⟩⟩⟩⟩⟩⟩⟩⟩⟩⟩
theorem lw_p32 : lw_okq (⟨"HueAndCryModel", "mayGo", "(III)Z"⟩, 39) := ⟨⟨by decide +kernel, by decide +kernel⟩, List.mem_of_getElem? (i := 816) (by decide +kernel), List.mem_of_getElem? (i := 1046) (by decide +kernel), List.mem_of_getElem? (i := 1047) (by decide +kernel)⟩
theorem lw_p33 : lw_okq (⟨"HueAndCryModel", "agrees", "()Z"⟩, 39) := ⟨⟨by decide +kernel, by decide +kernel⟩, List.mem_of_getElem? (i := 816) (by decide +kernel), List.mem_of_getElem? (i := 1066) (by decide +kernel), List.mem_of_getElem? (i := 1067) (by decide +kernel)⟩
theorem lw_p34 : lw_okq (⟨"HueAndCryModel", "watchers", "(IIIII)I"⟩, 39) := ⟨⟨by decide +kernel, by decide +kernel⟩, List.mem_of_getElem? (i := 816) (by decide +kernel), List.mem_of_getElem? (i := 1075) (by decide +kernel), List.mem_of_getElem? (i := 1076) (by decide +kernel)⟩
theorem lw_p35 : lw_okq (⟨"HueAndCryModel", "getsOut", "(III)Z"⟩, 39) := ⟨⟨by decide +kernel, by decide +kernel⟩, List.mem_of_getElem? (i := 816) (by decide +kernel), List.mem_of_getElem? (i := 1079) (by decide +kernel), List.mem_of_getElem? (i := 1080) (by decide +kernel)⟩
theorem lw_p36 : lw_okq (⟨"HueAndCryModel", "unfit", "(I)I"⟩, 39) := ⟨⟨by decide +kernel, by decide +kernel⟩, List.mem_of_getElem? (i := 816) (by decide +kernel), List.mem_of_getElem? (i := 1101) (by decide +kernel), List.mem_of_getElem? (i := 1102) (by decide +kernel)⟩
theorem lw_p37 : lw_okq (⟨"HueAndCryModel", "reads", "(I)Z"⟩, 39) := ⟨⟨by decide +kernel, by decide +kernel⟩, List.mem_of_getElem? (i := 816) (by decide +kernel), List.mem_of_getElem? (i := 1126) (by decide +kernel), List.mem_of_getElem? (i := 1127) (by decide +kernel)⟩
theorem lw_p38 : lw_okq (⟨"HueAndCryModel", "ask", "(I)Z"⟩, 39) := ⟨⟨by decide +kernel, by decide +kernel⟩, List.mem_of_getElem? (i := 816) (by decide +kernel), List.mem_of_getElem? (i := 1130) (by decide +kernel), List.mem_of_getElem? (i := 1131) (by decide +kernel)⟩
theorem lw_p39 : lw_okq (⟨"HueAndCryModel", "isSign", "(ILjava/lang/String;)Z"⟩, 39) := ⟨⟨by decide +kernel, by decide +kernel⟩, List.mem_of_getElem? (i := 816) (by decide +kernel), List.mem_of_getElem? (i := 1135) (by decide +kernel), List.mem_of_getElem? (i := 1136) (by decide +kernel)⟩
theorem lw_p40 : lw_okq (⟨"HueAndCryModel", "digits", "(I)Z"⟩, 39) := ⟨⟨by decide +kernel, by decide +kernel⟩, List.mem_of_getElem? (i := 816) (by decide +kernel), List.mem_of_getElem? (i := 1222) (by decide +kernel), List.mem_of_getElem? (i := 1223) (by decide +kernel)⟩
theorem lw_p41 : lw_okq (⟨"HueAndCryModel", "weightOf", "(I)I"⟩, 39) := ⟨⟨by decide +kernel, by decide +kernel⟩, List.mem_of_getElem? (i := 816) (by decide +kernel), List.mem_of_getElem? (i := 1241) (by decide +kernel), List.mem_of_getElem? (i := 1242) (by decide +kernel)⟩
theorem lw_p42 : lw_okq (⟨"HueAndCryModel", "holds", "(II)Z"⟩, 39) := ⟨⟨by decide +kernel, by decide +kernel⟩, List.mem_of_getElem? (i := 816) (by decide +kernel), List.mem_of_getElem? (i := 1245) (by decide +kernel), List.mem_of_getElem? (i := 1246) (by decide +kernel)⟩
theorem lw_p43 : lw_okq (⟨"HueAndCryModel", "refuse", "()I"⟩, 39) := ⟨⟨by decide +kernel, by decide +kernel⟩, List.mem_of_getElem? (i := 816) (by decide +kernel), List.mem_of_getElem? (i := 1262) (by decide +kernel), List.mem_of_getElem? (i := 1263) (by decide +kernel)⟩
def lw_privs_3 : List (MethodName × Nat) := [(⟨"HueAndCryModel", "mayGo", "(III)Z"⟩, 39), (⟨"HueAndCryModel", "agrees", "()Z"⟩, 39), (⟨"HueAndCryModel", "watchers", "(IIIII)I"⟩, 39), (⟨"HueAndCryModel", "getsOut", "(III)Z"⟩, 39), (⟨"HueAndCryModel", "unfit", "(I)I"⟩, 39), (⟨"HueAndCryModel", "reads", "(I)Z"⟩, 39), (⟨"HueAndCryModel", "ask", "(I)Z"⟩, 39), (⟨"HueAndCryModel", "isSign", "(ILjava/lang/String;)Z"⟩, 39), (⟨"HueAndCryModel", "digits", "(I)Z"⟩, 39), (⟨"HueAndCryModel", "weightOf", "(I)I"⟩, 39), (⟨"HueAndCryModel", "holds", "(II)Z"⟩, 39), (⟨"HueAndCryModel", "refuse", "()I"⟩, 39)]
theorem lw_r3 : ∀ q ∈ lw_privs_3, lw_okq q := List.forall_mem_cons.mpr ⟨lw_p32, List.forall_mem_cons.mpr ⟨lw_p33, List.forall_mem_cons.mpr ⟨lw_p34, List.forall_mem_cons.mpr ⟨lw_p35, List.forall_mem_cons.mpr ⟨lw_p36, List.forall_mem_cons.mpr ⟨lw_p37, List.forall_mem_cons.mpr ⟨lw_p38, List.forall_mem_cons.mpr ⟨lw_p39, List.forall_mem_cons.mpr ⟨lw_p40, List.forall_mem_cons.mpr ⟨lw_p41, List.forall_mem_cons.mpr ⟨lw_p42, List.forall_mem_cons.mpr ⟨lw_p43, fun _ h => absurd h List.not_mem_nil⟩⟩⟩⟩⟩⟩⟩⟩⟩⟩⟩⟩
def lw_privs : List (MethodName × Nat) := lw_privs_1 ++ (lw_privs_2 ++ (lw_privs_3))
def lw_tbl : List Cond := k2_sels lw_privs ++ tables_1
theorem lw_privs_ok : ∀ q ∈ lw_privs, lw_okq q := by
  show ∀ q ∈ lw_privs_1 ++ (lw_privs_2 ++ (lw_privs_3)), lw_okq q
  exact List.forall_mem_append.mpr ⟨lw_r1, List.forall_mem_append.mpr ⟨lw_r2, lw_r3⟩⟩

def RX0 : String := "HueAndCry$Act"
def TX0 : u_T := fun k => match k with
  | 0 => ("HueAndCry$Act", "letters", "[I", true)
  | 1 => ("HueAndCry$Act", "comparisons", "[I", true)
  | 2 => ("HueAndCry$Act", "numbers", "[I", true)
  | 3 => ("HueAndCry$Act", "asks", "I", false)
  | 4 => ("HueAndCry$Act", "weight", "I", false)
  | 5 => ("HueAndCry$Act", "state", "I", false)
  | _ => ("HueAndCry$Act", "digits", "I", false)
def tyX0 : Nat → FieldType := fun k => match k with
  | 0 => .array .int
  | 1 => .array .int
  | 2 => .array .int
  | 3 => .int
  | 4 => .int
  | 5 => .int
  | _ => .int
abbrev wsX00 : List Cond := u_ws RX0 TX0 7
theorem nmX0 : ∀ a, a < 7 → ∀ b, b < 7 → a ≠ b → (TX0 a).2.1 ≠ (TX0 b).2.1 := by decide +kernel
theorem tyX0_ok : ∀ k, k < 7 → parseFieldDescriptor (TX0 k).2.2.1 = some (tyX0 k) := by decide +kernel
abbrev cX0_init : ByteArray := prog_2_method_1_code
def yX0_init : MethodName := ⟨RX0, "<init>", "()V"⟩
abbrev cX0_read : ByteArray := prog_2_method_2_code
def yX0_read : MethodName := ⟨RX0, "read", "(LHueAndCry$Tape;)I"⟩
abbrev cX0_takes : ByteArray := prog_2_method_3_code
def yX0_takes : MethodName := ⟨RX0, "takes", "(I)Z"⟩
abbrev cX0_takesLetter : ByteArray := prog_2_method_4_code
def yX0_takesLetter : MethodName := ⟨RX0, "takesLetter", "(I)Z"⟩
abbrev cX0_takesComparison : ByteArray := prog_2_method_5_code
def yX0_takesComparison : MethodName := ⟨RX0, "takesComparison", "(I)Z"⟩
abbrev cX0_takesInNumber : ByteArray := prog_2_method_6_code
def yX0_takesInNumber : MethodName := ⟨RX0, "takesInNumber", "(I)Z"⟩
abbrev cX0_takesInWeight : ByteArray := prog_2_method_7_code
def yX0_takesInWeight : MethodName := ⟨RX0, "takesInWeight", "(I)Z"⟩
abbrev cX0_isDigit : ByteArray := prog_2_method_8_code
def yX0_isDigit : MethodName := ⟨RX0, "isDigit", "(I)Z"⟩
abbrev cX0_isFor : ByteArray := prog_2_method_9_code
def yX0_isFor : MethodName := ⟨RX0, "isFor", "(III)Z"⟩
abbrev cX0_isSo : ByteArray := prog_2_method_10_code
def yX0_isSo : MethodName := ⟨RX0, "isSo", "(III)Z"⟩
def RX1 : String := "HueAndCry$Chase"
def TX1 : u_T := fun k => match k with
  | 0 => ("HueAndCry$Chase", "land", "LHueAndCry$Land;", true)
  | 1 => ("HueAndCry$Chase", "facts", "LHueAndCry$Facts;", true)
  | 2 => ("HueAndCry$Chase", "allowed", "[I", true)
  | 3 => ("HueAndCry$Chase", "barred", "[J", true)
  | 4 => ("HueAndCry$Chase", "reached", "[I", true)
  | _ => ("HueAndCry$Chase", "onward", "[I", true)
def tyX1 : Nat → FieldType := fun k => match k with
  | 0 => .object "HueAndCry$Land"
  | 1 => .object "HueAndCry$Facts"
  | 2 => .array .int
  | 3 => .array .long
  | 4 => .array .int
  | _ => .array .int
abbrev wsX10 : List Cond := u_ws RX1 TX1 6
theorem nmX1 : ∀ a, a < 6 → ∀ b, b < 6 → a ≠ b → (TX1 a).2.1 ≠ (TX1 b).2.1 := by decide +kernel
theorem tyX1_ok : ∀ k, k < 6 → parseFieldDescriptor (TX1 k).2.2.1 = some (tyX1 k) := by decide +kernel
abbrev cX1_init : ByteArray := prog_3_method_1_code
def yX1_init : MethodName := ⟨RX1, "<init>", "()V"⟩
abbrev cX1_mayBe : ByteArray := prog_3_method_2_code
def yX1_mayBe : MethodName := ⟨RX1, "mayBe", "(I)I"⟩
abbrev cX1_mayHaveBeen : ByteArray := prog_3_method_3_code
def yX1_mayHaveBeen : MethodName := ⟨RX1, "mayHaveBeen", "(I)I"⟩
abbrev cX1_firstHour : ByteArray := prog_3_method_4_code
def yX1_firstHour : MethodName := ⟨RX1, "firstHour", "(I)I"⟩
abbrev cX1_someAgrees : ByteArray := prog_3_method_5_code
def yX1_someAgrees : MethodName := ⟨RX1, "someAgrees", "()Z"⟩
abbrev cX1_menders : ByteArray := prog_3_method_6_code
def yX1_menders : MethodName := ⟨RX1, "menders", "()J"⟩
abbrev cX1_mends : ByteArray := prog_3_method_7_code
def yX1_mends : MethodName := ⟨RX1, "mends", "(I)Z"⟩
abbrev cX1_isUnderWay : ByteArray := prog_3_method_8_code
def yX1_isUnderWay : MethodName := ⟨RX1, "isUnderWay", "(I)Z"⟩
abbrev cX1_heed : ByteArray := prog_3_method_9_code
def yX1_heed : MethodName := ⟨RX1, "heed", "(II)V"⟩
abbrev cX1_heedOne : ByteArray := prog_3_method_10_code
def yX1_heedOne : MethodName := ⟨RX1, "heedOne", "(I)J"⟩
abbrev cX1_spread : ByteArray := prog_3_method_11_code
def yX1_spread : MethodName := ⟨RX1, "spread", "(III)V"⟩
abbrev cX1_cameAt : ByteArray := prog_3_method_12_code
def yX1_cameAt : MethodName := ⟨RX1, "cameAt", "(I)I"⟩
abbrev cX1_arrivalsBy : ByteArray := prog_3_method_13_code
def yX1_arrivalsBy : MethodName := ⟨RX1, "arrivalsBy", "(II)I"⟩
abbrev cX1_lookOnward : ByteArray := prog_3_method_14_code
def yX1_lookOnward : MethodName := ⟨RX1, "lookOnward", "(I)V"⟩
abbrev cX1_goesOnAt : ByteArray := prog_3_method_15_code
def yX1_goesOnAt : MethodName := ⟨RX1, "goesOnAt", "(I)I"⟩
abbrev cX1_departuresBy : ByteArray := prog_3_method_16_code
def yX1_departuresBy : MethodName := ⟨RX1, "departuresBy", "(II)I"⟩
abbrev cX1_isClear : ByteArray := prog_3_method_17_code
def yX1_isClear : MethodName := ⟨RX1, "isClear", "(III)Z"⟩
abbrev cX1_cameBy : ByteArray := prog_3_method_18_code
def yX1_cameBy : MethodName := ⟨RX1, "cameBy", "(II)I"⟩
abbrev cX1_tellWay : ByteArray := prog_3_method_19_code
def yX1_tellWay : MethodName := ⟨RX1, "tellWay", "(IILHueAndCry$Row;)V"⟩
abbrev cX1_wayBits : ByteArray := prog_3_method_20_code
def yX1_wayBits : MethodName := ⟨RX1, "wayBits", "(III)I"⟩
def RX2 : String := "HueAndCry$Court"
def TX2 : u_T := fun k => match k with
  | 0 => ("HueAndCry$Court", "book", "[LHueAndCry$Act;", true)
  | 1 => ("HueAndCry$Court", "counties", "[I", true)
  | 2 => ("HueAndCry$Court", "hours", "[I", true)
  | 3 => ("HueAndCry$Court", "weights", "[I", true)
  | 4 => ("HueAndCry$Court", "acts", "I", false)
  | _ => ("HueAndCry$Court", "claims", "I", false)
def tyX2 : Nat → FieldType := fun k => match k with
  | 0 => .array (.object "HueAndCry$Act")
  | 1 => .array .int
  | 2 => .array .int
  | 3 => .array .int
  | 4 => .int
  | _ => .int
abbrev wsX20 : List Cond := u_ws RX2 TX2 6
theorem nmX2 : ∀ a, a < 6 → ∀ b, b < 6 → a ≠ b → (TX2 a).2.1 ≠ (TX2 b).2.1 := by decide +kernel
theorem tyX2_ok : ∀ k, k < 6 → parseFieldDescriptor (TX2 k).2.2.1 = some (tyX2 k) := by decide +kernel
abbrev cX2_init : ByteArray := prog_4_method_1_code
def yX2_init : MethodName := ⟨RX2, "<init>", "()V"⟩
abbrev cX2_enact : ByteArray := prog_4_method_2_code
def yX2_enact : MethodName := ⟨RX2, "enact", "(LHueAndCry$Tape;)I"⟩
abbrev cX2_lodge : ByteArray := prog_4_method_3_code
def yX2_lodge : MethodName := ⟨RX2, "lodge", "(II)I"⟩
abbrev cX2_weigh : ByteArray := prog_4_method_4_code
def yX2_weigh : MethodName := ⟨RX2, "weigh", "(I)I"⟩
abbrev cX2_share : ByteArray := prog_4_method_5_code
def yX2_share : MethodName := ⟨RX2, "share", "(ILHueAndCry$Row;)I"⟩
def RX3 : String := "HueAndCry$Crowd"
def TX3 : u_T := fun k => match k with
  | 0 => ("HueAndCry$Crowd", "description", "LHueAndCry$Description;", true)
  | 1 => ("HueAndCry$Crowd", "homes", "[I", true)
  | 2 => ("HueAndCry$Crowd", "looks", "[I", true)
  | _ => ("HueAndCry$Crowd", "size", "I", false)
def tyX3 : Nat → FieldType := fun k => match k with
  | 0 => .object "HueAndCry$Description"
  | 1 => .array .int
  | 2 => .array .int
  | _ => .int
abbrev wsX30 : List Cond := u_ws RX3 TX3 4
theorem nmX3 : ∀ a, a < 4 → ∀ b, b < 4 → a ≠ b → (TX3 a).2.1 ≠ (TX3 b).2.1 := by decide +kernel
theorem tyX3_ok : ∀ k, k < 4 → parseFieldDescriptor (TX3 k).2.2.1 = some (tyX3 k) := by decide +kernel
abbrev cX3_init : ByteArray := prog_5_method_1_code
def yX3_init : MethodName := ⟨RX3, "<init>", "()V"⟩
abbrev cX3_add : ByteArray := prog_5_method_2_code
def yX3_add : MethodName := ⟨RX3, "add", "(III)I"⟩
abbrev cX3_misfit : ByteArray := prog_5_method_3_code
def yX3_misfit : MethodName := ⟨RX3, "misfit", "(I)I"⟩
abbrev cX3_fittingOf : ByteArray := prog_5_method_4_code
def yX3_fittingOf : MethodName := ⟨RX3, "fittingOf", "(I)I"⟩
def RX4 : String := "HueAndCry$Description"
def TX4 : u_T := fun k => match k with
  | 0 => ("HueAndCry$Description", "values", "[I", true)
  | _ => ("HueAndCry$Description", "blurs", "[I", true)
def tyX4 : Nat → FieldType := fun k => match k with
  | 0 => .array .int
  | _ => .array .int
abbrev wsX40 : List Cond := u_ws RX4 TX4 2
theorem nmX4 : ∀ a, a < 2 → ∀ b, b < 2 → a ≠ b → (TX4 a).2.1 ≠ (TX4 b).2.1 := by decide +kernel
theorem tyX4_ok : ∀ k, k < 2 → parseFieldDescriptor (TX4 k).2.2.1 = some (tyX4 k) := by decide +kernel
abbrev cX4_init : ByteArray := prog_6_method_1_code
def yX4_init : MethodName := ⟨RX4, "<init>", "()V"⟩
abbrev cX4_set : ByteArray := prog_6_method_2_code
def yX4_set : MethodName := ⟨RX4, "set", "(III)Z"⟩
abbrev cX4_tellOn : ByteArray := prog_6_method_3_code
def yX4_tellOn : MethodName := ⟨RX4, "tellOn", "(I)I"⟩
abbrev cX4_agrees : ByteArray := prog_6_method_4_code
def yX4_agrees : MethodName := ⟨RX4, "agrees", "(II)Z"⟩
def RX5 : String := "HueAndCry$Facts"
def TX5 : u_T := fun k => match k with
  | 0 => ("HueAndCry$Facts", "kinds", "[I", true)
  | 1 => ("HueAndCry$Facts", "spots", "[I", true)
  | 2 => ("HueAndCry$Facts", "hours", "[I", true)
  | 3 => ("HueAndCry$Facts", "struck", "[Z", true)
  | _ => ("HueAndCry$Facts", "size", "I", false)
def tyX5 : Nat → FieldType := fun k => match k with
  | 0 => .array .int
  | 1 => .array .int
  | 2 => .array .int
  | 3 => .array .boolean
  | _ => .int
abbrev wsX50 : List Cond := u_ws RX5 TX5 5
theorem nmX5 : ∀ a, a < 5 → ∀ b, b < 5 → a ≠ b → (TX5 a).2.1 ≠ (TX5 b).2.1 := by decide +kernel
theorem tyX5_ok : ∀ k, k < 5 → parseFieldDescriptor (TX5 k).2.2.1 = some (tyX5 k) := by decide +kernel
abbrev cX5_init : ByteArray := prog_7_method_1_code
def yX5_init : MethodName := ⟨RX5, "<init>", "()V"⟩
abbrev cX5_add : ByteArray := prog_7_method_2_code
def yX5_add : MethodName := ⟨RX5, "add", "(III)I"⟩
abbrev cX5_standing : ByteArray := prog_7_method_3_code
def yX5_standing : MethodName := ⟨RX5, "standing", "()I"⟩
def RX6 : String := "HueAndCry$Land"
def TX6 : u_T := fun k => match k with
  | 0 => ("HueAndCry$Land", "counties", "[I", true)
  | 1 => ("HueAndCry$Land", "distances", "[I", true)
  | 2 => ("HueAndCry$Land", "from", "[I", true)
  | 3 => ("HueAndCry$Land", "to", "[I", true)
  | 4 => ("HueAndCry$Land", "hours", "[I", true)
  | 5 => ("HueAndCry$Land", "shut", "[Z", true)
  | 6 => ("HueAndCry$Land", "parishes", "I", false)
  | 7 => ("HueAndCry$Land", "roads", "I", false)
  | 8 => ("HueAndCry$Land", "exits", "I", false)
  | _ => ("HueAndCry$Land", "start", "I", false)
def tyX6 : Nat → FieldType := fun k => match k with
  | 0 => .array .int
  | 1 => .array .int
  | 2 => .array .int
  | 3 => .array .int
  | 4 => .array .int
  | 5 => .array .boolean
  | 6 => .int
  | 7 => .int
  | 8 => .int
  | _ => .int
abbrev wsX60 : List Cond := u_ws RX6 TX6 10
theorem nmX6 : ∀ a, a < 10 → ∀ b, b < 10 → a ≠ b → (TX6 a).2.1 ≠ (TX6 b).2.1 := by decide +kernel
theorem tyX6_ok : ∀ k, k < 10 → parseFieldDescriptor (TX6 k).2.2.1 = some (tyX6 k) := by decide +kernel
abbrev cX6_init : ByteArray := prog_8_method_1_code
def yX6_init : MethodName := ⟨RX6, "<init>", "()V"⟩
abbrev cX6_hasParish : ByteArray := prog_8_method_2_code
def yX6_hasParish : MethodName := ⟨RX6, "hasParish", "(I)Z"⟩
abbrev cX6_hasRoad : ByteArray := prog_8_method_3_code
def yX6_hasRoad : MethodName := ⟨RX6, "hasRoad", "(I)Z"⟩
abbrev cX6_addParish : ByteArray := prog_8_method_4_code
def yX6_addParish : MethodName := ⟨RX6, "addParish", "(I)I"⟩
abbrev cX6_addRoad : ByteArray := prog_8_method_5_code
def yX6_addRoad : MethodName := ⟨RX6, "addRoad", "(III)I"⟩
abbrev cX6_parishesOf : ByteArray := prog_8_method_6_code
def yX6_parishesOf : MethodName := ⟨RX6, "parishesOf", "(I)I"⟩
abbrev cX6_startBit : ByteArray := prog_8_method_7_code
def yX6_startBit : MethodName := ⟨RX6, "startBit", "()I"⟩
abbrev cX6_across : ByteArray := prog_8_method_8_code
def yX6_across : MethodName := ⟨RX6, "across", "(II)I"⟩
abbrev cX6_otherEnd : ByteArray := prog_8_method_9_code
def yX6_otherEnd : MethodName := ⟨RX6, "otherEnd", "(II)I"⟩
abbrev cX6_shortest : ByteArray := prog_8_method_10_code
def yX6_shortest : MethodName := ⟨RX6, "shortest", "(II)I"⟩
abbrev cX6_shorten : ByteArray := prog_8_method_11_code
def yX6_shorten : MethodName := ⟨RX6, "shorten", "(III)Z"⟩
def RX7 : String := "HueAndCry$Patrol"
def TX7 : u_T := fun k => match k with
  | 0 => ("HueAndCry$Patrol", "chase", "LHueAndCry$Chase;", true)
  | 1 => ("HueAndCry$Patrol", "land", "LHueAndCry$Land;", true)
  | 2 => ("HueAndCry$Patrol", "picks", "[I", true)
  | 3 => ("HueAndCry$Patrol", "ways", "[I", true)
  | 4 => ("HueAndCry$Patrol", "found", "I", false)
  | 5 => ("HueAndCry$Patrol", "since", "I", false)
  | _ => ("HueAndCry$Patrol", "until", "I", false)
def tyX7 : Nat → FieldType := fun k => match k with
  | 0 => .object "HueAndCry$Chase"
  | 1 => .object "HueAndCry$Land"
  | 2 => .array .int
  | 3 => .array .int
  | 4 => .int
  | 5 => .int
  | _ => .int
abbrev wsX70 : List Cond := u_ws RX7 TX7 7
theorem nmX7 : ∀ a, a < 7 → ∀ b, b < 7 → a ≠ b → (TX7 a).2.1 ≠ (TX7 b).2.1 := by decide +kernel
theorem tyX7_ok : ∀ k, k < 7 → parseFieldDescriptor (TX7 k).2.2.1 = some (tyX7 k) := by decide +kernel
abbrev cX7_init : ByteArray := prog_9_method_1_code
def yX7_init : MethodName := ⟨RX7, "<init>", "()V"⟩
abbrev cX7_fewest : ByteArray := prog_9_method_2_code
def yX7_fewest : MethodName := ⟨RX7, "fewest", "(II)I"⟩
abbrev cX7_tellPicks : ByteArray := prog_9_method_3_code
def yX7_tellPicks : MethodName := ⟨RX7, "tellPicks", "(ILHueAndCry$Row;)V"⟩
abbrev cX7_pickLowest : ByteArray := prog_9_method_4_code
def yX7_pickLowest : MethodName := ⟨RX7, "pickLowest", "(I)V"⟩
abbrev cX7_pickNext : ByteArray := prog_9_method_5_code
def yX7_pickNext : MethodName := ⟨RX7, "pickNext", "(I)Z"⟩
abbrev cX7_picked : ByteArray := prog_9_method_6_code
def yX7_picked : MethodName := ⟨RX7, "picked", "(I)I"⟩
abbrev cX7_misses : ByteArray := prog_9_method_7_code
def yX7_misses : MethodName := ⟨RX7, "misses", "(I)Z"⟩
abbrev cX7_escapes : ByteArray := prog_9_method_8_code
def yX7_escapes : MethodName := ⟨RX7, "escapes", "(I)Z"⟩
def RX8 : String := "HueAndCry$Row"
def TX8 : u_T := fun k => match k with
  | 0 => ("HueAndCry$Row", "numbers", "[I", true)
  | _ => ("HueAndCry$Row", "size", "I", false)
def tyX8 : Nat → FieldType := fun k => match k with
  | 0 => .array .int
  | _ => .int
abbrev wsX80 : List Cond := u_ws RX8 TX8 2
theorem nmX8 : ∀ a, a < 2 → ∀ b, b < 2 → a ≠ b → (TX8 a).2.1 ≠ (TX8 b).2.1 := by decide +kernel
theorem tyX8_ok : ∀ k, k < 2 → parseFieldDescriptor (TX8 k).2.2.1 = some (tyX8 k) := by decide +kernel
abbrev cX8_init : ByteArray := prog_10_method_1_code
def yX8_init : MethodName := ⟨RX8, "<init>", "()V"⟩
abbrev cX8_add : ByteArray := prog_10_method_2_code
def yX8_add : MethodName := ⟨RX8, "add", "(I)V"⟩
abbrev cX8_turnRound : ByteArray := prog_10_method_3_code
def yX8_turnRound : MethodName := ⟨RX8, "turnRound", "()V"⟩
def RX9 : String := "HueAndCry$Tape"
def TX9 : u_T := fun k => match k with
  | 0 => ("HueAndCry$Tape", "signs", "[I", true)
  | _ => ("HueAndCry$Tape", "size", "I", false)
def tyX9 : Nat → FieldType := fun k => match k with
  | 0 => .array .int
  | _ => .int
abbrev wsX90 : List Cond := u_ws RX9 TX9 2
theorem nmX9 : ∀ a, a < 2 → ∀ b, b < 2 → a ≠ b → (TX9 a).2.1 ≠ (TX9 b).2.1 := by decide +kernel
theorem tyX9_ok : ∀ k, k < 2 → parseFieldDescriptor (TX9 k).2.2.1 = some (tyX9 k) := by decide +kernel
abbrev cX9_init : ByteArray := prog_11_method_1_code
def yX9_init : MethodName := ⟨RX9, "<init>", "()V"⟩
abbrev cX9_addFour : ByteArray := prog_11_method_2_code
def yX9_addFour : MethodName := ⟨RX9, "addFour", "(I)I"⟩
abbrev cX9_cut : ByteArray := prog_11_method_3_code
def yX9_cut : MethodName := ⟨RX9, "cut", "(I)Z"⟩
def RX10 : String := "HueAndCry"
def TX10 : u_T := fun k => match k with
  | 0 => ("HueAndCry", "patrol", "LHueAndCry$Patrol;", true)
  | 1 => ("HueAndCry", "chase", "LHueAndCry$Chase;", true)
  | 2 => ("HueAndCry", "land", "LHueAndCry$Land;", true)
  | 3 => ("HueAndCry", "facts", "LHueAndCry$Facts;", true)
  | 4 => ("HueAndCry", "crowd", "LHueAndCry$Crowd;", true)
  | 5 => ("HueAndCry", "tape", "LHueAndCry$Tape;", true)
  | 6 => ("HueAndCry", "court", "LHueAndCry$Court;", true)
  | _ => ("HueAndCry", "told", "LHueAndCry$Row;", true)
def tyX10 : Nat → FieldType := fun k => match k with
  | 0 => .object "HueAndCry$Patrol"
  | 1 => .object "HueAndCry$Chase"
  | 2 => .object "HueAndCry$Land"
  | 3 => .object "HueAndCry$Facts"
  | 4 => .object "HueAndCry$Crowd"
  | 5 => .object "HueAndCry$Tape"
  | 6 => .object "HueAndCry$Court"
  | _ => .object "HueAndCry$Row"
abbrev wsX100 : List Cond := u_ws RX10 TX10 8
theorem nmX10 : ∀ a, a < 8 → ∀ b, b < 8 → a ≠ b → (TX10 a).2.1 ≠ (TX10 b).2.1 := by decide +kernel
theorem tyX10_ok : ∀ k, k < 8 → parseFieldDescriptor (TX10 k).2.2.1 = some (tyX10 k) := by decide +kernel
abbrev cX10_init : ByteArray := prog_1_method_1_code
def yX10_init : MethodName := ⟨RX10, "<init>", "()V"⟩
abbrev cX10_parish : ByteArray := prog_1_method_2_code
def yX10_parish : MethodName := ⟨RX10, "parish", "(I)I"⟩
abbrev cX10_road : ByteArray := prog_1_method_3_code
def yX10_road : MethodName := ⟨RX10, "road", "(III)I"⟩
abbrev cX10_shut : ByteArray := prog_1_method_4_code
def yX10_shut : MethodName := ⟨RX10, "shut", "(IZ)Z"⟩
abbrev cX10_exit : ByteArray := prog_1_method_5_code
def yX10_exit : MethodName := ⟨RX10, "exit", "(IZ)Z"⟩
abbrev cX10_begin : ByteArray := prog_1_method_6_code
def yX10_begin : MethodName := ⟨RX10, "begin", "(I)Z"⟩
abbrev cX10_count : ByteArray := prog_1_method_7_code
def yX10_count : MethodName := ⟨RX10, "count", "(I)I"⟩
abbrev cX10_far : ByteArray := prog_1_method_8_code
def yX10_far : MethodName := ⟨RX10, "far", "(II)I"⟩
abbrev cX10_seen : ByteArray := prog_1_method_9_code
def yX10_seen : MethodName := ⟨RX10, "seen", "(II)I"⟩
abbrev cX10_vain : ByteArray := prog_1_method_10_code
def yX10_vain : MethodName := ⟨RX10, "vain", "(II)I"⟩
abbrev cX10_guarded : ByteArray := prog_1_method_11_code
def yX10_guarded : MethodName := ⟨RX10, "guarded", "(II)I"⟩
abbrev cX10_strike : ByteArray := prog_1_method_12_code
def yX10_strike : MethodName := ⟨RX10, "strike", "(IZ)Z"⟩
abbrev cX10_may : ByteArray := prog_1_method_13_code
def yX10_may : MethodName := ⟨RX10, "may", "(II)I"⟩
abbrev cX10_was : ByteArray := prog_1_method_14_code
def yX10_was : MethodName := ⟨RX10, "was", "(II)I"⟩
abbrev cX10_places : ByteArray := prog_1_method_15_code
def yX10_places : MethodName := ⟨RX10, "places", "(II)I"⟩
abbrev cX10_first : ByteArray := prog_1_method_16_code
def yX10_first : MethodName := ⟨RX10, "first", "(I)I"⟩
abbrev cX10_trail : ByteArray := prog_1_method_17_code
def yX10_trail : MethodName := ⟨RX10, "trail", "(II)I"⟩
abbrev cX10_quarrel : ByteArray := prog_1_method_18_code
def yX10_quarrel : MethodName := ⟨RX10, "quarrel", "()J"⟩
abbrev cX10_watch : ByteArray := prog_1_method_19_code
def yX10_watch : MethodName := ⟨RX10, "watch", "(II)I"⟩
abbrev cX10_trait : ByteArray := prog_1_method_20_code
def yX10_trait : MethodName := ⟨RX10, "trait", "(III)Z"⟩
abbrev cX10_telling : ByteArray := prog_1_method_21_code
def yX10_telling : MethodName := ⟨RX10, "telling", "(I)I"⟩
abbrev cX10_person : ByteArray := prog_1_method_22_code
def yX10_person : MethodName := ⟨RX10, "person", "(III)I"⟩
abbrev cX10_fits : ByteArray := prog_1_method_23_code
def yX10_fits : MethodName := ⟨RX10, "fits", "(I)I"⟩
abbrev cX10_many : ByteArray := prog_1_method_24_code
def yX10_many : MethodName := ⟨RX10, "many", "(I)I"⟩
abbrev cX10_suspects : ByteArray := prog_1_method_25_code
def yX10_suspects : MethodName := ⟨RX10, "suspects", "(I)I"⟩
abbrev cX10_sign : ByteArray := prog_1_method_26_code
def yX10_sign : MethodName := ⟨RX10, "sign", "(I)I"⟩
abbrev cX10_end : ByteArray := prog_1_method_27_code
def yX10_end : MethodName := ⟨RX10, "end", "(I)Z"⟩
abbrev cX10_act : ByteArray := prog_1_method_28_code
def yX10_act : MethodName := ⟨RX10, "act", "()I"⟩
abbrev cX10_repeal : ByteArray := prog_1_method_29_code
def yX10_repeal : MethodName := ⟨RX10, "repeal", "()I"⟩
abbrev cX10_claim : ByteArray := prog_1_method_30_code
def yX10_claim : MethodName := ⟨RX10, "claim", "(II)I"⟩
abbrev cX10_weight : ByteArray := prog_1_method_31_code
def yX10_weight : MethodName := ⟨RX10, "weight", "(I)I"⟩
abbrev cX10_reward : ByteArray := prog_1_method_32_code
def yX10_reward : MethodName := ⟨RX10, "reward", "(I)I"⟩
abbrev cX10_waive : ByteArray := prog_1_method_33_code
def yX10_waive : MethodName := ⟨RX10, "waive", "()I"⟩
abbrev cX10_row : ByteArray := prog_1_method_34_code
def yX10_row : MethodName := ⟨RX10, "row", "(I)I"⟩
abbrev cX10_canAsk : ByteArray := prog_1_method_35_code
def yX10_canAsk : MethodName := ⟨RX10, "canAsk", "(II)Z"⟩
abbrev cX10_isHour : ByteArray := prog_1_method_36_code
def yX10_isHour : MethodName := ⟨RX10, "isHour", "(I)Z"⟩
abbrev cX10_isCounty : ByteArray := prog_1_method_37_code
def yX10_isCounty : MethodName := ⟨RX10, "isCounty", "(I)Z"⟩
abbrev cX10_isNumber : ByteArray := prog_1_method_38_code
def yX10_isNumber : MethodName := ⟨RX10, "isNumber", "(I)Z"⟩
abbrev cX10_bit : ByteArray := prog_1_method_39_code
def yX10_bit : MethodName := ⟨RX10, "bit", "(I)I"⟩
abbrev cX10_has : ByteArray := prog_1_method_40_code
def yX10_has : MethodName := ⟨RX10, "has", "(II)Z"⟩
def RX11 : String := "HueAndCryModel"
def TX11 : u_T := fun k => match k with
  | 0 => ("HueAndCryModel", "thrown", "I", false)
  | 1 => ("HueAndCryModel", "parishes", "I", false)
  | 2 => ("HueAndCryModel", "county", "[I", true)
  | 3 => ("HueAndCryModel", "isExit", "[Z", true)
  | 4 => ("HueAndCryModel", "roads", "I", false)
  | 5 => ("HueAndCryModel", "roadA", "[I", true)
  | 6 => ("HueAndCryModel", "roadB", "[I", true)
  | 7 => ("HueAndCryModel", "roadHours", "[I", true)
  | 8 => ("HueAndCryModel", "isShut", "[Z", true)
  | 9 => ("HueAndCryModel", "start", "I", false)
  | 10 => ("HueAndCryModel", "away", "[I", true)
  | 11 => ("HueAndCryModel", "facts", "I", false)
  | 12 => ("HueAndCryModel", "factKind", "[I", true)
  | 13 => ("HueAndCryModel", "factOf", "[I", true)
  | 14 => ("HueAndCryModel", "factHour", "[I", true)
  | 15 => ("HueAndCryModel", "isStruck", "[Z", true)
  | 16 => ("HueAndCryModel", "might", "[Z", true)
  | 17 => ("HueAndCryModel", "goes", "[Z", true)
  | 18 => ("HueAndCryModel", "rows", "I", false)
  | 19 => ("HueAndCryModel", "row", "[I", true)
  | 20 => ("HueAndCryModel", "back", "[I", true)
  | 21 => ("HueAndCryModel", "value", "[I", true)
  | 22 => ("HueAndCryModel", "blur", "[I", true)
  | 23 => ("HueAndCryModel", "persons", "I", false)
  | 24 => ("HueAndCryModel", "home", "[I", true)
  | 25 => ("HueAndCryModel", "numbers", "[I", true)
  | 26 => ("HueAndCryModel", "tape", "[I", true)
  | 27 => ("HueAndCryModel", "taped", "I", false)
  | 28 => ("HueAndCryModel", "acts", "I", false)
  | 29 => ("HueAndCryModel", "asks", "[I", true)
  | 30 => ("HueAndCryModel", "askOf", "[I", true)
  | 31 => ("HueAndCryModel", "askSign", "[I", true)
  | 32 => ("HueAndCryModel", "askNumber", "[I", true)
  | 33 => ("HueAndCryModel", "weights", "[I", true)
  | 34 => ("HueAndCryModel", "at", "I", false)
  | 35 => ("HueAndCryModel", "number", "I", false)
  | 36 => ("HueAndCryModel", "claims", "I", false)
  | 37 => ("HueAndCryModel", "claimOf", "[I", true)
  | _ => ("HueAndCryModel", "claimHour", "[I", true)
def tyX11 : Nat → FieldType := fun k => match k with
  | 0 => .int
  | 1 => .int
  | 2 => .array .int
  | 3 => .array .boolean
  | 4 => .int
  | 5 => .array .int
  | 6 => .array .int
  | 7 => .array .int
  | 8 => .array .boolean
  | 9 => .int
  | 10 => .array .int
  | 11 => .int
  | 12 => .array .int
  | 13 => .array .int
  | 14 => .array .int
  | 15 => .array .boolean
  | 16 => .array .boolean
  | 17 => .array .boolean
  | 18 => .int
  | 19 => .array .int
  | 20 => .array .int
  | 21 => .array .int
  | 22 => .array .int
  | 23 => .int
  | 24 => .array .int
  | 25 => .array .int
  | 26 => .array .int
  | 27 => .int
  | 28 => .int
  | 29 => .array .int
  | 30 => .array .int
  | 31 => .array .int
  | 32 => .array .int
  | 33 => .array .int
  | 34 => .int
  | 35 => .int
  | 36 => .int
  | 37 => .array .int
  | _ => .array .int
abbrev wsX110 : List Cond := u_ws RX11 TX11 39
theorem nmX11 : ∀ a, a < 39 → ∀ b, b < 39 → a ≠ b → (TX11 a).2.1 ≠ (TX11 b).2.1 := by decide +kernel
theorem tyX11_ok : ∀ k, k < 39 → parseFieldDescriptor (TX11 k).2.2.1 = some (tyX11 k) := by decide +kernel
abbrev cX11_init : ByteArray := prog_13_method_1_code
def yX11_init : MethodName := ⟨RX11, "<init>", "()V"⟩
abbrev cX11_thrown : ByteArray := prog_13_method_2_code
def yX11_thrown : MethodName := ⟨RX11, "thrown", "()I"⟩
abbrev cX11_in : ByteArray := prog_13_method_3_code
def yX11_in : MethodName := ⟨RX11, "in", "(JJJ)Z"⟩
abbrev cX11_refuse : ByteArray := prog_13_method_4_code
def yX11_refuse : MethodName := ⟨RX11, "refuse", "()I"⟩
abbrev cX11_isParish : ByteArray := prog_13_method_5_code
def yX11_isParish : MethodName := ⟨RX11, "isParish", "(I)Z"⟩
abbrev cX11_isHour : ByteArray := prog_13_method_6_code
def yX11_isHour : MethodName := ⟨RX11, "isHour", "(I)Z"⟩
abbrev cX11_parish : ByteArray := prog_13_method_7_code
def yX11_parish : MethodName := ⟨RX11, "parish", "(I)I"⟩
abbrev cX11_road : ByteArray := prog_13_method_8_code
def yX11_road : MethodName := ⟨RX11, "road", "(III)I"⟩
abbrev cX11_shut : ByteArray := prog_13_method_9_code
def yX11_shut : MethodName := ⟨RX11, "shut", "(IZ)Z"⟩
abbrev cX11_exit : ByteArray := prog_13_method_10_code
def yX11_exit : MethodName := ⟨RX11, "exit", "(IZ)Z"⟩
abbrev cX11_begin : ByteArray := prog_13_method_11_code
def yX11_begin : MethodName := ⟨RX11, "begin", "(I)Z"⟩
abbrev cX11_count : ByteArray := prog_13_method_12_code
def yX11_count : MethodName := ⟨RX11, "count", "(I)I"⟩
abbrev cX11_far : ByteArray := prog_13_method_13_code
def yX11_far : MethodName := ⟨RX11, "far", "(II)I"⟩
abbrev cX11_fact : ByteArray := prog_13_method_14_code
def yX11_fact : MethodName := ⟨RX11, "fact", "(IZII)I"⟩
abbrev cX11_seen : ByteArray := prog_13_method_15_code
def yX11_seen : MethodName := ⟨RX11, "seen", "(II)I"⟩
abbrev cX11_vain : ByteArray := prog_13_method_16_code
def yX11_vain : MethodName := ⟨RX11, "vain", "(II)I"⟩
abbrev cX11_guarded : ByteArray := prog_13_method_17_code
def yX11_guarded : MethodName := ⟨RX11, "guarded", "(II)I"⟩
abbrev cX11_strike : ByteArray := prog_13_method_18_code
def yX11_strike : MethodName := ⟨RX11, "strike", "(IZ)Z"⟩
abbrev cX11_letsIn : ByteArray := prog_13_method_19_code
def yX11_letsIn : MethodName := ⟨RX11, "letsIn", "(II)Z"⟩
abbrev cX11_isClear : ByteArray := prog_13_method_20_code
def yX11_isClear : MethodName := ⟨RX11, "isClear", "(III)Z"⟩
abbrev cX11_cell : ByteArray := prog_13_method_21_code
def yX11_cell : MethodName := ⟨RX11, "cell", "(II)I"⟩
abbrev cX11_other : ByteArray := prog_13_method_22_code
def yX11_other : MethodName := ⟨RX11, "other", "(II)I"⟩
abbrev cX11_mayCome : ByteArray := prog_13_method_23_code
def yX11_mayCome : MethodName := ⟨RX11, "mayCome", "(IIII)Z"⟩
abbrev cX11_walks : ByteArray := prog_13_method_24_code
def yX11_walks : MethodName := ⟨RX11, "walks", "(III)V"⟩
abbrev cX11_walksOn : ByteArray := prog_13_method_25_code
def yX11_walksOn : MethodName := ⟨RX11, "walksOn", "()V"⟩
abbrev cX11_mayGo : ByteArray := prog_13_method_26_code
def yX11_mayGo : MethodName := ⟨RX11, "mayGo", "(III)Z"⟩
abbrev cX11_isAsked : ByteArray := prog_13_method_27_code
def yX11_isAsked : MethodName := ⟨RX11, "isAsked", "(II)Z"⟩
abbrev cX11_may : ByteArray := prog_13_method_28_code
def yX11_may : MethodName := ⟨RX11, "may", "(II)I"⟩
abbrev cX11_was : ByteArray := prog_13_method_29_code
def yX11_was : MethodName := ⟨RX11, "was", "(II)I"⟩
abbrev cX11_places : ByteArray := prog_13_method_30_code
def yX11_places : MethodName := ⟨RX11, "places", "(II)I"⟩
abbrev cX11_first : ByteArray := prog_13_method_31_code
def yX11_first : MethodName := ⟨RX11, "first", "(I)I"⟩
abbrev cX11_trail : ByteArray := prog_13_method_32_code
def yX11_trail : MethodName := ⟨RX11, "trail", "(II)I"⟩
abbrev cX11_agrees : ByteArray := prog_13_method_33_code
def yX11_agrees : MethodName := ⟨RX11, "agrees", "()Z"⟩
abbrev cX11_quarrel : ByteArray := prog_13_method_34_code
def yX11_quarrel : MethodName := ⟨RX11, "quarrel", "()J"⟩
abbrev cX11_getsOut : ByteArray := prog_13_method_35_code
def yX11_getsOut : MethodName := ⟨RX11, "getsOut", "(III)Z"⟩
abbrev cX11_watchers : ByteArray := prog_13_method_36_code
def yX11_watchers : MethodName := ⟨RX11, "watchers", "(IIIII)I"⟩
abbrev cX11_watch : ByteArray := prog_13_method_37_code
def yX11_watch : MethodName := ⟨RX11, "watch", "(II)I"⟩
abbrev cX11_trait : ByteArray := prog_13_method_38_code
def yX11_trait : MethodName := ⟨RX11, "trait", "(III)Z"⟩
abbrev cX11_telling : ByteArray := prog_13_method_39_code
def yX11_telling : MethodName := ⟨RX11, "telling", "(I)I"⟩
abbrev cX11_person : ByteArray := prog_13_method_40_code
def yX11_person : MethodName := ⟨RX11, "person", "(III)I"⟩
abbrev cX11_unfit : ByteArray := prog_13_method_41_code
def yX11_unfit : MethodName := ⟨RX11, "unfit", "(I)I"⟩
abbrev cX11_fits : ByteArray := prog_13_method_42_code
def yX11_fits : MethodName := ⟨RX11, "fits", "(I)I"⟩
abbrev cX11_many : ByteArray := prog_13_method_43_code
def yX11_many : MethodName := ⟨RX11, "many", "(I)I"⟩
abbrev cX11_suspects : ByteArray := prog_13_method_44_code
def yX11_suspects : MethodName := ⟨RX11, "suspects", "(I)I"⟩
abbrev cX11_sign : ByteArray := prog_13_method_45_code
def yX11_sign : MethodName := ⟨RX11, "sign", "(I)I"⟩
abbrev cX11_end : ByteArray := prog_13_method_46_code
def yX11_end : MethodName := ⟨RX11, "end", "(I)Z"⟩
abbrev cX11_isSign : ByteArray := prog_13_method_47_code
def yX11_isSign : MethodName := ⟨RX11, "isSign", "(ILjava/lang/String;)Z"⟩
abbrev cX11_digits : ByteArray := prog_13_method_48_code
def yX11_digits : MethodName := ⟨RX11, "digits", "(I)Z"⟩
abbrev cX11_ask : ByteArray := prog_13_method_49_code
def yX11_ask : MethodName := ⟨RX11, "ask", "(I)Z"⟩
abbrev cX11_reads : ByteArray := prog_13_method_50_code
def yX11_reads : MethodName := ⟨RX11, "reads", "(I)Z"⟩
abbrev cX11_act : ByteArray := prog_13_method_51_code
def yX11_act : MethodName := ⟨RX11, "act", "()I"⟩
abbrev cX11_repeal : ByteArray := prog_13_method_52_code
def yX11_repeal : MethodName := ⟨RX11, "repeal", "()I"⟩
abbrev cX11_claim : ByteArray := prog_13_method_53_code
def yX11_claim : MethodName := ⟨RX11, "claim", "(II)I"⟩
abbrev cX11_holds : ByteArray := prog_13_method_54_code
def yX11_holds : MethodName := ⟨RX11, "holds", "(II)Z"⟩
abbrev cX11_weightOf : ByteArray := prog_13_method_55_code
def yX11_weightOf : MethodName := ⟨RX11, "weightOf", "(I)I"⟩
abbrev cX11_weight : ByteArray := prog_13_method_56_code
def yX11_weight : MethodName := ⟨RX11, "weight", "(I)I"⟩
abbrev cX11_reward : ByteArray := prog_13_method_57_code
def yX11_reward : MethodName := ⟨RX11, "reward", "(I)I"⟩
abbrev cX11_waive : ByteArray := prog_13_method_58_code
def yX11_waive : MethodName := ⟨RX11, "waive", "()I"⟩
abbrev cX11_row : ByteArray := prog_13_method_59_code
def yX11_row : MethodName := ⟨RX11, "row", "(I)I"⟩
def RJ11 : String := "java/lang/Character"
def TJ11 : u_T := fun k => match k with
  | _ => ("", "", "", false)
def tyJ11 : Nat → FieldType := fun k => match k with
  | _ => .int
abbrev wsJ110 : List Cond := u_ws RJ11 TJ11 0
theorem nmJ11 : ∀ a, a < 0 → ∀ b, b < 0 → a ≠ b → (TJ11 a).2.1 ≠ (TJ11 b).2.1 := by decide +kernel
theorem tyJ11_ok : ∀ k, k < 0 → parseFieldDescriptor (TJ11 k).2.2.1 = some (tyJ11 k) := by decide +kernel
abbrev cJ11_isValidCodePoint_9a6ad : ByteArray := prog_14_method_11_code
def yJ11_isValidCodePoint_9a6ad : MethodName := ⟨RJ11, "isValidCodePoint", "(I)Z"⟩
abbrev cJ11_highSurrogate_5068e : ByteArray := prog_14_method_28_code
def yJ11_highSurrogate_5068e : MethodName := ⟨RJ11, "highSurrogate", "(I)C"⟩
abbrev cJ11_lowSurrogate_5068e : ByteArray := prog_14_method_29_code
def yJ11_lowSurrogate_5068e : MethodName := ⟨RJ11, "lowSurrogate", "(I)C"⟩
def RJ6 : String := "java/lang/Integer"
def TJ6 : u_T := fun k => match k with
  | _ => ("", "", "", false)
def tyJ6 : Nat → FieldType := fun k => match k with
  | _ => .int
abbrev wsJ60 : List Cond := u_ws RJ6 TJ6 0
theorem nmJ6 : ∀ a, a < 0 → ∀ b, b < 0 → a ≠ b → (TJ6 a).2.1 ≠ (TJ6 b).2.1 := by decide +kernel
theorem tyJ6_ok : ∀ k, k < 0 → parseFieldDescriptor (TJ6 k).2.2.1 = some (tyJ6 k) := by decide +kernel
abbrev cJ6_numberOfTrailingZeros_0f7a4 : ByteArray := prog_16_method_48_code
def yJ6_numberOfTrailingZeros_0f7a4 : MethodName := ⟨RJ6, "numberOfTrailingZeros", "(I)I"⟩
def RJ9 : String := "java/lang/Math"
def TJ9 : u_T := fun k => match k with
  | _ => ("", "", "", false)
def tyJ9 : Nat → FieldType := fun k => match k with
  | _ => .int
abbrev wsJ90 : List Cond := u_ws RJ9 TJ9 0
theorem nmJ9 : ∀ a, a < 0 → ∀ b, b < 0 → a ≠ b → (TJ9 a).2.1 ≠ (TJ9 b).2.1 := by decide +kernel
theorem tyJ9_ok : ∀ k, k < 0 → parseFieldDescriptor (TJ9 k).2.2.1 = some (tyJ9 k) := by decide +kernel
abbrev cJ9_abs_0f7a4 : ByteArray := prog_17_method_59_code
def yJ9_abs_0f7a4 : MethodName := ⟨RJ9, "abs", "(I)I"⟩
abbrev cJ9_max_7cf53 : ByteArray := prog_17_method_65_code
def yJ9_max_7cf53 : MethodName := ⟨RJ9, "max", "(II)I"⟩
abbrev cJ9_min_7cf53 : ByteArray := prog_17_method_69_code
def yJ9_min_7cf53 : MethodName := ⟨RJ9, "min", "(II)I"⟩
def RJ0 : String := "java/lang/String"
def TJ0 : u_T := fun k => match k with
  | _ => ("", "", "", false)
def tyJ0 : Nat → FieldType := fun k => match k with
  | _ => .int
abbrev wsJ00 : List Cond := u_ws RJ0 TJ0 0
theorem nmJ0 : ∀ a, a < 0 → ∀ b, b < 0 → a ≠ b → (TJ0 a).2.1 ≠ (TJ0 b).2.1 := by decide +kernel
theorem tyJ0_ok : ∀ k, k < 0 → parseFieldDescriptor (TJ0 k).2.2.1 = some (tyJ0 k) := by decide +kernel
abbrev cJ0_length_8abf5 : ByteArray := prog_19_method_54_code
def yJ0_length_8abf5 : MethodName := ⟨RJ0, "length", "()I"⟩
abbrev cJ0_indexOf_0f7a4 : ByteArray := prog_19_method_79_code
def yJ0_indexOf_0f7a4 : MethodName := ⟨RJ0, "indexOf", "(I)I"⟩
abbrev cJ0_indexOf_7cf53 : ByteArray := prog_19_method_80_code
def yJ0_indexOf_7cf53 : MethodName := ⟨RJ0, "indexOf", "(II)I"⟩
abbrev cJ0_coder_7d493 : ByteArray := prog_19_method_152_code
def yJ0_coder_7d493 : MethodName := ⟨RJ0, "coder", "()B"⟩
abbrev cJ0_isLatin1_aae02 : ByteArray := prog_19_method_154_code
def yJ0_isLatin1_aae02 : MethodName := ⟨RJ0, "isLatin1", "()Z"⟩
abbrev cJ0_checkBoundsBeginEnd_23922 : ByteArray := prog_19_method_158_code
def yJ0_checkBoundsBeginEnd_23922 : MethodName := ⟨RJ0, "checkBoundsBeginEnd", "(III)V"⟩
def RJ1 : String := "java/lang/StringLatin1"
def TJ1 : u_T := fun k => match k with
  | _ => ("", "", "", false)
def tyJ1 : Nat → FieldType := fun k => match k with
  | _ => .int
abbrev wsJ10 : List Cond := u_ws RJ1 TJ1 0
theorem nmJ1 : ∀ a, a < 0 → ∀ b, b < 0 → a ≠ b → (TJ1 a).2.1 ≠ (TJ1 b).2.1 := by decide +kernel
theorem tyJ1_ok : ∀ k, k < 0 → parseFieldDescriptor (TJ1 k).2.2.1 = some (tyJ1 k) := by decide +kernel
abbrev cJ1_canEncode_9a6ad : ByteArray := prog_20_method_4_code
def yJ1_canEncode_9a6ad : MethodName := ⟨RJ1, "canEncode", "(I)Z"⟩
abbrev cJ1_indexOf_4cfef : ByteArray := prog_20_method_22_code
def yJ1_indexOf_4cfef : MethodName := ⟨RJ1, "indexOf", "([BIII)I"⟩
abbrev cJ1_indexOfChar_4cfef : ByteArray := prog_20_method_23_code
def yJ1_indexOfChar_4cfef : MethodName := ⟨RJ1, "indexOfChar", "([BIII)I"⟩
def RJ2 : String := "java/lang/StringUTF16"
def TJ2 : u_T := fun k => match k with
  | _ => ("", "", "", false)
def tyJ2 : Nat → FieldType := fun k => match k with
  | _ => .int
abbrev wsJ20 : List Cond := u_ws RJ2 TJ2 0
theorem nmJ2 : ∀ a, a < 0 → ∀ b, b < 0 → a ≠ b → (TJ2 a).2.1 ≠ (TJ2 b).2.1 := by decide +kernel
theorem tyJ2_ok : ∀ k, k < 0 → parseFieldDescriptor (TJ2 k).2.2.1 = some (tyJ2 k) := by decide +kernel
abbrev cJ2_getChar_3b067 : ByteArray := prog_21_method_5_code
def yJ2_getChar_3b067 : MethodName := ⟨RJ2, "getChar", "([BI)C"⟩
abbrev cJ2_length_9d52b : ByteArray := prog_21_method_6_code
def yJ2_length_9d52b : MethodName := ⟨RJ2, "length", "([B)I"⟩
abbrev cJ2_indexOf_4cfef : ByteArray := prog_21_method_40_code
def yJ2_indexOf_4cfef : MethodName := ⟨RJ2, "indexOf", "([BIII)I"⟩
abbrev cJ2_indexOfChar_4cfef : ByteArray := prog_21_method_47_code
def yJ2_indexOfChar_4cfef : MethodName := ⟨RJ2, "indexOfChar", "([BIII)I"⟩
abbrev cJ2_indexOfCharUnsafe_4cfef : ByteArray := prog_21_method_48_code
def yJ2_indexOfCharUnsafe_4cfef : MethodName := ⟨RJ2, "indexOfCharUnsafe", "([BIII)I"⟩
abbrev cJ2_indexOfSupplementary_4cfef : ByteArray := prog_21_method_49_code
def yJ2_indexOfSupplementary_4cfef : MethodName := ⟨RJ2, "indexOfSupplementary", "([BIII)I"⟩
abbrev cJ2_checkBoundsBeginEnd_d044e : ByteArray := prog_21_method_93_code
def yJ2_checkBoundsBeginEnd_d044e : MethodName := ⟨RJ2, "checkBoundsBeginEnd", "(II[B)V"⟩
def RJ3 : String := "jdk/internal/util/Preconditions"
def TJ3 : u_T := fun k => match k with
  | _ => ("", "", "", false)
def tyJ3 : Nat → FieldType := fun k => match k with
  | _ => .int
abbrev wsJ30 : List Cond := u_ws RJ3 TJ3 0
theorem nmJ3 : ∀ a, a < 0 → ∀ b, b < 0 → a ≠ b → (TJ3 a).2.1 ≠ (TJ3 b).2.1 := by decide +kernel
theorem tyJ3_ok : ∀ k, k < 0 → parseFieldDescriptor (TJ3 k).2.2.1 = some (tyJ3 k) := by decide +kernel
abbrev cJ3_checkFromToIndex_8c36e : ByteArray := prog_24_method_12_code
def yJ3_checkFromToIndex_8c36e : MethodName := ⟨RJ3, "checkFromToIndex", "(IIILjava/util/function/BiFunction;)I"⟩
def RL : String := "HueAndCryLaw"
abbrev cL_row : ByteArray := method_3_code
def yL_row : MethodName := ⟨RL, "row", "(LHueAndCry;I[J)I"⟩
abbrev cL_law : ByteArray := code
def yL_law : MethodName := ⟨RL, "law", "([I)Z"⟩
abbrev vwCl : List vw_C := [(RX0, TX0, 7), (RX1, TX1, 6), (RX2, TX2, 6), (RX3, TX3, 4), (RX4, TX4, 2), (RX5, TX5, 5), (RX6, TX6, 10), (RX7, TX7, 7), (RX8, TX8, 2), (RX9, TX9, 2), (RX10, TX10, 8), (RX11, TX11, 39)]
end
section
/-! THE ABSTRACT MACHINE: cells by number, locals, stack; its rules over any predicate V; the runs of a method -/
abbrev mv_C : Type := (Nat × vp_A) ⊕ (Nat × List Value)
abbrev mv_S : Type := Nat × Nat × (Nat → mv_C)
abbrev mv_L : Type := List (Option Value)
abbrev mv_I : Type := Instr × Nat × Nat × Nat × Value
/-- the instruction at a place -/
def mv_at : List (Nat × mv_I) → Nat → Option mv_I
  | [], _ => none
  | q :: r, pc => bif Nat.beq q.1 pc then some q.2 else mv_at r pc
def mv_isL : Option Value → Bool
  | some (.long _) => true
  | some (.double _) => true
  | _ => false
/-- a place to store at: it is one of the locals, and what stands before it is no long -/
def mv_pre (ls : mv_L) : Nat → Bool
  | 0 => Nat.blt 0 ls.length
  | j + 1 => Nat.blt (j + 1) ls.length && !mv_isL (ls.getD j none)
/-- fewer locals are known -/
def mv_le (l1 l : mv_L) : Prop := l1.length = l.length ∧ ∀ (i : Nat) (v : Value), l1[i]? = some (some v) → l[i]? = some (some v)
def mv_wd (st : List Value) : Nat := (st.map fun v => v.category).sum
def mv_sl : List Value → mv_L
  | [] => []
  | .long x :: r => some (.long x) :: none :: mv_sl r
  | .double x :: r => some (.double x) :: none :: mv_sl r
  | v :: r => some v :: mv_sl r
def mv_ent (n : Nat) (as : List Value) : mv_L := mv_sl as ++ List.replicate (n - (mv_sl as).length) none
/-- an answer fits the method's type -/
def mv_rok (rt : Option FieldType) (x : Int32) : Prop := rt = some .int ∨ (rt = some .boolean ∧ (x = 0 ∨ x = 1))

/-- of each class' fields: is it an int (else a reference) -/
def mv_ft : List (List Bool) := [[false, false, false, true, true, true, true], [false, false, false, false, false, false], [false, false, false, false, true, true], [false, false, false, true], [false, false], [false, false, false, false, true], [false, false, false, false, false, false, true, true, true, true], [false, false, false, false, true, true, true], [false, true], [false, true], [false, false, false, false, false, false, false, false], [true, true, false, false, true, false, false, false, false, true, false, true, false, false, false, false, false, false, true, false, false, false, false, true, false, false, false, true, true, false, false, false, false, false, true, true, true, false, false]]
def mv_df (ci : Nat) : List Value := (mv_ft.getD ci []).map (fun b => bif b then .int 0 else .null)
def mv_vok (ci k : Nat) : Value → Bool
  | .int _ => (mv_ft.getD ci []).getD k false
  | .ref _ => !((mv_ft.getD ci []).getD k true)
  | _ => false
def mv_strs : List (List Int32) := [[110, 111, 32, 115, 117, 99, 104, 32, 110, 117, 109, 98, 101, 114, 32, 105, 110, 32, 116, 104, 101, 32, 114, 111, 119], [110, 104, 99], [60, 62, 61], [48, 49, 50, 51, 52, 53, 54, 55, 56, 57], [38], [58]]
def mv_ixl : List Int32 → Int32 → Int32 → Int32
  | [], _, _ => -1
  | c :: r, k, x => if x = c then k else mv_ixl r (k + 1) x
def mv_ix (j : Nat) (x : Int32) : Int32 := mv_ixl (mv_strs.getD j []) 0 x
def pX0_init : List (Nat × mv_I) := [(0, .aload_n 0, 1, 0, 0, .null), (1, .invokespecial 3, 4, 275, 999, .null), (4, .aload_n 0, 5, 0, 0, .null), (5, .bipush 10, 7, 0, 0, .int 10), (7, .newarray .int, 9, 0, 0, .null), (9, .putfield 9, 12, 0, 0, .ref 0),
  (12, .aload_n 0, 13, 0, 0, .null), (13, .bipush 10, 15, 0, 0, .int 10), (15, .newarray .int, 17, 0, 0, .null), (17, .putfield 15, 20, 0, 1, .ref 1), (20, .aload_n 0, 21, 0, 0, .null), (21, .bipush 10, 23, 0, 0, .int 10),
  (23, .newarray .int, 25, 0, 0, .null), (25, .putfield 18, 28, 0, 2, .ref 2), (28, .aload_n 0, 29, 0, 0, .null), (29, .iconst 0, 30, 0, 0, .int 0), (30, .putfield 21, 33, 0, 3, .ref 3), (33, .aload_n 0, 34, 0, 0, .null),
  (34, .iconst 0, 35, 0, 0, .int 0), (35, .putfield 25, 38, 0, 4, .ref 4), (38, .aload_n 0, 39, 0, 0, .null), (39, .iconst 0, 40, 0, 0, .int 0), (40, .putfield 28, 43, 0, 5, .ref 5), (43, .aload_n 0, 44, 0, 0, .null),
  (44, .iconst 0, 45, 0, 0, .int 0), (45, .putfield 31, 48, 0, 6, .ref 6), (48, .return_, 49, 0, 0, .null)]
def pX0_read : List (Nat × mv_I) := [(0, .aload_n 0, 1, 0, 0, .null), (1, .iconst 0, 2, 0, 0, .int 0), (2, .putfield 21, 5, 0, 3, .ref 3), (5, .aload_n 0, 6, 0, 0, .null), (6, .iconst 0, 7, 0, 0, .int 0), (7, .putfield 25, 10, 0, 4, .ref 4),
  (10, .aload_n 0, 11, 0, 0, .null), (11, .iconst 0, 12, 0, 0, .int 0), (12, .putfield 28, 15, 0, 5, .ref 5), (15, .iconst 0, 16, 0, 0, .int 0), (16, .istore_n 2, 17, 0, 0, .null), (17, .iload_n 2, 18, 0, 0, .null),
  (18, .aload_n 1, 19, 0, 0, .null), (19, .getfield 34, 22, 9, 1, .ref 7), (22, .if_icmp .ge 30, 25, 52, 0, .null), (25, .iload_n 2, 26, 0, 0, .null), (26, .bipush 40, 28, 0, 0, .int 40), (28, .if_icmp .ge 16, 31, 44, 0, .null),
  (31, .aload_n 0, 32, 0, 0, .null), (32, .aload_n 1, 33, 0, 0, .null), (33, .getfield 39, 36, 9, 0, .ref 8), (36, .iload_n 2, 37, 0, 0, .null), (37, .iaload, 38, 0, 0, .null), (38, .invokevirtual 42, 41, 0, 2, .null),
  (41, .ifCond .ne 5, 44, 46, 0, .null), (44, .iload_n 2, 45, 0, 0, .null), (45, .ireturn, 46, 0, 0, .null), (46, .iinc 2 1, 49, 0, 0, .int 1), (49, .goto (-32), 52, 17, 0, .null), (52, .aload_n 0, 53, 0, 0, .null),
  (53, .getfield 28, 56, 0, 5, .ref 5), (56, .iconst 3, 57, 0, 0, .int 3), (57, .if_icmp .ne 14, 60, 71, 0, .null), (60, .aload_n 0, 61, 0, 0, .null), (61, .getfield 31, 64, 0, 6, .ref 6), (64, .ifCond .le 7, 67, 71, 0, .null),
  (67, .iconst (-1), 68, 0, 0, .int (-1)), (68, .goto 7, 71, 75, 0, .null), (71, .aload_n 1, 72, 0, 0, .null), (72, .getfield 34, 75, 9, 1, .ref 7), (75, .ireturn, 76, 0, 0, .null)]
def pX0_takes : List (Nat × mv_I) := [(0, .aload_n 0, 1, 0, 0, .null), (1, .getfield 28, 4, 0, 5, .ref 5), (4, .tableswitch 46 0 2 #[28, 34, 40], 32, 0, 4, .null), (32, .aload_n 0, 33, 0, 0, .null), (33, .iload_n 1, 34, 0, 0, .null), (34, .invokevirtual 46, 37, 1, 3, .null),
  (37, .ireturn, 38, 0, 0, .null), (38, .aload_n 0, 39, 0, 0, .null), (39, .iload_n 1, 40, 0, 0, .null), (40, .invokevirtual 49, 43, 2, 4, .null), (43, .ireturn, 44, 0, 0, .null), (44, .aload_n 0, 45, 0, 0, .null),
  (45, .iload_n 1, 46, 0, 0, .null), (46, .invokevirtual 52, 49, 3, 5, .null), (49, .ireturn, 50, 0, 0, .null), (50, .aload_n 0, 51, 0, 0, .null), (51, .iload_n 1, 52, 0, 0, .null), (52, .invokevirtual 55, 55, 4, 6, .null),
  (55, .ireturn, 56, 0, 0, .null)]
def pX0_takesLetter : List (Nat × mv_I) := [(0, .iload_n 1, 1, 0, 0, .null), (1, .bipush 110, 3, 0, 0, .int 110), (3, .if_icmp .eq 15, 6, 18, 0, .null), (6, .iload_n 1, 7, 0, 0, .null), (7, .bipush 104, 9, 0, 0, .int 104), (9, .if_icmp .eq 9, 12, 18, 0, .null),
  (12, .iload_n 1, 13, 0, 0, .null), (13, .bipush 99, 15, 0, 0, .int 99), (15, .if_icmp .ne 7, 18, 22, 0, .null), (18, .iconst 1, 19, 0, 0, .int 1), (19, .goto 4, 22, 23, 0, .null), (22, .iconst 0, 23, 0, 0, .int 0),
  (23, .istore_n 2, 24, 0, 0, .null), (24, .iload_n 2, 25, 0, 0, .null), (25, .ifCond .eq 12, 28, 37, 0, .null), (28, .aload_n 0, 29, 0, 0, .null), (29, .getfield 21, 32, 0, 3, .ref 3), (32, .bipush 10, 34, 0, 0, .int 10),
  (34, .if_icmp .lt 5, 37, 39, 0, .null), (37, .iconst 0, 38, 0, 0, .int 0), (38, .ireturn, 39, 0, 0, .null), (39, .aload_n 0, 40, 0, 0, .null), (40, .getfield 9, 43, 0, 0, .ref 0), (43, .aload_n 0, 44, 0, 0, .null),
  (44, .getfield 21, 47, 0, 3, .ref 3), (47, .iload_n 1, 48, 0, 0, .null), (48, .iastore, 49, 0, 0, .null), (49, .aload_n 0, 50, 0, 0, .null), (50, .iconst 1, 51, 0, 0, .int 1), (51, .putfield 28, 54, 0, 5, .ref 5),
  (54, .iconst 1, 55, 0, 0, .int 1), (55, .ireturn, 56, 0, 0, .null)]
def pX0_takesComparison : List (Nat × mv_I) := [(0, .iload_n 1, 1, 0, 0, .null), (1, .bipush 60, 3, 0, 0, .int 60), (3, .if_icmp .eq 15, 6, 18, 0, .null), (6, .iload_n 1, 7, 0, 0, .null), (7, .bipush 62, 9, 0, 0, .int 62), (9, .if_icmp .eq 9, 12, 18, 0, .null),
  (12, .iload_n 1, 13, 0, 0, .null), (13, .bipush 61, 15, 0, 0, .int 61), (15, .if_icmp .ne 7, 18, 22, 0, .null), (18, .iconst 1, 19, 0, 0, .int 1), (19, .goto 4, 22, 23, 0, .null), (22, .iconst 0, 23, 0, 0, .int 0),
  (23, .istore_n 2, 24, 0, 0, .null), (24, .iload_n 2, 25, 0, 0, .null), (25, .ifCond .eq 12, 28, 37, 0, .null), (28, .aload_n 0, 29, 0, 0, .null), (29, .getfield 21, 32, 0, 3, .ref 3), (32, .bipush 10, 34, 0, 0, .int 10),
  (34, .if_icmp .lt 5, 37, 39, 0, .null), (37, .iconst 0, 38, 0, 0, .int 0), (38, .ireturn, 39, 0, 0, .null), (39, .aload_n 0, 40, 0, 0, .null), (40, .getfield 15, 43, 0, 1, .ref 1), (43, .aload_n 0, 44, 0, 0, .null),
  (44, .getfield 21, 47, 0, 3, .ref 3), (47, .iload_n 1, 48, 0, 0, .null), (48, .iastore, 49, 0, 0, .null), (49, .aload_n 0, 50, 0, 0, .null), (50, .getfield 18, 53, 0, 2, .ref 2), (53, .aload_n 0, 54, 0, 0, .null),
  (54, .getfield 21, 57, 0, 3, .ref 3), (57, .iconst 0, 58, 0, 0, .int 0), (58, .iastore, 59, 0, 0, .null), (59, .aload_n 0, 60, 0, 0, .null), (60, .iconst 0, 61, 0, 0, .int 0), (61, .putfield 31, 64, 0, 6, .ref 6),
  (64, .aload_n 0, 65, 0, 0, .null), (65, .iconst 2, 66, 0, 0, .int 2), (66, .putfield 28, 69, 0, 5, .ref 5), (69, .iconst 1, 70, 0, 0, .int 1), (70, .ireturn, 71, 0, 0, .null)]
def pX0_takesInNumber : List (Nat × mv_I) := [(0, .aload_n 0, 1, 0, 0, .null), (1, .getfield 21, 4, 0, 3, .ref 3), (4, .bipush 10, 6, 0, 0, .int 10), (6, .if_icmp .lt 5, 9, 11, 0, .null), (9, .iconst 0, 10, 0, 0, .int 0), (10, .ireturn, 11, 0, 0, .null),
  (11, .iload_n 1, 12, 0, 0, .null), (12, .invokestatic 58, 15, 5, 7, .null), (15, .ifCond .eq 49, 18, 64, 0, .null), (18, .aload_n 0, 19, 0, 0, .null), (19, .getfield 31, 22, 0, 6, .ref 6), (22, .iconst 3, 23, 0, 0, .int 3),
  (23, .if_icmp .ge 41, 26, 64, 0, .null), (26, .aload_n 0, 27, 0, 0, .null), (27, .getfield 18, 30, 0, 2, .ref 2), (30, .aload_n 0, 31, 0, 0, .null), (31, .getfield 21, 34, 0, 3, .ref 3), (34, .aload_n 0, 35, 0, 0, .null),
  (35, .getfield 18, 38, 0, 2, .ref 2), (38, .aload_n 0, 39, 0, 0, .null), (39, .getfield 21, 42, 0, 3, .ref 3), (42, .iaload, 43, 0, 0, .null), (43, .bipush 10, 45, 0, 0, .int 10), (45, .imul, 46, 0, 0, .null),
  (46, .iload_n 1, 47, 0, 0, .null), (47, .iadd, 48, 0, 0, .null), (48, .bipush 48, 50, 0, 0, .int 48), (50, .isub, 51, 0, 0, .null), (51, .iastore, 52, 0, 0, .null), (52, .aload_n 0, 53, 0, 0, .null),
  (53, .dup, 54, 0, 0, .null), (54, .getfield 31, 57, 0, 6, .ref 6), (57, .iconst 1, 58, 0, 0, .int 1), (58, .iadd, 59, 0, 0, .null), (59, .putfield 31, 62, 0, 6, .ref 6), (62, .iconst 1, 63, 0, 0, .int 1),
  (63, .ireturn, 64, 0, 0, .null), (64, .aload_n 0, 65, 0, 0, .null), (65, .getfield 31, 68, 0, 6, .ref 6), (68, .ifCond .eq 15, 71, 83, 0, .null), (71, .iload_n 1, 72, 0, 0, .null), (72, .bipush 38, 74, 0, 0, .int 38),
  (74, .if_icmp .eq 11, 77, 85, 0, .null), (77, .iload_n 1, 78, 0, 0, .null), (78, .bipush 58, 80, 0, 0, .int 58), (80, .if_icmp .eq 5, 83, 85, 0, .null), (83, .iconst 0, 84, 0, 0, .int 0), (84, .ireturn, 85, 0, 0, .null),
  (85, .aload_n 0, 86, 0, 0, .null), (86, .dup, 87, 0, 0, .null), (87, .getfield 21, 90, 0, 3, .ref 3), (90, .iconst 1, 91, 0, 0, .int 1), (91, .iadd, 92, 0, 0, .null), (92, .putfield 21, 95, 0, 3, .ref 3),
  (95, .aload_n 0, 96, 0, 0, .null), (96, .iconst 0, 97, 0, 0, .int 0), (97, .putfield 31, 100, 0, 6, .ref 6), (100, .aload_n 0, 101, 0, 0, .null), (101, .iload_n 1, 102, 0, 0, .null), (102, .bipush 38, 104, 0, 0, .int 38),
  (104, .if_icmp .ne 7, 107, 111, 0, .null), (107, .iconst 0, 108, 0, 0, .int 0), (108, .goto 4, 111, 112, 0, .null), (111, .iconst 3, 112, 0, 0, .int 3), (112, .putfield 28, 115, 0, 5, .ref 5), (115, .iconst 1, 116, 0, 0, .int 1),
  (116, .ireturn, 117, 0, 0, .null)]
def pX0_takesInWeight : List (Nat × mv_I) := [(0, .iload_n 1, 1, 0, 0, .null), (1, .invokestatic 58, 4, 5, 7, .null), (4, .ifCond .eq 11, 7, 15, 0, .null), (7, .aload_n 0, 8, 0, 0, .null), (8, .getfield 31, 11, 0, 6, .ref 6), (11, .iconst 3, 12, 0, 0, .int 3),
  (12, .if_icmp .lt 5, 15, 17, 0, .null), (15, .iconst 0, 16, 0, 0, .int 0), (16, .ireturn, 17, 0, 0, .null), (17, .aload_n 0, 18, 0, 0, .null), (18, .aload_n 0, 19, 0, 0, .null), (19, .getfield 25, 22, 0, 4, .ref 4),
  (22, .bipush 10, 24, 0, 0, .int 10), (24, .imul, 25, 0, 0, .null), (25, .iload_n 1, 26, 0, 0, .null), (26, .iadd, 27, 0, 0, .null), (27, .bipush 48, 29, 0, 0, .int 48), (29, .isub, 30, 0, 0, .null),
  (30, .putfield 25, 33, 0, 4, .ref 4), (33, .aload_n 0, 34, 0, 0, .null), (34, .dup, 35, 0, 0, .null), (35, .getfield 31, 38, 0, 6, .ref 6), (38, .iconst 1, 39, 0, 0, .int 1), (39, .iadd, 40, 0, 0, .null),
  (40, .putfield 31, 43, 0, 6, .ref 6), (43, .iconst 1, 44, 0, 0, .int 1), (44, .ireturn, 45, 0, 0, .null)]
def pX0_isDigit : List (Nat × mv_I) := [(0, .iload_n 0, 1, 0, 0, .null), (1, .bipush 48, 3, 0, 0, .int 48), (3, .if_icmp .lt 13, 6, 16, 0, .null), (6, .iload_n 0, 7, 0, 0, .null), (7, .bipush 57, 9, 0, 0, .int 57), (9, .if_icmp .gt 7, 12, 16, 0, .null),
  (12, .iconst 1, 13, 0, 0, .int 1), (13, .goto 4, 16, 17, 0, .null), (16, .iconst 0, 17, 0, 0, .int 0), (17, .ireturn, 18, 0, 0, .null)]
def pX0_isFor : List (Nat × mv_I) := [(0, .iconst 0, 1, 0, 0, .int 0), (1, .istore 4, 3, 0, 0, .null), (3, .iload 4, 5, 0, 0, .null), (5, .aload_n 0, 6, 0, 0, .null), (6, .getfield 21, 9, 0, 3, .ref 3), (9, .if_icmp .ge 75, 12, 84, 0, .null),
  (12, .iload 4, 14, 0, 0, .null), (14, .bipush 10, 16, 0, 0, .int 10), (16, .if_icmp .ge 68, 19, 84, 0, .null), (19, .aload_n 0, 20, 0, 0, .null), (20, .getfield 9, 23, 0, 0, .ref 0), (23, .iload 4, 25, 0, 0, .null),
  (25, .iaload, 26, 0, 0, .null), (26, .bipush 110, 28, 0, 0, .int 110), (28, .if_icmp .ne 7, 31, 35, 0, .null), (31, .iload_n 1, 32, 0, 0, .null), (32, .goto 20, 35, 52, 0, .null), (35, .aload_n 0, 36, 0, 0, .null),
  (36, .getfield 9, 39, 0, 0, .ref 0), (39, .iload 4, 41, 0, 0, .null), (41, .iaload, 42, 0, 0, .null), (42, .bipush 104, 44, 0, 0, .int 104), (44, .if_icmp .ne 7, 47, 51, 0, .null), (47, .iload_n 2, 48, 0, 0, .null),
  (48, .goto 4, 51, 52, 0, .null), (51, .iload_n 3, 52, 0, 0, .null), (52, .istore 5, 54, 0, 0, .null), (54, .iload 5, 56, 0, 0, .null), (56, .aload_n 0, 57, 0, 0, .null), (57, .getfield 15, 60, 0, 1, .ref 1),
  (60, .iload 4, 62, 0, 0, .null), (62, .iaload, 63, 0, 0, .null), (63, .aload_n 0, 64, 0, 0, .null), (64, .getfield 18, 67, 0, 2, .ref 2), (67, .iload 4, 69, 0, 0, .null), (69, .iaload, 70, 0, 0, .null),
  (70, .invokestatic 61, 73, 6, 9, .null), (73, .ifCond .ne 5, 76, 78, 0, .null), (76, .iconst 0, 77, 0, 0, .int 0), (77, .ireturn, 78, 0, 0, .null), (78, .iinc 4 1, 81, 0, 0, .int 1), (81, .goto (-78), 84, 3, 0, .null),
  (84, .iconst 1, 85, 0, 0, .int 1), (85, .ireturn, 86, 0, 0, .null)]
def pX0_isSo : List (Nat × mv_I) := [(0, .iload_n 1, 1, 0, 0, .null), (1, .lookupswitch 49 #[(60, 27), (62, 38)], 28, 0, 1, .null), (28, .iload_n 0, 29, 0, 0, .null), (29, .iload_n 2, 30, 0, 0, .null), (30, .if_icmp .ge 7, 33, 37, 0, .null), (33, .iconst 1, 34, 0, 0, .int 1),
  (34, .goto 4, 37, 38, 0, .null), (37, .iconst 0, 38, 0, 0, .int 0), (38, .ireturn, 39, 0, 0, .null), (39, .iload_n 0, 40, 0, 0, .null), (40, .iload_n 2, 41, 0, 0, .null), (41, .if_icmp .le 7, 44, 48, 0, .null),
  (44, .iconst 1, 45, 0, 0, .int 1), (45, .goto 4, 48, 49, 0, .null), (48, .iconst 0, 49, 0, 0, .int 0), (49, .ireturn, 50, 0, 0, .null), (50, .iload_n 0, 51, 0, 0, .null), (51, .iload_n 2, 52, 0, 0, .null),
  (52, .if_icmp .ne 7, 55, 59, 0, .null), (55, .iconst 1, 56, 0, 0, .int 1), (56, .goto 4, 59, 60, 0, .null), (59, .iconst 0, 60, 0, 0, .int 0), (60, .ireturn, 61, 0, 0, .null)]
def pX1_init : List (Nat × mv_I) := [(0, .aload_n 0, 1, 0, 0, .null), (1, .invokespecial 3, 4, 87, 999, .null), (4, .aload_n 0, 5, 0, 0, .null), (5, .new 9, 8, 6, 88, .null), (8, .dup, 9, 0, 0, .null), (9, .invokespecial 11, 12, 7, 46, .null),
  (12, .putfield 12, 15, 1, 0, .ref 9), (15, .aload_n 0, 16, 0, 0, .null), (16, .new 18, 19, 5, 137, .null), (19, .dup, 20, 0, 0, .null), (20, .invokespecial 20, 23, 8, 43, .null), (23, .putfield 21, 26, 1, 1, .ref 10),
  (26, .aload_n 0, 27, 0, 0, .null), (27, .bipush 48, 29, 0, 0, .int 48), (29, .newarray .int, 31, 0, 0, .null), (31, .putfield 25, 34, 1, 2, .ref 11), (34, .aload_n 0, 35, 0, 0, .null), (35, .bipush 40, 37, 0, 0, .int 40),
  (37, .newarray .long, 39, 2, 0, .null), (39, .putfield 29, 42, 1, 3, .ref 12), (42, .aload_n 0, 43, 0, 0, .null), (43, .bipush 48, 45, 0, 0, .int 48), (45, .newarray .int, 47, 0, 0, .null), (47, .putfield 33, 50, 1, 4, .ref 13),
  (50, .aload_n 0, 51, 0, 0, .null), (51, .bipush 48, 53, 0, 0, .int 48), (53, .newarray .int, 55, 0, 0, .null), (55, .putfield 36, 58, 1, 5, .ref 14), (58, .return_, 59, 0, 0, .null)]
def pX1_mayBe : List (Nat × mv_I) := [(0, .aload_n 0, 1, 0, 0, .null), (1, .iload_n 1, 2, 0, 0, .null), (2, .iconst (-1), 3, 0, 0, .int (-1)), (3, .invokevirtual 39, 6, 9, 18, .null), (6, .aload_n 0, 7, 0, 0, .null), (7, .iconst 0, 8, 0, 0, .int 0),
  (8, .iload_n 1, 9, 0, 0, .null), (9, .iconst 0, 10, 0, 0, .int 0), (10, .invokevirtual 43, 13, 10, 20, .null), (13, .aload_n 0, 14, 0, 0, .null), (14, .getfield 33, 17, 1, 4, .ref 13), (17, .iload_n 1, 18, 0, 0, .null),
  (18, .iaload, 19, 0, 0, .null), (19, .ireturn, 20, 0, 0, .null)]
def pX1_mayHaveBeen : List (Nat × mv_I) := [(0, .aload_n 0, 1, 0, 0, .null), (1, .bipush 47, 3, 0, 0, .int 47), (3, .iconst (-1), 4, 0, 0, .int (-1)), (4, .invokevirtual 39, 7, 9, 18, .null), (7, .aload_n 0, 8, 0, 0, .null), (8, .iconst 0, 9, 0, 0, .int 0),
  (9, .iload_n 1, 10, 0, 0, .null), (10, .iconst 0, 11, 0, 0, .int 0), (11, .invokevirtual 43, 14, 10, 20, .null), (14, .aload_n 0, 15, 0, 0, .null), (15, .iload_n 1, 16, 0, 0, .null), (16, .invokevirtual 47, 19, 11, 23, .null),
  (19, .aload_n 0, 20, 0, 0, .null), (20, .getfield 33, 23, 1, 4, .ref 13), (23, .iload_n 1, 24, 0, 0, .null), (24, .iaload, 25, 0, 0, .null), (25, .aload_n 0, 26, 0, 0, .null), (26, .getfield 36, 29, 1, 5, .ref 14),
  (29, .iload_n 1, 30, 0, 0, .null), (30, .iaload, 31, 0, 0, .null), (31, .iand, 32, 0, 0, .null), (32, .ireturn, 33, 0, 0, .null)]
def pX1_firstHour : List (Nat × mv_I) := [(0, .aload_n 0, 1, 0, 0, .null), (1, .bipush 47, 3, 0, 0, .int 47), (3, .iconst (-1), 4, 0, 0, .int (-1)), (4, .invokevirtual 39, 7, 9, 18, .null), (7, .iconst 0, 8, 0, 0, .int 0), (8, .istore_n 2, 9, 0, 0, .null),
  (9, .iload_n 2, 10, 0, 0, .null), (10, .bipush 48, 12, 0, 0, .int 48), (12, .if_icmp .ge 31, 15, 43, 0, .null), (15, .aload_n 0, 16, 0, 0, .null), (16, .iload_n 2, 17, 0, 0, .null), (17, .iload_n 2, 18, 0, 0, .null),
  (18, .iconst 0, 19, 0, 0, .int 0), (19, .invokevirtual 43, 22, 10, 20, .null), (22, .aload_n 0, 23, 0, 0, .null), (23, .getfield 33, 26, 1, 4, .ref 13), (26, .iload_n 2, 27, 0, 0, .null), (27, .iaload, 28, 0, 0, .null),
  (28, .iload_n 1, 29, 0, 0, .null), (29, .invokestatic 51, 32, 12, 110, .null), (32, .ifCond .eq 5, 35, 37, 0, .null), (35, .iload_n 2, 36, 0, 0, .null), (36, .ireturn, 37, 0, 0, .null), (37, .iinc 2 1, 40, 0, 0, .int 1),
  (40, .goto (-31), 43, 9, 0, .null), (43, .iconst (-1), 44, 0, 0, .int (-1)), (44, .ireturn, 45, 0, 0, .null)]
def pX1_someAgrees : List (Nat × mv_I) := [(0, .aload_n 0, 1, 0, 0, .null), (1, .bipush 47, 3, 0, 0, .int 47), (3, .iconst (-1), 4, 0, 0, .int (-1)), (4, .invokevirtual 39, 7, 9, 18, .null), (7, .aload_n 0, 8, 0, 0, .null), (8, .iconst 0, 9, 0, 0, .int 0),
  (9, .invokevirtual 47, 12, 11, 23, .null), (12, .aload_n 0, 13, 0, 0, .null), (13, .getfield 36, 16, 1, 5, .ref 14), (16, .iconst 0, 17, 0, 0, .int 0), (17, .iaload, 18, 0, 0, .null), (18, .aload_n 0, 19, 0, 0, .null),
  (19, .getfield 12, 22, 1, 0, .ref 9), (22, .invokevirtual 55, 25, 13, 52, .null), (25, .iand, 26, 0, 0, .null), (26, .ifCond .eq 7, 29, 33, 0, .null), (29, .iconst 1, 30, 0, 0, .int 1), (30, .goto 4, 33, 34, 0, .null),
  (33, .iconst 0, 34, 0, 0, .int 0), (34, .ireturn, 35, 0, 0, .null)]
def pX1_menders : List (Nat × mv_I) := [(0, .aload_n 0, 1, 0, 0, .null), (1, .bipush 47, 3, 0, 0, .int 47), (3, .iconst (-1), 4, 0, 0, .int (-1)), (4, .invokevirtual 39, 7, 9, 18, .null), (7, .aload_n 0, 8, 0, 0, .null), (8, .iconst 0, 9, 0, 0, .int 0),
  (9, .bipush 47, 11, 0, 0, .int 47), (11, .iconst 0, 12, 0, 0, .int 0), (12, .invokevirtual 43, 15, 10, 20, .null), (15, .aload_n 0, 16, 0, 0, .null), (16, .iconst 0, 17, 0, 0, .int 0), (17, .invokevirtual 47, 20, 11, 23, .null),
  (20, .lconst 0, 21, 0, 0, .long 0), (21, .lstore_n 1, 22, 0, 0, .null), (22, .iconst 0, 23, 0, 0, .int 0), (23, .istore_n 3, 24, 0, 0, .null), (24, .iload_n 3, 25, 0, 0, .null), (25, .aload_n 0, 26, 0, 0, .null),
  (26, .getfield 21, 29, 1, 1, .ref 10), (29, .getfield 59, 32, 5, 4, .ref 15), (32, .if_icmp .ge 35, 35, 67, 0, .null), (35, .aload_n 0, 36, 0, 0, .null), (36, .getfield 21, 39, 1, 1, .ref 10), (39, .getfield 63, 42, 5, 3, .ref 16),
  (42, .iload_n 3, 43, 0, 0, .null), (43, .baload, 44, 0, 0, .null), (44, .ifCond .ne 17, 47, 61, 0, .null), (47, .aload_n 0, 48, 0, 0, .null), (48, .iload_n 3, 49, 0, 0, .null), (49, .invokevirtual 67, 52, 14, 16, .null),
  (52, .ifCond .eq 9, 55, 61, 0, .null), (55, .lload_n 1, 56, 0, 0, .null), (56, .lconst 1, 57, 0, 0, .long 1), (57, .iload_n 3, 58, 0, 0, .null), (58, .lshl, 59, 0, 0, .null), (59, .lor, 60, 0, 0, .null),
  (60, .lstore_n 1, 61, 0, 0, .null), (61, .iinc 3 1, 64, 0, 0, .int 1), (64, .goto (-40), 67, 24, 0, .null), (67, .lload_n 1, 68, 0, 0, .null), (68, .lreturn, 69, 0, 0, .null)]
def pX1_mends : List (Nat × mv_I) := [(0, .aload_n 0, 1, 0, 0, .null), (1, .bipush 47, 3, 0, 0, .int 47), (3, .iload_n 1, 4, 0, 0, .null), (4, .invokevirtual 39, 7, 9, 18, .null), (7, .aload_n 0, 8, 0, 0, .null), (8, .getfield 21, 11, 1, 1, .ref 10),
  (11, .getfield 71, 14, 5, 2, .ref 17), (14, .iload_n 1, 15, 0, 0, .null), (15, .iaload, 16, 0, 0, .null), (16, .istore_n 2, 17, 0, 0, .null), (17, .aload_n 0, 18, 0, 0, .null), (18, .iload_n 2, 19, 0, 0, .null),
  (19, .invokevirtual 74, 22, 15, 21, .null), (22, .aload_n 0, 23, 0, 0, .null), (23, .iload_n 2, 24, 0, 0, .null), (24, .invokevirtual 78, 27, 16, 24, .null), (27, .iand, 28, 0, 0, .null), (28, .ifCond .ne 11, 31, 39, 0, .null),
  (31, .aload_n 0, 32, 0, 0, .null), (32, .iload_n 2, 33, 0, 0, .null), (33, .invokevirtual 81, 36, 17, 17, .null), (36, .ifCond .eq 7, 39, 43, 0, .null), (39, .iconst 1, 40, 0, 0, .int 1), (40, .goto 4, 43, 44, 0, .null),
  (43, .iconst 0, 44, 0, 0, .int 0), (44, .ireturn, 45, 0, 0, .null)]
def pX1_isUnderWay : List (Nat × mv_I) := [(0, .iconst 0, 1, 0, 0, .int 0), (1, .istore_n 2, 2, 0, 0, .null), (2, .iload_n 2, 3, 0, 0, .null), (3, .aload_n 0, 4, 0, 0, .null), (4, .getfield 12, 7, 1, 0, .ref 9), (7, .getfield 84, 10, 6, 7, .ref 18),
  (10, .if_icmp .ge 56, 13, 66, 0, .null), (13, .iconst 0, 14, 0, 0, .int 0), (14, .iload_n 1, 15, 0, 0, .null), (15, .aload_n 0, 16, 0, 0, .null), (16, .getfield 12, 19, 1, 0, .ref 9), (19, .getfield 87, 22, 6, 4, .ref 19),
  (22, .iload_n 2, 23, 0, 0, .null), (23, .iaload, 24, 0, 0, .null), (24, .isub, 25, 0, 0, .null), (25, .iconst 1, 26, 0, 0, .int 1), (26, .iadd, 27, 0, 0, .null), (27, .invokestatic 88, 30, 581, 902, .null),
  (30, .istore_n 3, 31, 0, 0, .null), (31, .iload_n 3, 32, 0, 0, .null), (32, .iload_n 1, 33, 0, 0, .null), (33, .if_icmp .ge 27, 36, 60, 0, .null), (36, .aload_n 0, 37, 0, 0, .null), (37, .getfield 33, 40, 1, 4, .ref 13),
  (40, .iload_n 3, 41, 0, 0, .null), (41, .iaload, 42, 0, 0, .null), (42, .aload_n 0, 43, 0, 0, .null), (43, .iload_n 2, 44, 0, 0, .null), (44, .iload_n 3, 45, 0, 0, .null), (45, .invokevirtual 94, 48, 18, 25, .null),
  (48, .iand, 49, 0, 0, .null), (49, .ifCond .eq 5, 52, 54, 0, .null), (52, .iconst 1, 53, 0, 0, .int 1), (53, .ireturn, 54, 0, 0, .null), (54, .iinc 3 1, 57, 0, 0, .int 1), (57, .goto (-26), 60, 31, 0, .null),
  (60, .iinc 2 1, 63, 0, 0, .int 1), (63, .goto (-61), 66, 2, 0, .null), (66, .iconst 0, 67, 0, 0, .int 0), (67, .ireturn, 68, 0, 0, .null)]
def pX1_heed : List (Nat × mv_I) := [(0, .iconst 0, 1, 0, 0, .int 0), (1, .istore_n 3, 2, 0, 0, .null), (2, .iload_n 3, 3, 0, 0, .null), (3, .bipush 48, 5, 0, 0, .int 48), (5, .if_icmp .ge 16, 8, 21, 0, .null), (8, .aload_n 0, 9, 0, 0, .null),
  (9, .getfield 25, 12, 1, 2, .ref 11), (12, .iload_n 3, 13, 0, 0, .null), (13, .iconst (-1), 14, 0, 0, .int (-1)), (14, .iastore, 15, 0, 0, .null), (15, .iinc 3 1, 18, 0, 0, .int 1), (18, .goto (-16), 21, 2, 0, .null),
  (21, .iconst 0, 22, 0, 0, .int 0), (22, .istore_n 3, 23, 0, 0, .null), (23, .iload_n 3, 24, 0, 0, .null), (24, .aload_n 0, 25, 0, 0, .null), (25, .getfield 12, 28, 1, 0, .ref 9), (28, .getfield 84, 31, 6, 7, .ref 18),
  (31, .if_icmp .ge 16, 34, 47, 0, .null), (34, .aload_n 0, 35, 0, 0, .null), (35, .getfield 29, 38, 1, 3, .ref 12), (38, .iload_n 3, 39, 0, 0, .null), (39, .lconst 0, 40, 0, 0, .long 0), (40, .lastore, 41, 0, 0, .null),
  (41, .iinc 3 1, 44, 0, 0, .int 1), (44, .goto (-21), 47, 23, 0, .null), (47, .lconst 0, 48, 0, 0, .long 0), (48, .lstore_n 3, 49, 0, 0, .null), (49, .iconst 0, 50, 0, 0, .int 0), (50, .istore 5, 52, 0, 0, .null),
  (52, .iload 5, 54, 0, 0, .null), (54, .aload_n 0, 55, 0, 0, .null), (55, .getfield 21, 58, 1, 1, .ref 10), (58, .getfield 59, 61, 5, 4, .ref 15), (61, .if_icmp .ge 51, 64, 112, 0, .null), (64, .aload_n 0, 65, 0, 0, .null),
  (65, .getfield 21, 68, 1, 1, .ref 10), (68, .getfield 63, 71, 5, 3, .ref 16), (71, .iload 5, 73, 0, 0, .null), (73, .baload, 74, 0, 0, .null), (74, .ifCond .ne 32, 77, 106, 0, .null), (77, .iload 5, 79, 0, 0, .null),
  (79, .iload_n 2, 80, 0, 0, .null), (80, .if_icmp .eq 26, 83, 106, 0, .null), (83, .aload_n 0, 84, 0, 0, .null), (84, .getfield 21, 87, 1, 1, .ref 10), (87, .getfield 71, 90, 5, 2, .ref 17), (90, .iload 5, 92, 0, 0, .null),
  (92, .iaload, 93, 0, 0, .null), (93, .iload_n 1, 94, 0, 0, .null), (94, .if_icmp .gt 12, 97, 106, 0, .null), (97, .lload_n 3, 98, 0, 0, .null), (98, .aload_n 0, 99, 0, 0, .null), (99, .iload 5, 101, 0, 0, .null),
  (101, .invokevirtual 97, 104, 19, 19, .null), (104, .lor, 105, 0, 0, .null), (105, .lstore_n 3, 106, 0, 0, .null), (106, .iinc 5 1, 109, 0, 0, .int 1), (109, .goto (-57), 112, 52, 0, .null), (112, .iconst 0, 113, 0, 0, .int 0),
  (113, .istore 5, 115, 0, 0, .null), (115, .iload 5, 117, 0, 0, .null), (117, .aload_n 0, 118, 0, 0, .null), (118, .getfield 12, 121, 1, 0, .ref 9), (121, .getfield 84, 124, 6, 7, .ref 18), (124, .if_icmp .ge 20, 127, 144, 0, .null),
  (127, .aload_n 0, 128, 0, 0, .null), (128, .getfield 29, 131, 1, 3, .ref 12), (131, .iload 5, 133, 0, 0, .null), (133, .dup2, 134, 0, 0, .null), (134, .laload, 135, 0, 0, .null), (135, .lload_n 3, 136, 0, 0, .null),
  (136, .lor, 137, 0, 0, .null), (137, .lastore, 138, 0, 0, .null), (138, .iinc 5 1, 141, 0, 0, .int 1), (141, .goto (-26), 144, 115, 0, .null), (144, .return_, 145, 0, 0, .null)]
def pX1_heedOne : List (Nat × mv_I) := [(0, .aload_n 0, 1, 0, 0, .null), (1, .getfield 21, 4, 1, 1, .ref 10), (4, .getfield 101, 7, 5, 1, .ref 20), (7, .iload_n 1, 8, 0, 0, .null), (8, .iaload, 9, 0, 0, .null), (9, .istore_n 2, 10, 0, 0, .null),
  (10, .aload_n 0, 11, 0, 0, .null), (11, .getfield 21, 14, 1, 1, .ref 10), (14, .getfield 71, 17, 5, 2, .ref 17), (17, .iload_n 1, 18, 0, 0, .null), (18, .iaload, 19, 0, 0, .null), (19, .istore_n 3, 20, 0, 0, .null),
  (20, .aload_n 0, 21, 0, 0, .null), (21, .getfield 21, 24, 1, 1, .ref 10), (24, .getfield 104, 27, 5, 0, .ref 21), (27, .iload_n 1, 28, 0, 0, .null), (28, .iaload, 29, 0, 0, .null), (29, .lookupswitch 61 #[(0, 27), (1, 44)], 56, 0, 29, .null),
  (56, .aload_n 0, 57, 0, 0, .null), (57, .getfield 25, 60, 1, 2, .ref 11), (60, .iload_n 3, 61, 0, 0, .null), (61, .dup2, 62, 0, 0, .null), (62, .iaload, 63, 0, 0, .null), (63, .iload_n 2, 64, 0, 0, .null),
  (64, .invokestatic 107, 67, 20, 109, .null), (67, .iand, 68, 0, 0, .null), (68, .iastore, 69, 0, 0, .null), (69, .lconst 1, 70, 0, 0, .long 1), (70, .iload_n 3, 71, 0, 0, .null), (71, .lshl, 72, 0, 0, .null),
  (72, .lreturn, 73, 0, 0, .null), (73, .aload_n 0, 74, 0, 0, .null), (74, .getfield 25, 77, 1, 2, .ref 11), (77, .iload_n 3, 78, 0, 0, .null), (78, .dup2, 79, 0, 0, .null), (79, .iaload, 80, 0, 0, .null),
  (80, .iload_n 2, 81, 0, 0, .null), (81, .invokestatic 107, 84, 20, 109, .null), (84, .iconst (-1), 85, 0, 0, .int (-1)), (85, .ixor, 86, 0, 0, .null), (86, .iand, 87, 0, 0, .null), (87, .iastore, 88, 0, 0, .null),
  (88, .lconst 0, 89, 0, 0, .long 0), (89, .lreturn, 90, 0, 0, .null), (90, .aload_n 0, 91, 0, 0, .null), (91, .getfield 29, 94, 1, 3, .ref 12), (94, .iload_n 2, 95, 0, 0, .null), (95, .dup2, 96, 0, 0, .null),
  (96, .laload, 97, 0, 0, .null), (97, .lconst 1, 98, 0, 0, .long 1), (98, .iload_n 3, 99, 0, 0, .null), (99, .lshl, 100, 0, 0, .null), (100, .lor, 101, 0, 0, .null), (101, .lastore, 102, 0, 0, .null),
  (102, .lconst 0, 103, 0, 0, .long 0), (103, .lreturn, 104, 0, 0, .null)]
def pX1_spread : List (Nat × mv_I) := [(0, .iload_n 1, 1, 0, 0, .null), (1, .istore 4, 3, 0, 0, .null), (3, .iload 4, 5, 0, 0, .null), (5, .iload_n 2, 6, 0, 0, .null), (6, .if_icmp .gt 26, 9, 32, 0, .null), (9, .aload_n 0, 10, 0, 0, .null),
  (10, .getfield 33, 13, 1, 4, .ref 13), (13, .iload 4, 15, 0, 0, .null), (15, .aload_n 0, 16, 0, 0, .null), (16, .iload 4, 18, 0, 0, .null), (18, .invokevirtual 74, 21, 15, 21, .null), (21, .iload_n 3, 22, 0, 0, .null),
  (22, .iconst (-1), 23, 0, 0, .int (-1)), (23, .ixor, 24, 0, 0, .null), (24, .iand, 25, 0, 0, .null), (25, .iastore, 26, 0, 0, .null), (26, .iinc 4 1, 29, 0, 0, .int 1), (29, .goto (-26), 32, 3, 0, .null),
  (32, .return_, 33, 0, 0, .null)]
def pX1_cameAt : List (Nat × mv_I) := [(0, .iload_n 1, 1, 0, 0, .null), (1, .ifCond .ne 18, 4, 19, 0, .null), (4, .aload_n 0, 5, 0, 0, .null), (5, .getfield 12, 8, 1, 0, .ref 9), (8, .invokevirtual 55, 11, 13, 52, .null), (11, .aload_n 0, 12, 0, 0, .null),
  (12, .getfield 25, 15, 1, 2, .ref 11), (15, .iload_n 1, 16, 0, 0, .null), (16, .iaload, 17, 0, 0, .null), (17, .iand, 18, 0, 0, .null), (18, .ireturn, 19, 0, 0, .null), (19, .aload_n 0, 20, 0, 0, .null),
  (20, .getfield 33, 23, 1, 4, .ref 13), (23, .iload_n 1, 24, 0, 0, .null), (24, .iconst 1, 25, 0, 0, .int 1), (25, .isub, 26, 0, 0, .null), (26, .iaload, 27, 0, 0, .null), (27, .istore_n 2, 28, 0, 0, .null),
  (28, .iconst 0, 29, 0, 0, .int 0), (29, .istore_n 3, 30, 0, 0, .null), (30, .iload_n 3, 31, 0, 0, .null), (31, .aload_n 0, 32, 0, 0, .null), (32, .getfield 12, 35, 1, 0, .ref 9), (35, .getfield 84, 38, 6, 7, .ref 18),
  (38, .if_icmp .ge 18, 41, 56, 0, .null), (41, .iload_n 2, 42, 0, 0, .null), (42, .aload_n 0, 43, 0, 0, .null), (43, .iload_n 3, 44, 0, 0, .null), (44, .iload_n 1, 45, 0, 0, .null), (45, .invokevirtual 110, 48, 21, 22, .null),
  (48, .ior, 49, 0, 0, .null), (49, .istore_n 2, 50, 0, 0, .null), (50, .iinc 3 1, 53, 0, 0, .int 1), (53, .goto (-23), 56, 30, 0, .null), (56, .iload_n 2, 57, 0, 0, .null), (57, .aload_n 0, 58, 0, 0, .null),
  (58, .getfield 25, 61, 1, 2, .ref 11), (61, .iload_n 1, 62, 0, 0, .null), (62, .iaload, 63, 0, 0, .null), (63, .iand, 64, 0, 0, .null), (64, .ireturn, 65, 0, 0, .null)]
def pX1_arrivalsBy : List (Nat × mv_I) := [(0, .iload_n 2, 1, 0, 0, .null), (1, .aload_n 0, 2, 0, 0, .null), (2, .getfield 12, 5, 1, 0, .ref 9), (5, .getfield 87, 8, 6, 4, .ref 19), (8, .iload_n 1, 9, 0, 0, .null), (9, .iaload, 10, 0, 0, .null),
  (10, .isub, 11, 0, 0, .null), (11, .istore_n 3, 12, 0, 0, .null), (12, .iload_n 3, 13, 0, 0, .null), (13, .ifCond .lt 13, 16, 26, 0, .null), (16, .aload_n 0, 17, 0, 0, .null), (17, .iload_n 1, 18, 0, 0, .null),
  (18, .iload_n 3, 19, 0, 0, .null), (19, .iload_n 2, 20, 0, 0, .null), (20, .invokevirtual 113, 23, 22, 26, .null), (23, .ifCond .ne 5, 26, 28, 0, .null), (26, .iconst 0, 27, 0, 0, .int 0), (27, .ireturn, 28, 0, 0, .null),
  (28, .aload_n 0, 29, 0, 0, .null), (29, .getfield 12, 32, 1, 0, .ref 9), (32, .iload_n 1, 33, 0, 0, .null), (33, .aload_n 0, 34, 0, 0, .null), (34, .getfield 33, 37, 1, 4, .ref 13), (37, .iload_n 3, 38, 0, 0, .null),
  (38, .iaload, 39, 0, 0, .null), (39, .invokevirtual 117, 42, 23, 53, .null), (42, .ireturn, 43, 0, 0, .null)]
def pX1_lookOnward : List (Nat × mv_I) := [(0, .bipush 47, 2, 0, 0, .int 47), (2, .istore_n 2, 3, 0, 0, .null), (3, .iload_n 2, 4, 0, 0, .null), (4, .iload_n 1, 5, 0, 0, .null), (5, .if_icmp .lt 20, 8, 25, 0, .null), (8, .aload_n 0, 9, 0, 0, .null),
  (9, .getfield 36, 12, 1, 5, .ref 14), (12, .iload_n 2, 13, 0, 0, .null), (13, .aload_n 0, 14, 0, 0, .null), (14, .iload_n 2, 15, 0, 0, .null), (15, .invokevirtual 78, 18, 16, 24, .null), (18, .iastore, 19, 0, 0, .null),
  (19, .iinc 2 (-1), 22, 0, 0, .int (-1)), (22, .goto (-19), 25, 3, 0, .null), (25, .return_, 26, 0, 0, .null)]
def pX1_goesOnAt : List (Nat × mv_I) := [(0, .iload_n 1, 1, 0, 0, .null), (1, .bipush 47, 3, 0, 0, .int 47), (3, .if_icmp .ne 10, 6, 13, 0, .null), (6, .aload_n 0, 7, 0, 0, .null), (7, .getfield 25, 10, 1, 2, .ref 11), (10, .iload_n 1, 11, 0, 0, .null),
  (11, .iaload, 12, 0, 0, .null), (12, .ireturn, 13, 0, 0, .null), (13, .aload_n 0, 14, 0, 0, .null), (14, .getfield 36, 17, 1, 5, .ref 14), (17, .iload_n 1, 18, 0, 0, .null), (18, .iconst 1, 19, 0, 0, .int 1),
  (19, .iadd, 20, 0, 0, .null), (20, .iaload, 21, 0, 0, .null), (21, .istore_n 2, 22, 0, 0, .null), (22, .iconst 0, 23, 0, 0, .int 0), (23, .istore_n 3, 24, 0, 0, .null), (24, .iload_n 3, 25, 0, 0, .null),
  (25, .aload_n 0, 26, 0, 0, .null), (26, .getfield 12, 29, 1, 0, .ref 9), (29, .getfield 84, 32, 6, 7, .ref 18), (32, .if_icmp .ge 18, 35, 50, 0, .null), (35, .iload_n 2, 36, 0, 0, .null), (36, .aload_n 0, 37, 0, 0, .null),
  (37, .iload_n 3, 38, 0, 0, .null), (38, .iload_n 1, 39, 0, 0, .null), (39, .invokevirtual 94, 42, 18, 25, .null), (42, .ior, 43, 0, 0, .null), (43, .istore_n 2, 44, 0, 0, .null), (44, .iinc 3 1, 47, 0, 0, .int 1),
  (47, .goto (-23), 50, 24, 0, .null), (50, .iload_n 2, 51, 0, 0, .null), (51, .aload_n 0, 52, 0, 0, .null), (52, .getfield 25, 55, 1, 2, .ref 11), (55, .iload_n 1, 56, 0, 0, .null), (56, .iaload, 57, 0, 0, .null),
  (57, .iand, 58, 0, 0, .null), (58, .ireturn, 59, 0, 0, .null)]
def pX1_departuresBy : List (Nat × mv_I) := [(0, .iload_n 2, 1, 0, 0, .null), (1, .aload_n 0, 2, 0, 0, .null), (2, .getfield 12, 5, 1, 0, .ref 9), (5, .getfield 87, 8, 6, 4, .ref 19), (8, .iload_n 1, 9, 0, 0, .null), (9, .iaload, 10, 0, 0, .null),
  (10, .iadd, 11, 0, 0, .null), (11, .bipush 48, 13, 0, 0, .int 48), (13, .invokestatic 120, 16, 520, 901, .null), (16, .istore_n 3, 17, 0, 0, .null), (17, .aload_n 0, 18, 0, 0, .null), (18, .iload_n 1, 19, 0, 0, .null),
  (19, .iload_n 2, 20, 0, 0, .null), (20, .iload_n 3, 21, 0, 0, .null), (21, .invokevirtual 113, 24, 22, 26, .null), (24, .ifCond .ne 5, 27, 29, 0, .null), (27, .iconst 0, 28, 0, 0, .int 0), (28, .ireturn, 29, 0, 0, .null),
  (29, .aload_n 0, 30, 0, 0, .null), (30, .getfield 12, 33, 1, 0, .ref 9), (33, .iload_n 1, 34, 0, 0, .null), (34, .iload_n 3, 35, 0, 0, .null), (35, .bipush 48, 37, 0, 0, .int 48), (37, .if_icmp .ne 7, 40, 44, 0, .null),
  (40, .iconst (-1), 41, 0, 0, .int (-1)), (41, .goto 9, 44, 50, 0, .null), (44, .aload_n 0, 45, 0, 0, .null), (45, .getfield 36, 48, 1, 5, .ref 14), (48, .iload_n 3, 49, 0, 0, .null), (49, .iaload, 50, 0, 0, .null),
  (50, .invokevirtual 117, 53, 23, 53, .null), (53, .ireturn, 54, 0, 0, .null)]
def pX1_isClear : List (Nat × mv_I) := [(0, .lconst 1, 1, 0, 0, .long 1), (1, .iload_n 3, 2, 0, 0, .null), (2, .lshl, 3, 0, 0, .null), (3, .lconst 1, 4, 0, 0, .long 1), (4, .iload_n 2, 5, 0, 0, .null), (5, .iconst 1, 6, 0, 0, .int 1),
  (6, .iadd, 7, 0, 0, .null), (7, .lshl, 8, 0, 0, .null), (8, .lsub, 9, 0, 0, .null), (9, .lstore 4, 11, 0, 0, .null), (11, .aload_n 0, 12, 0, 0, .null), (12, .getfield 29, 15, 1, 3, .ref 12),
  (15, .iload_n 1, 16, 0, 0, .null), (16, .laload, 17, 0, 0, .null), (17, .lload 4, 19, 0, 0, .null), (19, .land, 20, 0, 0, .null), (20, .lconst 0, 21, 0, 0, .long 0), (21, .lcmp, 22, 0, 0, .null),
  (22, .ifCond .ne 7, 25, 29, 0, .null), (25, .iconst 1, 26, 0, 0, .int 1), (26, .goto 4, 29, 30, 0, .null), (29, .iconst 0, 30, 0, 0, .int 0), (30, .ireturn, 31, 0, 0, .null)]
def pX1_cameBy : List (Nat × mv_I) := [(0, .aload_n 0, 1, 0, 0, .null), (1, .getfield 33, 4, 1, 4, .ref 13), (4, .iload_n 2, 5, 0, 0, .null), (5, .iconst 1, 6, 0, 0, .int 1), (6, .isub, 7, 0, 0, .null), (7, .iaload, 8, 0, 0, .null),
  (8, .iload_n 1, 9, 0, 0, .null), (9, .invokestatic 51, 12, 12, 110, .null), (12, .ifCond .eq 5, 15, 17, 0, .null), (15, .iconst (-1), 16, 0, 0, .int (-1)), (16, .ireturn, 17, 0, 0, .null), (17, .iconst 0, 18, 0, 0, .int 0),
  (18, .istore_n 3, 19, 0, 0, .null), (19, .iload_n 3, 20, 0, 0, .null), (20, .aload_n 0, 21, 0, 0, .null), (21, .getfield 12, 24, 1, 0, .ref 9), (24, .getfield 84, 27, 6, 7, .ref 18), (27, .if_icmp .ge 24, 30, 51, 0, .null),
  (30, .aload_n 0, 31, 0, 0, .null), (31, .iload_n 3, 32, 0, 0, .null), (32, .iload_n 2, 33, 0, 0, .null), (33, .invokevirtual 110, 36, 21, 22, .null), (36, .iload_n 1, 37, 0, 0, .null), (37, .invokestatic 51, 40, 12, 110, .null),
  (40, .ifCond .eq 5, 43, 45, 0, .null), (43, .iload_n 3, 44, 0, 0, .null), (44, .ireturn, 45, 0, 0, .null), (45, .iinc 3 1, 48, 0, 0, .int 1), (48, .goto (-29), 51, 19, 0, .null), (51, .iconst (-1), 52, 0, 0, .int (-1)),
  (52, .ireturn, 53, 0, 0, .null)]
def pX1_tellWay : List (Nat × mv_I) := [(0, .aload_n 3, 1, 0, 0, .null), (1, .iconst 0, 2, 0, 0, .int 0), (2, .putfield 123, 5, 8, 1, .ref 22), (5, .aload_n 3, 6, 0, 0, .null), (6, .iload_n 1, 7, 0, 0, .null), (7, .invokevirtual 126, 10, 24, 66, .null),
  (10, .iload_n 1, 11, 0, 0, .null), (11, .istore 4, 13, 0, 0, .null), (13, .iload_n 2, 14, 0, 0, .null), (14, .istore 5, 16, 0, 0, .null), (16, .iconst 0, 17, 0, 0, .int 0), (17, .istore 6, 19, 0, 0, .null),
  (19, .iload 6, 21, 0, 0, .null), (21, .bipush 48, 23, 0, 0, .int 48), (23, .if_icmp .ge 70, 26, 93, 0, .null), (26, .iload 5, 28, 0, 0, .null), (28, .ifCond .le 65, 31, 93, 0, .null), (31, .aload_n 0, 32, 0, 0, .null),
  (32, .iload 4, 34, 0, 0, .null), (34, .iload 5, 36, 0, 0, .null), (36, .invokevirtual 129, 39, 25, 27, .null), (39, .istore 7, 41, 0, 0, .null), (41, .iload 7, 43, 0, 0, .null), (43, .iconst (-1), 44, 0, 0, .int (-1)),
  (44, .if_icmp .ne 9, 47, 53, 0, .null), (47, .iinc 5 (-1), 50, 0, 0, .int (-1)), (50, .goto 37, 53, 87, 0, .null), (53, .iload 5, 55, 0, 0, .null), (55, .aload_n 0, 56, 0, 0, .null), (56, .getfield 12, 59, 1, 0, .ref 9),
  (59, .getfield 87, 62, 6, 4, .ref 19), (62, .iload 7, 64, 0, 0, .null), (64, .iaload, 65, 0, 0, .null), (65, .isub, 66, 0, 0, .null), (66, .istore 5, 68, 0, 0, .null), (68, .aload_n 0, 69, 0, 0, .null),
  (69, .getfield 12, 72, 1, 0, .ref 9), (72, .iload 7, 74, 0, 0, .null), (74, .iload 4, 76, 0, 0, .null), (76, .invokevirtual 132, 79, 26, 54, .null), (79, .istore 4, 81, 0, 0, .null), (81, .aload_n 3, 82, 0, 0, .null),
  (82, .iload 4, 84, 0, 0, .null), (84, .invokevirtual 126, 87, 24, 66, .null), (87, .iinc 6 1, 90, 0, 0, .int 1), (90, .goto (-71), 93, 19, 0, .null), (93, .aload_n 3, 94, 0, 0, .null), (94, .invokevirtual 135, 97, 27, 67, .null),
  (97, .return_, 98, 0, 0, .null)]
def pX1_wayBits : List (Nat × mv_I) := [(0, .iload_n 1, 1, 0, 0, .null), (1, .invokestatic 107, 4, 20, 109, .null), (4, .istore 4, 6, 0, 0, .null), (6, .iload_n 1, 7, 0, 0, .null), (7, .istore 5, 9, 0, 0, .null), (9, .iload_n 2, 10, 0, 0, .null),
  (10, .istore 6, 12, 0, 0, .null), (12, .iconst 0, 13, 0, 0, .int 0), (13, .istore 7, 15, 0, 0, .null), (15, .iload 7, 17, 0, 0, .null), (17, .bipush 48, 19, 0, 0, .int 48), (19, .if_icmp .ge 85, 22, 104, 0, .null),
  (22, .iload 6, 24, 0, 0, .null), (24, .iload_n 3, 25, 0, 0, .null), (25, .if_icmp .le 79, 28, 104, 0, .null), (28, .aload_n 0, 29, 0, 0, .null), (29, .iload 5, 31, 0, 0, .null), (31, .iload 6, 33, 0, 0, .null),
  (33, .invokevirtual 129, 36, 25, 27, .null), (36, .istore 8, 38, 0, 0, .null), (38, .iload 8, 40, 0, 0, .null), (40, .iconst (-1), 41, 0, 0, .int (-1)), (41, .if_icmp .ne 9, 44, 50, 0, .null), (44, .iinc 6 (-1), 47, 0, 0, .int (-1)),
  (47, .goto 51, 50, 98, 0, .null), (50, .iload 6, 52, 0, 0, .null), (52, .aload_n 0, 53, 0, 0, .null), (53, .getfield 12, 56, 1, 0, .ref 9), (56, .getfield 87, 59, 6, 4, .ref 19), (59, .iload 8, 61, 0, 0, .null),
  (61, .iaload, 62, 0, 0, .null), (62, .isub, 63, 0, 0, .null), (63, .istore 6, 65, 0, 0, .null), (65, .aload_n 0, 66, 0, 0, .null), (66, .getfield 12, 69, 1, 0, .ref 9), (69, .iload 8, 71, 0, 0, .null),
  (71, .iload 5, 73, 0, 0, .null), (73, .invokevirtual 132, 76, 26, 54, .null), (76, .istore 5, 78, 0, 0, .null), (78, .iload 4, 80, 0, 0, .null), (80, .iload 6, 82, 0, 0, .null), (82, .iload_n 3, 83, 0, 0, .null),
  (83, .if_icmp .lt 11, 86, 94, 0, .null), (86, .iload 5, 88, 0, 0, .null), (88, .invokestatic 107, 91, 20, 109, .null), (91, .goto 4, 94, 95, 0, .null), (94, .iconst 0, 95, 0, 0, .int 0), (95, .ior, 96, 0, 0, .null),
  (96, .istore 4, 98, 0, 0, .null), (98, .iinc 7 1, 101, 0, 0, .int 1), (101, .goto (-86), 104, 15, 0, .null), (104, .iload 4, 106, 0, 0, .null), (106, .ireturn, 107, 0, 0, .null)]
def pX2_init : List (Nat × mv_I) := [(0, .aload_n 0, 1, 0, 0, .null), (1, .invokespecial 3, 4, 268, 999, .null), (4, .aload_n 0, 5, 0, 0, .null), (5, .bipush 8, 7, 0, 0, .int 8), (7, .anewarray 9, 10, 3, 269, .null), (10, .putfield 11, 13, 2, 0, .ref 23),
  (13, .aload_n 0, 14, 0, 0, .null), (14, .bipush 12, 16, 0, 0, .int 12), (16, .newarray .int, 18, 0, 0, .null), (18, .putfield 17, 21, 2, 1, .ref 24), (21, .aload_n 0, 22, 0, 0, .null), (22, .bipush 12, 24, 0, 0, .int 12),
  (24, .newarray .int, 26, 0, 0, .null), (26, .putfield 21, 29, 2, 2, .ref 25), (29, .aload_n 0, 30, 0, 0, .null), (30, .bipush 12, 32, 0, 0, .int 12), (32, .newarray .int, 34, 0, 0, .null), (34, .putfield 24, 37, 2, 3, .ref 26),
  (37, .aload_n 0, 38, 0, 0, .null), (38, .iconst 0, 39, 0, 0, .int 0), (39, .putfield 27, 42, 2, 4, .ref 27), (42, .aload_n 0, 43, 0, 0, .null), (43, .iconst 0, 44, 0, 0, .int 0), (44, .putfield 31, 47, 2, 5, .ref 28),
  (47, .iconst 0, 48, 0, 0, .int 0), (48, .istore_n 1, 49, 0, 0, .null), (49, .iload_n 1, 50, 0, 0, .null), (50, .bipush 8, 52, 0, 0, .int 8), (52, .if_icmp .ge 22, 55, 74, 0, .null), (55, .aload_n 0, 56, 0, 0, .null),
  (56, .getfield 11, 59, 2, 0, .ref 23), (59, .iload_n 1, 60, 0, 0, .null), (60, .new 9, 63, 0, 269, .null), (63, .dup, 64, 0, 0, .null), (64, .invokespecial 34, 67, 28, 0, .null), (67, .aastore, 68, 0, 0, .null),
  (68, .iinc 1 1, 71, 0, 0, .int 1), (71, .goto (-22), 74, 49, 0, .null), (74, .return_, 75, 0, 0, .null)]
def pX2_enact : List (Nat × mv_I) := [(0, .aload_n 0, 1, 0, 0, .null), (1, .getfield 27, 4, 2, 4, .ref 27), (4, .bipush 8, 6, 0, 0, .int 8), (6, .if_icmp .lt 6, 9, 12, 0, .null), (9, .bipush (-100), 11, 0, 0, .int (-100)), (11, .ireturn, 12, 0, 0, .null),
  (12, .aload_n 0, 13, 0, 0, .null), (13, .getfield 11, 16, 2, 0, .ref 23), (16, .aload_n 0, 17, 0, 0, .null), (17, .getfield 27, 20, 2, 4, .ref 27), (20, .aaload, 21, 0, 0, .null), (21, .aload_n 1, 22, 0, 0, .null),
  (22, .invokevirtual 35, 25, 29, 1, .null), (25, .istore_n 2, 26, 0, 0, .null), (26, .iload_n 2, 27, 0, 0, .null), (27, .iconst (-1), 28, 0, 0, .int (-1)), (28, .if_icmp .eq 7, 31, 35, 0, .null), (31, .iconst (-1), 32, 0, 0, .int (-1)),
  (32, .iload_n 2, 33, 0, 0, .null), (33, .isub, 34, 0, 0, .null), (34, .ireturn, 35, 0, 0, .null), (35, .aload_n 0, 36, 0, 0, .null), (36, .dup, 37, 0, 0, .null), (37, .getfield 27, 40, 2, 4, .ref 27),
  (40, .iconst 1, 41, 0, 0, .int 1), (41, .iadd, 42, 0, 0, .null), (42, .putfield 27, 45, 2, 4, .ref 27), (45, .aload_n 0, 46, 0, 0, .null), (46, .getfield 27, 49, 2, 4, .ref 27), (49, .iconst 1, 50, 0, 0, .int 1),
  (50, .isub, 51, 0, 0, .null), (51, .ireturn, 52, 0, 0, .null)]
def pX2_lodge : List (Nat × mv_I) := [(0, .iload_n 2, 1, 0, 0, .null), (1, .invokestatic 39, 4, 30, 106, .null), (4, .ifCond .eq 12, 7, 16, 0, .null), (7, .aload_n 0, 8, 0, 0, .null), (8, .getfield 31, 11, 2, 5, .ref 28), (11, .bipush 12, 13, 0, 0, .int 12),
  (13, .if_icmp .lt 5, 16, 18, 0, .null), (16, .iconst (-1), 17, 0, 0, .int (-1)), (17, .ireturn, 18, 0, 0, .null), (18, .aload_n 0, 19, 0, 0, .null), (19, .getfield 17, 22, 2, 1, .ref 24), (22, .aload_n 0, 23, 0, 0, .null),
  (23, .getfield 31, 26, 2, 5, .ref 28), (26, .iload_n 1, 27, 0, 0, .null), (27, .iastore, 28, 0, 0, .null), (28, .aload_n 0, 29, 0, 0, .null), (29, .getfield 21, 32, 2, 2, .ref 25), (32, .aload_n 0, 33, 0, 0, .null),
  (33, .getfield 31, 36, 2, 5, .ref 28), (36, .iload_n 2, 37, 0, 0, .null), (37, .iastore, 38, 0, 0, .null), (38, .aload_n 0, 39, 0, 0, .null), (39, .dup, 40, 0, 0, .null), (40, .getfield 31, 43, 2, 5, .ref 28),
  (43, .iconst 1, 44, 0, 0, .int 1), (44, .iadd, 45, 0, 0, .null), (45, .putfield 31, 48, 2, 5, .ref 28), (48, .aload_n 0, 49, 0, 0, .null), (49, .getfield 31, 52, 2, 5, .ref 28), (52, .iconst 1, 53, 0, 0, .int 1),
  (53, .isub, 54, 0, 0, .null), (54, .ireturn, 55, 0, 0, .null)]
def pX2_weigh : List (Nat × mv_I) := [(0, .iconst 0, 1, 0, 0, .int 0), (1, .istore_n 2, 2, 0, 0, .null), (2, .iload_n 2, 3, 0, 0, .null), (3, .aload_n 0, 4, 0, 0, .null), (4, .getfield 27, 7, 2, 4, .ref 27), (7, .if_icmp .ge 44, 10, 51, 0, .null),
  (10, .aload_n 0, 11, 0, 0, .null), (11, .getfield 11, 14, 2, 0, .ref 23), (14, .iload_n 2, 15, 0, 0, .null), (15, .aaload, 16, 0, 0, .null), (16, .iload_n 1, 17, 0, 0, .null), (17, .aload_n 0, 18, 0, 0, .null),
  (18, .getfield 21, 21, 2, 2, .ref 25), (21, .iload_n 1, 22, 0, 0, .null), (22, .iaload, 23, 0, 0, .null), (23, .aload_n 0, 24, 0, 0, .null), (24, .getfield 17, 27, 2, 1, .ref 24), (27, .iload_n 1, 28, 0, 0, .null),
  (28, .iaload, 29, 0, 0, .null), (29, .invokevirtual 43, 32, 31, 8, .null), (32, .ifCond .eq 13, 35, 45, 0, .null), (35, .aload_n 0, 36, 0, 0, .null), (36, .getfield 11, 39, 2, 0, .ref 23), (39, .iload_n 2, 40, 0, 0, .null),
  (40, .aaload, 41, 0, 0, .null), (41, .getfield 47, 44, 0, 4, .ref 29), (44, .ireturn, 45, 0, 0, .null), (45, .iinc 2 1, 48, 0, 0, .int 1), (48, .goto (-46), 51, 2, 0, .null), (51, .iconst 0, 52, 0, 0, .int 0),
  (52, .ireturn, 53, 0, 0, .null)]
def pX2_share : List (Nat × mv_I) := [(0, .iconst 0, 1, 0, 0, .int 0), (1, .istore_n 3, 2, 0, 0, .null), (2, .iconst 0, 3, 0, 0, .int 0), (3, .istore 4, 5, 0, 0, .null), (5, .iconst 0, 6, 0, 0, .int 0), (6, .istore 5, 8, 0, 0, .null),
  (8, .iload 5, 10, 0, 0, .null), (10, .aload_n 0, 11, 0, 0, .null), (11, .getfield 31, 14, 2, 5, .ref 28), (14, .if_icmp .ge 53, 17, 67, 0, .null), (17, .aload_n 0, 18, 0, 0, .null), (18, .getfield 24, 21, 2, 3, .ref 26),
  (21, .iload 5, 23, 0, 0, .null), (23, .aload_n 0, 24, 0, 0, .null), (24, .iload 5, 26, 0, 0, .null), (26, .invokevirtual 50, 29, 32, 33, .null), (29, .iastore, 30, 0, 0, .null), (30, .iload_n 3, 31, 0, 0, .null),
  (31, .aload_n 0, 32, 0, 0, .null), (32, .getfield 24, 35, 2, 3, .ref 26), (35, .iload 5, 37, 0, 0, .null), (37, .iaload, 38, 0, 0, .null), (38, .iadd, 39, 0, 0, .null), (39, .istore_n 3, 40, 0, 0, .null),
  (40, .aload_n 0, 41, 0, 0, .null), (41, .getfield 24, 44, 2, 3, .ref 26), (44, .iload 5, 46, 0, 0, .null), (46, .iaload, 47, 0, 0, .null), (47, .aload_n 0, 48, 0, 0, .null), (48, .getfield 24, 51, 2, 3, .ref 26),
  (51, .iload 4, 53, 0, 0, .null), (53, .iaload, 54, 0, 0, .null), (54, .if_icmp .le 7, 57, 61, 0, .null), (57, .iload 5, 59, 0, 0, .null), (59, .istore 4, 61, 0, 0, .null), (61, .iinc 5 1, 64, 0, 0, .int 1),
  (64, .goto (-56), 67, 8, 0, .null), (67, .aload_n 2, 68, 0, 0, .null), (68, .iconst 0, 69, 0, 0, .int 0), (69, .putfield 54, 72, 8, 1, .ref 30), (72, .iload_n 1, 73, 0, 0, .null), (73, .istore 5, 75, 0, 0, .null),
  (75, .iconst 0, 76, 0, 0, .int 0), (76, .istore 6, 78, 0, 0, .null), (78, .iload 6, 80, 0, 0, .null), (80, .aload_n 0, 81, 0, 0, .null), (81, .getfield 31, 84, 2, 5, .ref 28), (84, .if_icmp .ge 43, 87, 127, 0, .null),
  (87, .iload_n 3, 88, 0, 0, .null), (88, .ifCond .ne 7, 91, 95, 0, .null), (91, .iconst 0, 92, 0, 0, .int 0), (92, .goto 14, 95, 106, 0, .null), (95, .iload_n 1, 96, 0, 0, .null), (96, .aload_n 0, 97, 0, 0, .null),
  (97, .getfield 24, 100, 2, 3, .ref 26), (100, .iload 6, 102, 0, 0, .null), (102, .iaload, 103, 0, 0, .null), (103, .imul, 104, 0, 0, .null), (104, .iload_n 3, 105, 0, 0, .null), (105, .idiv, 106, 0, 0, .null),
  (106, .istore 7, 108, 0, 0, .null), (108, .aload_n 2, 109, 0, 0, .null), (109, .iload 7, 111, 0, 0, .null), (111, .invokevirtual 59, 114, 33, 66, .null), (114, .iload 5, 116, 0, 0, .null), (116, .iload 7, 118, 0, 0, .null),
  (118, .isub, 119, 0, 0, .null), (119, .istore 5, 121, 0, 0, .null), (121, .iinc 6 1, 124, 0, 0, .int 1), (124, .goto (-46), 127, 78, 0, .null), (127, .iload_n 3, 128, 0, 0, .null), (128, .ifCond .ne 5, 131, 133, 0, .null),
  (131, .iconst 0, 132, 0, 0, .int 0), (132, .ireturn, 133, 0, 0, .null), (133, .aload_n 2, 134, 0, 0, .null), (134, .getfield 63, 137, 8, 0, .ref 31), (137, .iload 4, 139, 0, 0, .null), (139, .dup2, 140, 0, 0, .null),
  (140, .iaload, 141, 0, 0, .null), (141, .iload 5, 143, 0, 0, .null), (143, .iadd, 144, 0, 0, .null), (144, .iastore, 145, 0, 0, .null), (145, .iload_n 1, 146, 0, 0, .null), (146, .ireturn, 147, 0, 0, .null)]
def pX3_init : List (Nat × mv_I) := [(0, .aload_n 0, 1, 0, 0, .null), (1, .invokespecial 3, 4, 218, 999, .null), (4, .aload_n 0, 5, 0, 0, .null), (5, .new 9, 8, 4, 219, .null), (8, .dup, 9, 0, 0, .null), (9, .invokespecial 11, 12, 34, 39, .null),
  (12, .putfield 12, 15, 3, 0, .ref 32), (15, .aload_n 0, 16, 0, 0, .null), (16, .bipush 30, 18, 0, 0, .int 30), (18, .newarray .int, 20, 0, 0, .null), (20, .putfield 18, 23, 3, 1, .ref 33), (23, .aload_n 0, 24, 0, 0, .null),
  (24, .bipush 30, 26, 0, 0, .int 30), (26, .newarray .int, 28, 0, 0, .null), (28, .putfield 22, 31, 3, 2, .ref 34), (31, .aload_n 0, 32, 0, 0, .null), (32, .iconst 0, 33, 0, 0, .int 0), (33, .putfield 25, 36, 3, 3, .ref 35),
  (36, .return_, 37, 0, 0, .null)]
def pX3_add : List (Nat × mv_I) := [(0, .iload_n 2, 1, 0, 0, .null), (1, .ifCond .lt 25, 4, 26, 0, .null), (4, .iload_n 2, 5, 0, 0, .null), (5, .sipush 32767, 8, 0, 0, .int 32767), (8, .if_icmp .gt 18, 11, 26, 0, .null), (11, .iload_n 3, 12, 0, 0, .null),
  (12, .ifCond .lt 14, 15, 26, 0, .null), (15, .iload_n 3, 16, 0, 0, .null), (16, .sipush 32767, 19, 0, 0, .int 32767), (19, .if_icmp .gt 7, 22, 26, 0, .null), (22, .iconst 1, 23, 0, 0, .int 1), (23, .goto 4, 26, 27, 0, .null),
  (26, .iconst 0, 27, 0, 0, .int 0), (27, .istore 4, 29, 0, 0, .null), (29, .iload 4, 31, 0, 0, .null), (31, .ifCond .eq 12, 34, 43, 0, .null), (34, .aload_n 0, 35, 0, 0, .null), (35, .getfield 25, 38, 3, 3, .ref 35),
  (38, .bipush 30, 40, 0, 0, .int 30), (40, .if_icmp .lt 5, 43, 45, 0, .null), (43, .iconst (-1), 44, 0, 0, .int (-1)), (44, .ireturn, 45, 0, 0, .null), (45, .aload_n 0, 46, 0, 0, .null), (46, .getfield 18, 49, 3, 1, .ref 33),
  (49, .aload_n 0, 50, 0, 0, .null), (50, .getfield 25, 53, 3, 3, .ref 35), (53, .iload_n 1, 54, 0, 0, .null), (54, .iastore, 55, 0, 0, .null), (55, .aload_n 0, 56, 0, 0, .null), (56, .getfield 22, 59, 3, 2, .ref 34),
  (59, .aload_n 0, 60, 0, 0, .null), (60, .getfield 25, 63, 3, 3, .ref 35), (63, .iload_n 2, 64, 0, 0, .null), (64, .bipush 15, 66, 0, 0, .int 15), (66, .ishl, 67, 0, 0, .null), (67, .iload_n 3, 68, 0, 0, .null),
  (68, .ior, 69, 0, 0, .null), (69, .iastore, 70, 0, 0, .null), (70, .aload_n 0, 71, 0, 0, .null), (71, .dup, 72, 0, 0, .null), (72, .getfield 25, 75, 3, 3, .ref 35), (75, .iconst 1, 76, 0, 0, .int 1),
  (76, .iadd, 77, 0, 0, .null), (77, .putfield 25, 80, 3, 3, .ref 35), (80, .aload_n 0, 81, 0, 0, .null), (81, .getfield 25, 84, 3, 3, .ref 35), (84, .iconst 1, 85, 0, 0, .int 1), (85, .isub, 86, 0, 0, .null),
  (86, .ireturn, 87, 0, 0, .null)]
def pX3_misfit : List (Nat × mv_I) := [(0, .iconst 0, 1, 0, 0, .int 0), (1, .istore_n 2, 2, 0, 0, .null), (2, .iload_n 2, 3, 0, 0, .null), (3, .bipush 6, 5, 0, 0, .int 6), (5, .if_icmp .ge 41, 8, 46, 0, .null), (8, .aload_n 0, 9, 0, 0, .null),
  (9, .getfield 22, 12, 3, 2, .ref 34), (12, .iload_n 1, 13, 0, 0, .null), (13, .iaload, 14, 0, 0, .null), (14, .iconst 5, 15, 0, 0, .int 5), (15, .iconst 5, 16, 0, 0, .int 5), (16, .iload_n 2, 17, 0, 0, .null),
  (17, .isub, 18, 0, 0, .null), (18, .imul, 19, 0, 0, .null), (19, .ishr, 20, 0, 0, .null), (20, .bipush 31, 22, 0, 0, .int 31), (22, .iand, 23, 0, 0, .null), (23, .istore_n 3, 24, 0, 0, .null),
  (24, .aload_n 0, 25, 0, 0, .null), (25, .getfield 12, 28, 3, 0, .ref 32), (28, .iload_n 2, 29, 0, 0, .null), (29, .iload_n 3, 30, 0, 0, .null), (30, .invokevirtual 29, 33, 35, 42, .null), (33, .ifCond .ne 7, 36, 40, 0, .null),
  (36, .iconst 1, 37, 0, 0, .int 1), (37, .iload_n 2, 38, 0, 0, .null), (38, .iadd, 39, 0, 0, .null), (39, .ireturn, 40, 0, 0, .null), (40, .iinc 2 1, 43, 0, 0, .int 1), (43, .goto (-41), 46, 2, 0, .null),
  (46, .iconst 0, 47, 0, 0, .int 0), (47, .ireturn, 48, 0, 0, .null)]
def pX3_fittingOf : List (Nat × mv_I) := [(0, .iconst 0, 1, 0, 0, .int 0), (1, .istore_n 2, 2, 0, 0, .null), (2, .iconst 0, 3, 0, 0, .int 0), (3, .istore_n 3, 4, 0, 0, .null), (4, .iload_n 3, 5, 0, 0, .null), (5, .aload_n 0, 6, 0, 0, .null),
  (6, .getfield 25, 9, 3, 3, .ref 35), (9, .if_icmp .ge 33, 12, 42, 0, .null), (12, .iload_n 1, 13, 0, 0, .null), (13, .aload_n 0, 14, 0, 0, .null), (14, .getfield 18, 17, 3, 1, .ref 33), (17, .iload_n 3, 18, 0, 0, .null),
  (18, .iaload, 19, 0, 0, .null), (19, .invokestatic 33, 22, 36, 110, .null), (22, .ifCond .eq 14, 25, 36, 0, .null), (25, .aload_n 0, 26, 0, 0, .null), (26, .iload_n 3, 27, 0, 0, .null), (27, .invokevirtual 36, 30, 37, 37, .null),
  (30, .ifCond .ne 6, 33, 36, 0, .null), (33, .iinc 2 1, 36, 0, 0, .int 1), (36, .iinc 3 1, 39, 0, 0, .int 1), (39, .goto (-35), 42, 4, 0, .null), (42, .iload_n 2, 43, 0, 0, .null), (43, .ireturn, 44, 0, 0, .null)]
def pX4_init : List (Nat × mv_I) := [(0, .aload_n 0, 1, 0, 0, .null), (1, .invokespecial 3, 4, 224, 999, .null), (4, .aload_n 0, 5, 0, 0, .null), (5, .bipush 6, 7, 0, 0, .int 6), (7, .newarray .int, 9, 0, 0, .null), (9, .putfield 9, 12, 4, 0, .ref 36),
  (12, .aload_n 0, 13, 0, 0, .null), (13, .bipush 6, 15, 0, 0, .int 6), (15, .newarray .int, 17, 0, 0, .null), (17, .putfield 15, 20, 4, 1, .ref 37), (20, .iconst 0, 21, 0, 0, .int 0), (21, .istore_n 1, 22, 0, 0, .null),
  (22, .iload_n 1, 23, 0, 0, .null), (23, .bipush 6, 25, 0, 0, .int 6), (25, .if_icmp .ge 16, 28, 41, 0, .null), (28, .aload_n 0, 29, 0, 0, .null), (29, .getfield 9, 32, 4, 0, .ref 36), (32, .iload_n 1, 33, 0, 0, .null),
  (33, .iconst (-1), 34, 0, 0, .int (-1)), (34, .iastore, 35, 0, 0, .null), (35, .iinc 1 1, 38, 0, 0, .int 1), (38, .goto (-16), 41, 22, 0, .null), (41, .return_, 42, 0, 0, .null)]
def pX4_set : List (Nat × mv_I) := [(0, .iload_n 1, 1, 0, 0, .null), (1, .ifCond .lt 13, 4, 14, 0, .null), (4, .iload_n 1, 5, 0, 0, .null), (5, .bipush 6, 7, 0, 0, .int 6), (7, .if_icmp .ge 7, 10, 14, 0, .null), (10, .iconst 1, 11, 0, 0, .int 1),
  (11, .goto 4, 14, 15, 0, .null), (14, .iconst 0, 15, 0, 0, .int 0), (15, .istore 4, 17, 0, 0, .null), (17, .iload_n 2, 18, 0, 0, .null), (18, .iconst (-1), 19, 0, 0, .int (-1)), (19, .if_icmp .eq 10, 22, 29, 0, .null),
  (22, .iload_n 2, 23, 0, 0, .null), (23, .invokestatic 18, 26, 38, 108, .null), (26, .ifCond .eq 7, 29, 33, 0, .null), (29, .iconst 1, 30, 0, 0, .int 1), (30, .goto 4, 33, 34, 0, .null), (33, .iconst 0, 34, 0, 0, .int 0),
  (34, .istore 5, 36, 0, 0, .null), (36, .iload 4, 38, 0, 0, .null), (38, .ifCond .eq 15, 41, 53, 0, .null), (41, .iload 5, 43, 0, 0, .null), (43, .ifCond .eq 10, 46, 53, 0, .null), (46, .iload_n 3, 47, 0, 0, .null),
  (47, .invokestatic 18, 50, 38, 108, .null), (50, .ifCond .ne 5, 53, 55, 0, .null), (53, .iconst 0, 54, 0, 0, .int 0), (54, .ireturn, 55, 0, 0, .null), (55, .aload_n 0, 56, 0, 0, .null), (56, .getfield 9, 59, 4, 0, .ref 36),
  (59, .iload_n 1, 60, 0, 0, .null), (60, .iload_n 2, 61, 0, 0, .null), (61, .iastore, 62, 0, 0, .null), (62, .aload_n 0, 63, 0, 0, .null), (63, .getfield 15, 66, 4, 1, .ref 37), (66, .iload_n 1, 67, 0, 0, .null),
  (67, .iload_n 3, 68, 0, 0, .null), (68, .iastore, 69, 0, 0, .null), (69, .iconst 1, 70, 0, 0, .int 1), (70, .ireturn, 71, 0, 0, .null)]
def pX4_tellOn : List (Nat × mv_I) := [(0, .iconst 0, 1, 0, 0, .int 0), (1, .istore_n 2, 2, 0, 0, .null), (2, .iconst 0, 3, 0, 0, .int 0), (3, .istore_n 3, 4, 0, 0, .null), (4, .iload_n 3, 5, 0, 0, .null), (5, .bipush 6, 7, 0, 0, .int 6),
  (7, .if_icmp .ge 47, 10, 54, 0, .null), (10, .aload_n 0, 11, 0, 0, .null), (11, .getfield 9, 14, 4, 0, .ref 36), (14, .iload_n 3, 15, 0, 0, .null), (15, .iaload, 16, 0, 0, .null), (16, .iconst (-1), 17, 0, 0, .int (-1)),
  (17, .if_icmp .eq 31, 20, 48, 0, .null), (20, .aload_n 0, 21, 0, 0, .null), (21, .getfield 15, 24, 4, 1, .ref 37), (24, .iload_n 3, 25, 0, 0, .null), (25, .aload_n 0, 26, 0, 0, .null), (26, .getfield 15, 29, 4, 1, .ref 37),
  (29, .iload_n 3, 30, 0, 0, .null), (30, .iaload, 31, 0, 0, .null), (31, .iload_n 1, 32, 0, 0, .null), (32, .iadd, 33, 0, 0, .null), (33, .bipush 31, 35, 0, 0, .int 31), (35, .invokestatic 22, 38, 648, 901, .null),
  (38, .iastore, 39, 0, 0, .null), (39, .iload_n 2, 40, 0, 0, .null), (40, .aload_n 0, 41, 0, 0, .null), (41, .getfield 15, 44, 4, 1, .ref 37), (44, .iload_n 3, 45, 0, 0, .null), (45, .iaload, 46, 0, 0, .null),
  (46, .iadd, 47, 0, 0, .null), (47, .istore_n 2, 48, 0, 0, .null), (48, .iinc 3 1, 51, 0, 0, .int 1), (51, .goto (-47), 54, 4, 0, .null), (54, .iload_n 2, 55, 0, 0, .null), (55, .ireturn, 56, 0, 0, .null)]
def pX4_agrees : List (Nat × mv_I) := [(0, .aload_n 0, 1, 0, 0, .null), (1, .getfield 9, 4, 4, 0, .ref 36), (4, .iload_n 1, 5, 0, 0, .null), (5, .iaload, 6, 0, 0, .null), (6, .iconst (-1), 7, 0, 0, .int (-1)), (7, .if_icmp .eq 23, 10, 30, 0, .null),
  (10, .iload_n 2, 11, 0, 0, .null), (11, .aload_n 0, 12, 0, 0, .null), (12, .getfield 9, 15, 4, 0, .ref 36), (15, .iload_n 1, 16, 0, 0, .null), (16, .iaload, 17, 0, 0, .null), (17, .isub, 18, 0, 0, .null),
  (18, .invokestatic 28, 21, 669, 903, .null), (21, .aload_n 0, 22, 0, 0, .null), (22, .getfield 15, 25, 4, 1, .ref 37), (25, .iload_n 1, 26, 0, 0, .null), (26, .iaload, 27, 0, 0, .null), (27, .if_icmp .gt 7, 30, 34, 0, .null),
  (30, .iconst 1, 31, 0, 0, .int 1), (31, .goto 4, 34, 35, 0, .null), (34, .iconst 0, 35, 0, 0, .int 0), (35, .ireturn, 36, 0, 0, .null)]
def pX5_init : List (Nat × mv_I) := [(0, .aload_n 0, 1, 0, 0, .null), (1, .invokespecial 3, 4, 142, 999, .null), (4, .aload_n 0, 5, 0, 0, .null), (5, .bipush 40, 7, 0, 0, .int 40), (7, .newarray .int, 9, 0, 0, .null), (9, .putfield 9, 12, 5, 0, .ref 38),
  (12, .aload_n 0, 13, 0, 0, .null), (13, .bipush 40, 15, 0, 0, .int 40), (15, .newarray .int, 17, 0, 0, .null), (17, .putfield 15, 20, 5, 1, .ref 39), (20, .aload_n 0, 21, 0, 0, .null), (21, .bipush 40, 23, 0, 0, .int 40),
  (23, .newarray .int, 25, 0, 0, .null), (25, .putfield 18, 28, 5, 2, .ref 40), (28, .aload_n 0, 29, 0, 0, .null), (29, .bipush 40, 31, 0, 0, .int 40), (31, .newarray .boolean, 33, 1, 0, .null), (33, .putfield 21, 36, 5, 3, .ref 41),
  (36, .aload_n 0, 37, 0, 0, .null), (37, .iconst 0, 38, 0, 0, .int 0), (38, .putfield 25, 41, 5, 4, .ref 42), (41, .return_, 42, 0, 0, .null)]
def pX5_add : List (Nat × mv_I) := [(0, .iload_n 3, 1, 0, 0, .null), (1, .invokestatic 29, 4, 39, 106, .null), (4, .ifCond .eq 12, 7, 16, 0, .null), (7, .aload_n 0, 8, 0, 0, .null), (8, .getfield 25, 11, 5, 4, .ref 42), (11, .bipush 40, 13, 0, 0, .int 40),
  (13, .if_icmp .lt 5, 16, 18, 0, .null), (16, .iconst (-1), 17, 0, 0, .int (-1)), (17, .ireturn, 18, 0, 0, .null), (18, .aload_n 0, 19, 0, 0, .null), (19, .getfield 9, 22, 5, 0, .ref 38), (22, .aload_n 0, 23, 0, 0, .null),
  (23, .getfield 25, 26, 5, 4, .ref 42), (26, .iload_n 1, 27, 0, 0, .null), (27, .iastore, 28, 0, 0, .null), (28, .aload_n 0, 29, 0, 0, .null), (29, .getfield 15, 32, 5, 1, .ref 39), (32, .aload_n 0, 33, 0, 0, .null),
  (33, .getfield 25, 36, 5, 4, .ref 42), (36, .iload_n 2, 37, 0, 0, .null), (37, .iastore, 38, 0, 0, .null), (38, .aload_n 0, 39, 0, 0, .null), (39, .getfield 18, 42, 5, 2, .ref 40), (42, .aload_n 0, 43, 0, 0, .null),
  (43, .getfield 25, 46, 5, 4, .ref 42), (46, .iload_n 3, 47, 0, 0, .null), (47, .iastore, 48, 0, 0, .null), (48, .aload_n 0, 49, 0, 0, .null), (49, .dup, 50, 0, 0, .null), (50, .getfield 25, 53, 5, 4, .ref 42),
  (53, .iconst 1, 54, 0, 0, .int 1), (54, .iadd, 55, 0, 0, .null), (55, .putfield 25, 58, 5, 4, .ref 42), (58, .aload_n 0, 59, 0, 0, .null), (59, .getfield 25, 62, 5, 4, .ref 42), (62, .iconst 1, 63, 0, 0, .int 1),
  (63, .isub, 64, 0, 0, .null), (64, .ireturn, 65, 0, 0, .null)]
def pX5_standing : List (Nat × mv_I) := [(0, .iconst 0, 1, 0, 0, .int 0), (1, .istore_n 1, 2, 0, 0, .null), (2, .iconst 0, 3, 0, 0, .int 0), (3, .istore_n 2, 4, 0, 0, .null), (4, .iload_n 2, 5, 0, 0, .null), (5, .aload_n 0, 6, 0, 0, .null),
  (6, .getfield 25, 9, 5, 4, .ref 42), (9, .if_icmp .ge 21, 12, 30, 0, .null), (12, .aload_n 0, 13, 0, 0, .null), (13, .getfield 21, 16, 5, 3, .ref 41), (16, .iload_n 2, 17, 0, 0, .null), (17, .baload, 18, 0, 0, .null),
  (18, .ifCond .ne 6, 21, 24, 0, .null), (21, .iinc 1 1, 24, 0, 0, .int 1), (24, .iinc 2 1, 27, 0, 0, .int 1), (27, .goto (-23), 30, 4, 0, .null), (30, .iload_n 1, 31, 0, 0, .null), (31, .ireturn, 32, 0, 0, .null)]
def pX6_init : List (Nat × mv_I) := [(0, .aload_n 0, 1, 0, 0, .null), (1, .invokespecial 3, 4, 93, 999, .null), (4, .aload_n 0, 5, 0, 0, .null), (5, .bipush 24, 7, 0, 0, .int 24), (7, .newarray .int, 9, 0, 0, .null), (9, .putfield 9, 12, 6, 0, .ref 43),
  (12, .aload_n 0, 13, 0, 0, .null), (13, .bipush 24, 15, 0, 0, .int 24), (15, .newarray .int, 17, 0, 0, .null), (17, .putfield 15, 20, 6, 1, .ref 44), (20, .aload_n 0, 21, 0, 0, .null), (21, .bipush 40, 23, 0, 0, .int 40),
  (23, .newarray .int, 25, 0, 0, .null), (25, .putfield 18, 28, 6, 2, .ref 45), (28, .aload_n 0, 29, 0, 0, .null), (29, .bipush 40, 31, 0, 0, .int 40), (31, .newarray .int, 33, 0, 0, .null), (33, .putfield 21, 36, 6, 3, .ref 46),
  (36, .aload_n 0, 37, 0, 0, .null), (37, .bipush 40, 39, 0, 0, .int 40), (39, .newarray .int, 41, 0, 0, .null), (41, .putfield 24, 44, 6, 4, .ref 47), (44, .aload_n 0, 45, 0, 0, .null), (45, .bipush 40, 47, 0, 0, .int 40),
  (47, .newarray .boolean, 49, 1, 0, .null), (49, .putfield 27, 52, 6, 5, .ref 48), (52, .aload_n 0, 53, 0, 0, .null), (53, .iconst 0, 54, 0, 0, .int 0), (54, .putfield 31, 57, 6, 6, .ref 49), (57, .aload_n 0, 58, 0, 0, .null),
  (58, .iconst 0, 59, 0, 0, .int 0), (59, .putfield 35, 62, 6, 7, .ref 50), (62, .aload_n 0, 63, 0, 0, .null), (63, .iconst 0, 64, 0, 0, .int 0), (64, .putfield 38, 67, 6, 8, .ref 51), (67, .aload_n 0, 68, 0, 0, .null),
  (68, .iconst (-1), 69, 0, 0, .int (-1)), (69, .putfield 41, 72, 6, 9, .ref 52), (72, .return_, 73, 0, 0, .null)]
def pX6_hasParish : List (Nat × mv_I) := [(0, .iload_n 1, 1, 0, 0, .null), (1, .ifCond .lt 15, 4, 16, 0, .null), (4, .iload_n 1, 5, 0, 0, .null), (5, .aload_n 0, 6, 0, 0, .null), (6, .getfield 31, 9, 6, 6, .ref 49), (9, .if_icmp .ge 7, 12, 16, 0, .null),
  (12, .iconst 1, 13, 0, 0, .int 1), (13, .goto 4, 16, 17, 0, .null), (16, .iconst 0, 17, 0, 0, .int 0), (17, .ireturn, 18, 0, 0, .null)]
def pX6_hasRoad : List (Nat × mv_I) := [(0, .iload_n 1, 1, 0, 0, .null), (1, .ifCond .lt 15, 4, 16, 0, .null), (4, .iload_n 1, 5, 0, 0, .null), (5, .aload_n 0, 6, 0, 0, .null), (6, .getfield 35, 9, 6, 7, .ref 50), (9, .if_icmp .ge 7, 12, 16, 0, .null),
  (12, .iconst 1, 13, 0, 0, .int 1), (13, .goto 4, 16, 17, 0, .null), (16, .iconst 0, 17, 0, 0, .int 0), (17, .ireturn, 18, 0, 0, .null)]
def pX6_addParish : List (Nat × mv_I) := [(0, .iload_n 1, 1, 0, 0, .null), (1, .invokestatic 44, 4, 40, 107, .null), (4, .ifCond .eq 12, 7, 16, 0, .null), (7, .aload_n 0, 8, 0, 0, .null), (8, .getfield 31, 11, 6, 6, .ref 49), (11, .bipush 24, 13, 0, 0, .int 24),
  (13, .if_icmp .lt 5, 16, 18, 0, .null), (16, .iconst (-1), 17, 0, 0, .int (-1)), (17, .ireturn, 18, 0, 0, .null), (18, .aload_n 0, 19, 0, 0, .null), (19, .getfield 9, 22, 6, 0, .ref 43), (22, .aload_n 0, 23, 0, 0, .null),
  (23, .getfield 31, 26, 6, 6, .ref 49), (26, .iload_n 1, 27, 0, 0, .null), (27, .iastore, 28, 0, 0, .null), (28, .aload_n 0, 29, 0, 0, .null), (29, .dup, 30, 0, 0, .null), (30, .getfield 31, 33, 6, 6, .ref 49),
  (33, .iconst 1, 34, 0, 0, .int 1), (34, .iadd, 35, 0, 0, .null), (35, .putfield 31, 38, 6, 6, .ref 49), (38, .aload_n 0, 39, 0, 0, .null), (39, .getfield 31, 42, 6, 6, .ref 49), (42, .iconst 1, 43, 0, 0, .int 1),
  (43, .isub, 44, 0, 0, .null), (44, .ireturn, 45, 0, 0, .null)]
def pX6_addRoad : List (Nat × mv_I) := [(0, .aload_n 0, 1, 0, 0, .null), (1, .iload_n 1, 2, 0, 0, .null), (2, .invokevirtual 48, 5, 41, 47, .null), (5, .ifCond .eq 20, 8, 25, 0, .null), (8, .aload_n 0, 9, 0, 0, .null), (9, .iload_n 2, 10, 0, 0, .null),
  (10, .invokevirtual 48, 13, 41, 47, .null), (13, .ifCond .eq 12, 16, 25, 0, .null), (16, .iload_n 1, 17, 0, 0, .null), (17, .iload_n 2, 18, 0, 0, .null), (18, .if_icmp .eq 7, 21, 25, 0, .null), (21, .iconst 1, 22, 0, 0, .int 1),
  (22, .goto 4, 25, 26, 0, .null), (25, .iconst 0, 26, 0, 0, .int 0), (26, .istore 4, 28, 0, 0, .null), (28, .iload 4, 30, 0, 0, .null), (30, .ifCond .eq 23, 33, 53, 0, .null), (33, .iload_n 3, 34, 0, 0, .null),
  (34, .iconst 1, 35, 0, 0, .int 1), (35, .if_icmp .lt 18, 38, 53, 0, .null), (38, .iload_n 3, 39, 0, 0, .null), (39, .bipush 12, 41, 0, 0, .int 12), (41, .if_icmp .gt 12, 44, 53, 0, .null), (44, .aload_n 0, 45, 0, 0, .null),
  (45, .getfield 35, 48, 6, 7, .ref 50), (48, .bipush 40, 50, 0, 0, .int 40), (50, .if_icmp .lt 5, 53, 55, 0, .null), (53, .iconst (-1), 54, 0, 0, .int (-1)), (54, .ireturn, 55, 0, 0, .null), (55, .aload_n 0, 56, 0, 0, .null),
  (56, .getfield 18, 59, 6, 2, .ref 45), (59, .aload_n 0, 60, 0, 0, .null), (60, .getfield 35, 63, 6, 7, .ref 50), (63, .iload_n 1, 64, 0, 0, .null), (64, .iastore, 65, 0, 0, .null), (65, .aload_n 0, 66, 0, 0, .null),
  (66, .getfield 21, 69, 6, 3, .ref 46), (69, .aload_n 0, 70, 0, 0, .null), (70, .getfield 35, 73, 6, 7, .ref 50), (73, .iload_n 2, 74, 0, 0, .null), (74, .iastore, 75, 0, 0, .null), (75, .aload_n 0, 76, 0, 0, .null),
  (76, .getfield 24, 79, 6, 4, .ref 47), (79, .aload_n 0, 80, 0, 0, .null), (80, .getfield 35, 83, 6, 7, .ref 50), (83, .iload_n 3, 84, 0, 0, .null), (84, .iastore, 85, 0, 0, .null), (85, .aload_n 0, 86, 0, 0, .null),
  (86, .dup, 87, 0, 0, .null), (87, .getfield 35, 90, 6, 7, .ref 50), (90, .iconst 1, 91, 0, 0, .int 1), (91, .iadd, 92, 0, 0, .null), (92, .putfield 35, 95, 6, 7, .ref 50), (95, .aload_n 0, 96, 0, 0, .null),
  (96, .getfield 35, 99, 6, 7, .ref 50), (99, .iconst 1, 100, 0, 0, .int 1), (100, .isub, 101, 0, 0, .null), (101, .ireturn, 102, 0, 0, .null)]
def pX6_parishesOf : List (Nat × mv_I) := [(0, .iconst 0, 1, 0, 0, .int 0), (1, .istore_n 2, 2, 0, 0, .null), (2, .iconst 0, 3, 0, 0, .int 0), (3, .istore_n 3, 4, 0, 0, .null), (4, .iload_n 3, 5, 0, 0, .null), (5, .aload_n 0, 6, 0, 0, .null),
  (6, .getfield 31, 9, 6, 6, .ref 49), (9, .if_icmp .ge 26, 12, 35, 0, .null), (12, .aload_n 0, 13, 0, 0, .null), (13, .getfield 9, 16, 6, 0, .ref 43), (16, .iload_n 3, 17, 0, 0, .null), (17, .iaload, 18, 0, 0, .null),
  (18, .iload_n 1, 19, 0, 0, .null), (19, .if_icmp .ne 10, 22, 29, 0, .null), (22, .iload_n 2, 23, 0, 0, .null), (23, .iload_n 3, 24, 0, 0, .null), (24, .invokestatic 51, 27, 42, 109, .null), (27, .ior, 28, 0, 0, .null),
  (28, .istore_n 2, 29, 0, 0, .null), (29, .iinc 3 1, 32, 0, 0, .int 1), (32, .goto (-28), 35, 4, 0, .null), (35, .iload_n 2, 36, 0, 0, .null), (36, .ireturn, 37, 0, 0, .null)]
def pX6_startBit : List (Nat × mv_I) := [(0, .aload_n 0, 1, 0, 0, .null), (1, .getfield 41, 4, 6, 9, .ref 52), (4, .iconst (-1), 5, 0, 0, .int (-1)), (5, .if_icmp .ne 7, 8, 12, 0, .null), (8, .iconst 0, 9, 0, 0, .int 0), (9, .goto 10, 12, 19, 0, .null),
  (12, .aload_n 0, 13, 0, 0, .null), (13, .getfield 41, 16, 6, 9, .ref 52), (16, .invokestatic 51, 19, 42, 109, .null), (19, .ireturn, 20, 0, 0, .null)]
def pX6_across : List (Nat × mv_I) := [(0, .aload_n 0, 1, 0, 0, .null), (1, .getfield 27, 4, 6, 5, .ref 48), (4, .iload_n 1, 5, 0, 0, .null), (5, .baload, 6, 0, 0, .null), (6, .ifCond .eq 5, 9, 11, 0, .null), (9, .iconst 0, 10, 0, 0, .int 0),
  (10, .ireturn, 11, 0, 0, .null), (11, .iload_n 2, 12, 0, 0, .null), (12, .aload_n 0, 13, 0, 0, .null), (13, .getfield 18, 16, 6, 2, .ref 45), (16, .iload_n 1, 17, 0, 0, .null), (17, .iaload, 18, 0, 0, .null),
  (18, .ishr, 19, 0, 0, .null), (19, .iconst 1, 20, 0, 0, .int 1), (20, .iand, 21, 0, 0, .null), (21, .aload_n 0, 22, 0, 0, .null), (22, .getfield 21, 25, 6, 3, .ref 46), (25, .iload_n 1, 26, 0, 0, .null),
  (26, .iaload, 27, 0, 0, .null), (27, .ishl, 28, 0, 0, .null), (28, .istore_n 3, 29, 0, 0, .null), (29, .iload_n 2, 30, 0, 0, .null), (30, .aload_n 0, 31, 0, 0, .null), (31, .getfield 21, 34, 6, 3, .ref 46),
  (34, .iload_n 1, 35, 0, 0, .null), (35, .iaload, 36, 0, 0, .null), (36, .ishr, 37, 0, 0, .null), (37, .iconst 1, 38, 0, 0, .int 1), (38, .iand, 39, 0, 0, .null), (39, .aload_n 0, 40, 0, 0, .null),
  (40, .getfield 18, 43, 6, 2, .ref 45), (43, .iload_n 1, 44, 0, 0, .null), (44, .iaload, 45, 0, 0, .null), (45, .ishl, 46, 0, 0, .null), (46, .istore 4, 48, 0, 0, .null), (48, .iload_n 3, 49, 0, 0, .null),
  (49, .iload 4, 51, 0, 0, .null), (51, .ior, 52, 0, 0, .null), (52, .ireturn, 53, 0, 0, .null)]
def pX6_otherEnd : List (Nat × mv_I) := [(0, .aload_n 0, 1, 0, 0, .null), (1, .getfield 18, 4, 6, 2, .ref 45), (4, .iload_n 1, 5, 0, 0, .null), (5, .iaload, 6, 0, 0, .null), (6, .iload_n 2, 7, 0, 0, .null), (7, .if_icmp .ne 12, 10, 19, 0, .null),
  (10, .aload_n 0, 11, 0, 0, .null), (11, .getfield 21, 14, 6, 3, .ref 46), (14, .iload_n 1, 15, 0, 0, .null), (15, .iaload, 16, 0, 0, .null), (16, .goto 9, 19, 25, 0, .null), (19, .aload_n 0, 20, 0, 0, .null),
  (20, .getfield 18, 23, 6, 2, .ref 45), (23, .iload_n 1, 24, 0, 0, .null), (24, .iaload, 25, 0, 0, .null), (25, .ireturn, 26, 0, 0, .null)]
def pX6_shortest : List (Nat × mv_I) := [(0, .iconst 0, 1, 0, 0, .int 0), (1, .istore_n 3, 2, 0, 0, .null), (2, .iload_n 3, 3, 0, 0, .null), (3, .aload_n 0, 4, 0, 0, .null), (4, .getfield 31, 7, 6, 6, .ref 49), (7, .if_icmp .ge 16, 10, 23, 0, .null),
  (10, .aload_n 0, 11, 0, 0, .null), (11, .getfield 15, 14, 6, 1, .ref 44), (14, .iload_n 3, 15, 0, 0, .null), (15, .iconst (-1), 16, 0, 0, .int (-1)), (16, .iastore, 17, 0, 0, .null), (17, .iinc 3 1, 20, 0, 0, .int 1),
  (20, .goto (-18), 23, 2, 0, .null), (23, .aload_n 0, 24, 0, 0, .null), (24, .getfield 15, 27, 6, 1, .ref 44), (27, .iload_n 1, 28, 0, 0, .null), (28, .iconst 0, 29, 0, 0, .int 0), (29, .iastore, 30, 0, 0, .null),
  (30, .iconst 1, 31, 0, 0, .int 1), (31, .istore_n 3, 32, 0, 0, .null), (32, .iconst 0, 33, 0, 0, .int 0), (33, .istore 4, 35, 0, 0, .null), (35, .iload 4, 37, 0, 0, .null), (37, .aload_n 0, 38, 0, 0, .null),
  (38, .getfield 31, 41, 6, 6, .ref 49), (41, .if_icmp .ge 99, 44, 140, 0, .null), (44, .iload_n 3, 45, 0, 0, .null), (45, .ifCond .eq 95, 48, 140, 0, .null), (48, .iconst 0, 49, 0, 0, .int 0), (49, .istore_n 3, 50, 0, 0, .null),
  (50, .iconst 0, 51, 0, 0, .int 0), (51, .istore 5, 53, 0, 0, .null), (53, .iload 5, 55, 0, 0, .null), (55, .aload_n 0, 56, 0, 0, .null), (56, .getfield 35, 59, 6, 7, .ref 50), (59, .if_icmp .ge 75, 62, 134, 0, .null),
  (62, .aload_n 0, 63, 0, 0, .null), (63, .getfield 27, 66, 6, 5, .ref 48), (66, .iload 5, 68, 0, 0, .null), (68, .baload, 69, 0, 0, .null), (69, .ifCond .ne 59, 72, 128, 0, .null), (72, .iload_n 3, 73, 0, 0, .null),
  (73, .aload_n 0, 74, 0, 0, .null), (74, .aload_n 0, 75, 0, 0, .null), (75, .getfield 18, 78, 6, 2, .ref 45), (78, .iload 5, 80, 0, 0, .null), (80, .iaload, 81, 0, 0, .null), (81, .aload_n 0, 82, 0, 0, .null),
  (82, .getfield 21, 85, 6, 3, .ref 46), (85, .iload 5, 87, 0, 0, .null), (87, .iaload, 88, 0, 0, .null), (88, .aload_n 0, 89, 0, 0, .null), (89, .getfield 24, 92, 6, 4, .ref 47), (92, .iload 5, 94, 0, 0, .null),
  (94, .iaload, 95, 0, 0, .null), (95, .invokevirtual 55, 98, 43, 56, .null), (98, .ior, 99, 0, 0, .null), (99, .istore_n 3, 100, 0, 0, .null), (100, .iload_n 3, 101, 0, 0, .null), (101, .aload_n 0, 102, 0, 0, .null),
  (102, .aload_n 0, 103, 0, 0, .null), (103, .getfield 21, 106, 6, 3, .ref 46), (106, .iload 5, 108, 0, 0, .null), (108, .iaload, 109, 0, 0, .null), (109, .aload_n 0, 110, 0, 0, .null), (110, .getfield 18, 113, 6, 2, .ref 45),
  (113, .iload 5, 115, 0, 0, .null), (115, .iaload, 116, 0, 0, .null), (116, .aload_n 0, 117, 0, 0, .null), (117, .getfield 24, 120, 6, 4, .ref 47), (120, .iload 5, 122, 0, 0, .null), (122, .iaload, 123, 0, 0, .null),
  (123, .invokevirtual 55, 126, 43, 56, .null), (126, .ior, 127, 0, 0, .null), (127, .istore_n 3, 128, 0, 0, .null), (128, .iinc 5 1, 131, 0, 0, .int 1), (131, .goto (-78), 134, 53, 0, .null), (134, .iinc 4 1, 137, 0, 0, .int 1),
  (137, .goto (-102), 140, 35, 0, .null), (140, .aload_n 0, 141, 0, 0, .null), (141, .getfield 15, 144, 6, 1, .ref 44), (144, .iload_n 2, 145, 0, 0, .null), (145, .iaload, 146, 0, 0, .null), (146, .ireturn, 147, 0, 0, .null)]
def pX6_shorten : List (Nat × mv_I) := [(0, .aload_n 0, 1, 0, 0, .null), (1, .getfield 15, 4, 6, 1, .ref 44), (4, .iload_n 1, 5, 0, 0, .null), (5, .iaload, 6, 0, 0, .null), (6, .iconst (-1), 7, 0, 0, .int (-1)), (7, .if_icmp .ne 5, 10, 12, 0, .null),
  (10, .iconst 0, 11, 0, 0, .int 0), (11, .ireturn, 12, 0, 0, .null), (12, .aload_n 0, 13, 0, 0, .null), (13, .getfield 15, 16, 6, 1, .ref 44), (16, .iload_n 1, 17, 0, 0, .null), (17, .iaload, 18, 0, 0, .null),
  (18, .iload_n 3, 19, 0, 0, .null), (19, .iadd, 20, 0, 0, .null), (20, .istore 4, 22, 0, 0, .null), (22, .aload_n 0, 23, 0, 0, .null), (23, .getfield 15, 26, 6, 1, .ref 44), (26, .iload_n 2, 27, 0, 0, .null),
  (27, .iaload, 28, 0, 0, .null), (28, .iconst (-1), 29, 0, 0, .int (-1)), (29, .if_icmp .eq 16, 32, 45, 0, .null), (32, .aload_n 0, 33, 0, 0, .null), (33, .getfield 15, 36, 6, 1, .ref 44), (36, .iload_n 2, 37, 0, 0, .null),
  (37, .iaload, 38, 0, 0, .null), (38, .iload 4, 40, 0, 0, .null), (40, .if_icmp .gt 5, 43, 45, 0, .null), (43, .iconst 0, 44, 0, 0, .int 0), (44, .ireturn, 45, 0, 0, .null), (45, .aload_n 0, 46, 0, 0, .null),
  (46, .getfield 15, 49, 6, 1, .ref 44), (49, .iload_n 2, 50, 0, 0, .null), (50, .iload 4, 52, 0, 0, .null), (52, .iastore, 53, 0, 0, .null), (53, .iconst 1, 54, 0, 0, .int 1), (54, .ireturn, 55, 0, 0, .null)]
def pX7_init : List (Nat × mv_I) := [(0, .aload_n 0, 1, 0, 0, .null), (1, .invokespecial 3, 4, 81, 999, .null), (4, .aload_n 0, 5, 0, 0, .null), (5, .new 9, 8, 1, 82, .null), (8, .dup, 9, 0, 0, .null), (9, .invokespecial 11, 12, 44, 10, .null),
  (12, .putfield 12, 15, 7, 0, .ref 53), (15, .aload_n 0, 16, 0, 0, .null), (16, .aload_n 0, 17, 0, 0, .null), (17, .getfield 12, 20, 7, 0, .ref 53), (20, .getfield 18, 23, 1, 0, .ref 54), (23, .putfield 22, 26, 7, 1, .ref 55),
  (26, .aload_n 0, 27, 0, 0, .null), (27, .iconst 3, 28, 0, 0, .int 3), (28, .newarray .int, 30, 0, 0, .null), (30, .putfield 23, 33, 7, 2, .ref 56), (33, .aload_n 0, 34, 0, 0, .null), (34, .bipush 32, 36, 0, 0, .int 32),
  (36, .newarray .int, 38, 0, 0, .null), (38, .putfield 27, 41, 7, 3, .ref 57), (41, .aload_n 0, 42, 0, 0, .null), (42, .iconst 0, 43, 0, 0, .int 0), (43, .putfield 30, 46, 7, 4, .ref 58), (46, .aload_n 0, 47, 0, 0, .null),
  (47, .iconst 0, 48, 0, 0, .int 0), (48, .putfield 34, 51, 7, 5, .ref 59), (51, .aload_n 0, 52, 0, 0, .null), (52, .iconst 0, 53, 0, 0, .int 0), (53, .putfield 37, 56, 7, 6, .ref 60), (56, .return_, 57, 0, 0, .null)]
def pX7_fewest : List (Nat × mv_I) := [(0, .aload_n 0, 1, 0, 0, .null), (1, .iload_n 1, 2, 0, 0, .null), (2, .putfield 34, 5, 7, 5, .ref 59), (5, .aload_n 0, 6, 0, 0, .null), (6, .iload_n 2, 7, 0, 0, .null), (7, .putfield 37, 10, 7, 6, .ref 60),
  (10, .aload_n 0, 11, 0, 0, .null), (11, .iconst 0, 12, 0, 0, .int 0), (12, .putfield 30, 15, 7, 4, .ref 58), (15, .aload_n 0, 16, 0, 0, .null), (16, .getfield 12, 19, 7, 0, .ref 53), (19, .aload_n 0, 20, 0, 0, .null),
  (20, .getfield 34, 23, 7, 5, .ref 59), (23, .iconst (-1), 24, 0, 0, .int (-1)), (24, .invokevirtual 40, 27, 45, 18, .null), (27, .aload_n 0, 28, 0, 0, .null), (28, .getfield 12, 31, 7, 0, .ref 53), (31, .iconst 0, 32, 0, 0, .int 0),
  (32, .aload_n 0, 33, 0, 0, .null), (33, .getfield 34, 36, 7, 5, .ref 59), (36, .iconst 1, 37, 0, 0, .int 1), (37, .isub, 38, 0, 0, .null), (38, .iconst 0, 39, 0, 0, .int 0), (39, .invokevirtual 44, 42, 46, 20, .null),
  (42, .iconst 0, 43, 0, 0, .int 0), (43, .istore_n 3, 44, 0, 0, .null), (44, .iload_n 3, 45, 0, 0, .null), (45, .iconst 3, 46, 0, 0, .int 3), (46, .if_icmp .gt 84, 49, 130, 0, .null), (49, .iload_n 3, 50, 0, 0, .null),
  (50, .aload_n 0, 51, 0, 0, .null), (51, .getfield 22, 54, 7, 1, .ref 55), (54, .getfield 48, 57, 6, 6, .ref 61), (57, .if_icmp .gt 73, 60, 130, 0, .null), (60, .aload_n 0, 61, 0, 0, .null), (61, .iload_n 3, 62, 0, 0, .null),
  (62, .invokevirtual 53, 65, 47, 60, .null), (65, .iconst 1, 66, 0, 0, .int 1), (66, .istore 4, 68, 0, 0, .null), (68, .iconst 0, 69, 0, 0, .int 0), (69, .istore 5, 71, 0, 0, .null), (71, .iload 5, 73, 0, 0, .null),
  (73, .sipush 2024, 76, 0, 0, .int 2024), (76, .if_icmp .ge 48, 79, 124, 0, .null), (79, .iload 4, 81, 0, 0, .null), (81, .ifCond .eq 43, 84, 124, 0, .null), (84, .aload_n 0, 85, 0, 0, .null), (85, .iload_n 3, 86, 0, 0, .null),
  (86, .invokevirtual 57, 89, 48, 62, .null), (89, .istore 6, 91, 0, 0, .null), (91, .aload_n 0, 92, 0, 0, .null), (92, .iload 6, 94, 0, 0, .null), (94, .invokevirtual 61, 97, 49, 63, .null), (97, .ifCond .ne 14, 100, 111, 0, .null),
  (100, .aload_n 0, 101, 0, 0, .null), (101, .iload 6, 103, 0, 0, .null), (103, .invokevirtual 65, 106, 50, 64, .null), (106, .ifCond .ne 5, 109, 111, 0, .null), (109, .iload_n 3, 110, 0, 0, .null), (110, .ireturn, 111, 0, 0, .null),
  (111, .aload_n 0, 112, 0, 0, .null), (112, .iload_n 3, 113, 0, 0, .null), (113, .invokevirtual 68, 116, 51, 61, .null), (116, .istore 4, 118, 0, 0, .null), (118, .iinc 5 1, 121, 0, 0, .int 1), (121, .goto (-50), 124, 71, 0, .null),
  (124, .iinc 3 1, 127, 0, 0, .int 1), (127, .goto (-83), 130, 44, 0, .null), (130, .bipush (-3), 132, 0, 0, .int (-3)), (132, .ireturn, 133, 0, 0, .null)]
def pX7_tellPicks : List (Nat × mv_I) := [(0, .aload_n 2, 1, 0, 0, .null), (1, .iconst 0, 2, 0, 0, .int 0), (2, .putfield 71, 5, 8, 1, .ref 62), (5, .iconst 0, 6, 0, 0, .int 0), (6, .istore_n 3, 7, 0, 0, .null), (7, .iload_n 3, 8, 0, 0, .null),
  (8, .iload_n 1, 9, 0, 0, .null), (9, .if_icmp .ge 24, 12, 33, 0, .null), (12, .iload_n 3, 13, 0, 0, .null), (13, .iconst 3, 14, 0, 0, .int 3), (14, .if_icmp .ge 19, 17, 33, 0, .null), (17, .aload_n 2, 18, 0, 0, .null),
  (18, .aload_n 0, 19, 0, 0, .null), (19, .getfield 23, 22, 7, 2, .ref 56), (22, .iload_n 3, 23, 0, 0, .null), (23, .iaload, 24, 0, 0, .null), (24, .invokevirtual 76, 27, 52, 66, .null), (27, .iinc 3 1, 30, 0, 0, .int 1),
  (30, .goto (-23), 33, 7, 0, .null), (33, .return_, 34, 0, 0, .null)]
def pX7_pickLowest : List (Nat × mv_I) := [(0, .iconst 0, 1, 0, 0, .int 0), (1, .istore_n 2, 2, 0, 0, .null), (2, .iload_n 2, 3, 0, 0, .null), (3, .iload_n 1, 4, 0, 0, .null), (4, .if_icmp .ge 16, 7, 20, 0, .null), (7, .aload_n 0, 8, 0, 0, .null),
  (8, .getfield 23, 11, 7, 2, .ref 56), (11, .iload_n 2, 12, 0, 0, .null), (12, .iload_n 2, 13, 0, 0, .null), (13, .iastore, 14, 0, 0, .null), (14, .iinc 2 1, 17, 0, 0, .int 1), (17, .goto (-15), 20, 2, 0, .null),
  (20, .return_, 21, 0, 0, .null)]
def pX7_pickNext : List (Nat × mv_I) := [(0, .iload_n 1, 1, 0, 0, .null), (1, .iconst 1, 2, 0, 0, .int 1), (2, .isub, 3, 0, 0, .null), (3, .istore_n 2, 4, 0, 0, .null), (4, .iload_n 2, 5, 0, 0, .null), (5, .ifCond .lt 72, 8, 77, 0, .null),
  (8, .aload_n 0, 9, 0, 0, .null), (9, .getfield 23, 12, 7, 2, .ref 56), (12, .iload_n 2, 13, 0, 0, .null), (13, .iaload, 14, 0, 0, .null), (14, .aload_n 0, 15, 0, 0, .null), (15, .getfield 22, 18, 7, 1, .ref 55),
  (18, .getfield 48, 21, 6, 6, .ref 61), (21, .iload_n 1, 22, 0, 0, .null), (22, .isub, 23, 0, 0, .null), (23, .iload_n 2, 24, 0, 0, .null), (24, .iadd, 25, 0, 0, .null), (25, .if_icmp .ge 46, 28, 71, 0, .null),
  (28, .aload_n 0, 29, 0, 0, .null), (29, .getfield 23, 32, 7, 2, .ref 56), (32, .iload_n 2, 33, 0, 0, .null), (33, .dup2, 34, 0, 0, .null), (34, .iaload, 35, 0, 0, .null), (35, .iconst 1, 36, 0, 0, .int 1),
  (36, .iadd, 37, 0, 0, .null), (37, .iastore, 38, 0, 0, .null), (38, .iload_n 2, 39, 0, 0, .null), (39, .iconst 1, 40, 0, 0, .int 1), (40, .iadd, 41, 0, 0, .null), (41, .istore_n 3, 42, 0, 0, .null),
  (42, .iload_n 3, 43, 0, 0, .null), (43, .iload_n 1, 44, 0, 0, .null), (44, .if_icmp .ge 25, 47, 69, 0, .null), (47, .aload_n 0, 48, 0, 0, .null), (48, .getfield 23, 51, 7, 2, .ref 56), (51, .iload_n 3, 52, 0, 0, .null),
  (52, .aload_n 0, 53, 0, 0, .null), (53, .getfield 23, 56, 7, 2, .ref 56), (56, .iload_n 3, 57, 0, 0, .null), (57, .iconst 1, 58, 0, 0, .int 1), (58, .isub, 59, 0, 0, .null), (59, .iaload, 60, 0, 0, .null),
  (60, .iconst 1, 61, 0, 0, .int 1), (61, .iadd, 62, 0, 0, .null), (62, .iastore, 63, 0, 0, .null), (63, .iinc 3 1, 66, 0, 0, .int 1), (66, .goto (-24), 69, 42, 0, .null), (69, .iconst 1, 70, 0, 0, .int 1),
  (70, .ireturn, 71, 0, 0, .null), (71, .iinc 2 (-1), 74, 0, 0, .int (-1)), (74, .goto (-70), 77, 4, 0, .null), (77, .iconst 0, 78, 0, 0, .int 0), (78, .ireturn, 79, 0, 0, .null)]
def pX7_picked : List (Nat × mv_I) := [(0, .iconst 0, 1, 0, 0, .int 0), (1, .istore_n 2, 2, 0, 0, .null), (2, .iconst 0, 3, 0, 0, .int 0), (3, .istore_n 3, 4, 0, 0, .null), (4, .iload_n 3, 5, 0, 0, .null), (5, .iload_n 1, 6, 0, 0, .null),
  (6, .if_icmp .ge 21, 9, 27, 0, .null), (9, .iload_n 2, 10, 0, 0, .null), (10, .aload_n 0, 11, 0, 0, .null), (11, .getfield 23, 14, 7, 2, .ref 56), (14, .iload_n 3, 15, 0, 0, .null), (15, .iaload, 16, 0, 0, .null),
  (16, .invokestatic 79, 19, 53, 109, .null), (19, .ior, 20, 0, 0, .null), (20, .istore_n 2, 21, 0, 0, .null), (21, .iinc 3 1, 24, 0, 0, .int 1), (24, .goto (-20), 27, 4, 0, .null), (27, .iload_n 2, 28, 0, 0, .null),
  (28, .ireturn, 29, 0, 0, .null)]
def pX7_misses : List (Nat × mv_I) := [(0, .iconst 0, 1, 0, 0, .int 0), (1, .istore_n 2, 2, 0, 0, .null), (2, .iload_n 2, 3, 0, 0, .null), (3, .aload_n 0, 4, 0, 0, .null), (4, .getfield 30, 7, 7, 4, .ref 58), (7, .if_icmp .ge 28, 10, 35, 0, .null),
  (10, .iload_n 2, 11, 0, 0, .null), (11, .bipush 32, 13, 0, 0, .int 32), (13, .if_icmp .ge 22, 16, 35, 0, .null), (16, .aload_n 0, 17, 0, 0, .null), (17, .getfield 27, 20, 7, 3, .ref 57), (20, .iload_n 2, 21, 0, 0, .null),
  (21, .iaload, 22, 0, 0, .null), (22, .iload_n 1, 23, 0, 0, .null), (23, .iand, 24, 0, 0, .null), (24, .ifCond .ne 5, 27, 29, 0, .null), (27, .iconst 1, 28, 0, 0, .int 1), (28, .ireturn, 29, 0, 0, .null),
  (29, .iinc 2 1, 32, 0, 0, .int 1), (32, .goto (-30), 35, 2, 0, .null), (35, .iconst 0, 36, 0, 0, .int 0), (36, .ireturn, 37, 0, 0, .null)]
def pX7_escapes : List (Nat × mv_I) := [(0, .aload_n 0, 1, 0, 0, .null), (1, .getfield 34, 4, 7, 5, .ref 59), (4, .istore_n 2, 5, 0, 0, .null), (5, .iload_n 2, 6, 0, 0, .null), (6, .aload_n 0, 7, 0, 0, .null), (7, .getfield 37, 10, 7, 6, .ref 60),
  (10, .if_icmp .gt 85, 13, 95, 0, .null), (13, .aload_n 0, 14, 0, 0, .null), (14, .getfield 12, 17, 7, 0, .ref 53), (17, .iload_n 2, 18, 0, 0, .null), (18, .iload_n 2, 19, 0, 0, .null), (19, .iload_n 1, 20, 0, 0, .null),
  (20, .invokevirtual 44, 23, 46, 20, .null), (23, .aload_n 0, 24, 0, 0, .null), (24, .getfield 12, 27, 7, 0, .ref 53), (27, .getfield 82, 30, 1, 4, .ref 63), (30, .iload_n 2, 31, 0, 0, .null), (31, .iaload, 32, 0, 0, .null),
  (32, .aload_n 0, 33, 0, 0, .null), (33, .getfield 22, 36, 7, 1, .ref 55), (36, .getfield 85, 39, 6, 8, .ref 64), (39, .iand, 40, 0, 0, .null), (40, .istore_n 3, 41, 0, 0, .null), (41, .iload_n 3, 42, 0, 0, .null),
  (42, .ifCond .eq 47, 45, 89, 0, .null), (45, .aload_n 0, 46, 0, 0, .null), (46, .getfield 12, 49, 7, 0, .ref 53), (49, .iload_n 3, 50, 0, 0, .null), (50, .invokestatic 88, 53, 54, 170, .null), (53, .iload_n 2, 54, 0, 0, .null),
  (54, .aload_n 0, 55, 0, 0, .null), (55, .getfield 34, 58, 7, 5, .ref 59), (58, .invokevirtual 93, 61, 55, 29, .null), (61, .istore 4, 63, 0, 0, .null), (63, .aload_n 0, 64, 0, 0, .null), (64, .getfield 27, 67, 7, 3, .ref 57),
  (67, .aload_n 0, 68, 0, 0, .null), (68, .getfield 30, 71, 7, 4, .ref 58), (71, .bipush 32, 73, 0, 0, .int 32), (73, .irem, 74, 0, 0, .null), (74, .iload 4, 76, 0, 0, .null), (76, .iastore, 77, 0, 0, .null),
  (77, .aload_n 0, 78, 0, 0, .null), (78, .dup, 79, 0, 0, .null), (79, .getfield 30, 82, 7, 4, .ref 58), (82, .iconst 1, 83, 0, 0, .int 1), (83, .iadd, 84, 0, 0, .null), (84, .putfield 30, 87, 7, 4, .ref 58),
  (87, .iconst 1, 88, 0, 0, .int 1), (88, .ireturn, 89, 0, 0, .null), (89, .iinc 2 1, 92, 0, 0, .int 1), (92, .goto (-87), 95, 5, 0, .null), (95, .iconst 0, 96, 0, 0, .int 0), (96, .ireturn, 97, 0, 0, .null)]
def pX8_init : List (Nat × mv_I) := [(0, .aload_n 0, 1, 0, 0, .null), (1, .invokespecial 3, 4, 325, 999, .null), (4, .aload_n 0, 5, 0, 0, .null), (5, .bipush 48, 7, 0, 0, .int 48), (7, .newarray .int, 9, 0, 0, .null), (9, .putfield 9, 12, 8, 0, .ref 65),
  (12, .aload_n 0, 13, 0, 0, .null), (13, .iconst 0, 14, 0, 0, .int 0), (14, .putfield 15, 17, 8, 1, .ref 66), (17, .return_, 18, 0, 0, .null)]
def pX8_add : List (Nat × mv_I) := [(0, .aload_n 0, 1, 0, 0, .null), (1, .getfield 15, 4, 8, 1, .ref 66), (4, .bipush 48, 6, 0, 0, .int 48), (6, .if_icmp .ge 23, 9, 29, 0, .null), (9, .aload_n 0, 10, 0, 0, .null), (10, .getfield 9, 13, 8, 0, .ref 65),
  (13, .aload_n 0, 14, 0, 0, .null), (14, .getfield 15, 17, 8, 1, .ref 66), (17, .iload_n 1, 18, 0, 0, .null), (18, .iastore, 19, 0, 0, .null), (19, .aload_n 0, 20, 0, 0, .null), (20, .dup, 21, 0, 0, .null),
  (21, .getfield 15, 24, 8, 1, .ref 66), (24, .iconst 1, 25, 0, 0, .int 1), (25, .iadd, 26, 0, 0, .null), (26, .putfield 15, 29, 8, 1, .ref 66), (29, .return_, 30, 0, 0, .null)]
def pX8_turnRound : List (Nat × mv_I) := [(0, .iconst 0, 1, 0, 0, .int 0), (1, .istore_n 1, 2, 0, 0, .null), (2, .iload_n 1, 3, 0, 0, .null), (3, .aload_n 0, 4, 0, 0, .null), (4, .getfield 15, 7, 8, 1, .ref 66), (7, .iconst 2, 8, 0, 0, .int 2),
  (8, .idiv, 9, 0, 0, .null), (9, .if_icmp .ge 44, 12, 53, 0, .null), (12, .aload_n 0, 13, 0, 0, .null), (13, .getfield 15, 16, 8, 1, .ref 66), (16, .iconst 1, 17, 0, 0, .int 1), (17, .isub, 18, 0, 0, .null),
  (18, .iload_n 1, 19, 0, 0, .null), (19, .isub, 20, 0, 0, .null), (20, .istore_n 2, 21, 0, 0, .null), (21, .aload_n 0, 22, 0, 0, .null), (22, .getfield 9, 25, 8, 0, .ref 65), (25, .iload_n 1, 26, 0, 0, .null),
  (26, .iaload, 27, 0, 0, .null), (27, .istore_n 3, 28, 0, 0, .null), (28, .aload_n 0, 29, 0, 0, .null), (29, .getfield 9, 32, 8, 0, .ref 65), (32, .iload_n 1, 33, 0, 0, .null), (33, .aload_n 0, 34, 0, 0, .null),
  (34, .getfield 9, 37, 8, 0, .ref 65), (37, .iload_n 2, 38, 0, 0, .null), (38, .iaload, 39, 0, 0, .null), (39, .iastore, 40, 0, 0, .null), (40, .aload_n 0, 41, 0, 0, .null), (41, .getfield 9, 44, 8, 0, .ref 65),
  (44, .iload_n 2, 45, 0, 0, .null), (45, .iload_n 3, 46, 0, 0, .null), (46, .iastore, 47, 0, 0, .null), (47, .iinc 1 1, 50, 0, 0, .int 1), (50, .goto (-48), 53, 2, 0, .null), (53, .return_, 54, 0, 0, .null)]
def pX9_init : List (Nat × mv_I) := [(0, .aload_n 0, 1, 0, 0, .null), (1, .invokespecial 3, 4, 252, 999, .null), (4, .aload_n 0, 5, 0, 0, .null), (5, .bipush 100, 7, 0, 0, .int 100), (7, .newarray .int, 9, 0, 0, .null), (9, .putfield 9, 12, 9, 0, .ref 67),
  (12, .aload_n 0, 13, 0, 0, .null), (13, .iconst 0, 14, 0, 0, .int 0), (14, .putfield 15, 17, 9, 1, .ref 68), (17, .return_, 18, 0, 0, .null)]
def pX9_addFour : List (Nat × mv_I) := [(0, .aload_n 0, 1, 0, 0, .null), (1, .getfield 15, 4, 9, 1, .ref 68), (4, .iconst 4, 5, 0, 0, .int 4), (5, .iadd, 6, 0, 0, .null), (6, .bipush 100, 8, 0, 0, .int 100), (8, .if_icmp .le 5, 11, 13, 0, .null),
  (11, .iconst (-1), 12, 0, 0, .int (-1)), (12, .ireturn, 13, 0, 0, .null), (13, .bipush 24, 15, 0, 0, .int 24), (15, .istore_n 2, 16, 0, 0, .null), (16, .iload_n 2, 17, 0, 0, .null), (17, .ifCond .lt 35, 20, 52, 0, .null),
  (20, .aload_n 0, 21, 0, 0, .null), (21, .getfield 9, 24, 9, 0, .ref 67), (24, .aload_n 0, 25, 0, 0, .null), (25, .getfield 15, 28, 9, 1, .ref 68), (28, .iload_n 1, 29, 0, 0, .null), (29, .iload_n 2, 30, 0, 0, .null),
  (30, .iushr, 31, 0, 0, .null), (31, .sipush 255, 34, 0, 0, .int 255), (34, .iand, 35, 0, 0, .null), (35, .iastore, 36, 0, 0, .null), (36, .aload_n 0, 37, 0, 0, .null), (37, .dup, 38, 0, 0, .null),
  (38, .getfield 15, 41, 9, 1, .ref 68), (41, .iconst 1, 42, 0, 0, .int 1), (42, .iadd, 43, 0, 0, .null), (43, .putfield 15, 46, 9, 1, .ref 68), (46, .iinc 2 (-8), 49, 0, 0, .int (-8)), (49, .goto (-33), 52, 16, 0, .null),
  (52, .aload_n 0, 53, 0, 0, .null), (53, .getfield 15, 56, 9, 1, .ref 68), (56, .ireturn, 57, 0, 0, .null)]
def pX9_cut : List (Nat × mv_I) := [(0, .iload_n 1, 1, 0, 0, .null), (1, .ifCond .lt 11, 4, 12, 0, .null), (4, .iload_n 1, 5, 0, 0, .null), (5, .aload_n 0, 6, 0, 0, .null), (6, .getfield 15, 9, 9, 1, .ref 68), (9, .if_icmp .le 5, 12, 14, 0, .null),
  (12, .iconst 0, 13, 0, 0, .int 0), (13, .ireturn, 14, 0, 0, .null), (14, .aload_n 0, 15, 0, 0, .null), (15, .iload_n 1, 16, 0, 0, .null), (16, .putfield 15, 19, 9, 1, .ref 68), (19, .iconst 1, 20, 0, 0, .int 1),
  (20, .ireturn, 21, 0, 0, .null)]
def pX10_init : List (Nat × mv_I) := [(0, .aload_n 0, 1, 0, 0, .null), (1, .invokespecial 1, 4, 73, 999, .null), (4, .aload_n 0, 5, 0, 0, .null), (5, .new 7, 8, 7, 76, .null), (8, .dup, 9, 0, 0, .null), (9, .invokespecial 9, 12, 56, 57, .null),
  (12, .putfield 10, 15, 10, 0, .ref 69), (15, .aload_n 0, 16, 0, 0, .null), (16, .aload_n 0, 17, 0, 0, .null), (17, .getfield 10, 20, 10, 0, .ref 69), (20, .getfield 16, 23, 7, 0, .ref 70), (23, .putfield 20, 26, 10, 1, .ref 71),
  (26, .aload_n 0, 27, 0, 0, .null), (27, .aload_n 0, 28, 0, 0, .null), (28, .getfield 20, 31, 10, 1, .ref 71), (31, .getfield 21, 34, 1, 0, .ref 72), (34, .putfield 27, 37, 10, 2, .ref 73), (37, .aload_n 0, 38, 0, 0, .null),
  (38, .aload_n 0, 39, 0, 0, .null), (39, .getfield 20, 42, 10, 1, .ref 71), (42, .getfield 28, 45, 1, 1, .ref 74), (45, .putfield 32, 48, 10, 3, .ref 75), (48, .aload_n 0, 49, 0, 0, .null), (49, .new 33, 52, 3, 213, .null),
  (52, .dup, 53, 0, 0, .null), (53, .invokespecial 35, 56, 57, 35, .null), (56, .putfield 36, 59, 10, 4, .ref 76), (59, .aload_n 0, 60, 0, 0, .null), (60, .new 40, 63, 9, 247, .null), (63, .dup, 64, 0, 0, .null),
  (64, .invokespecial 42, 67, 58, 68, .null), (67, .putfield 43, 70, 10, 5, .ref 77), (70, .aload_n 0, 71, 0, 0, .null), (71, .new 47, 74, 2, 263, .null), (74, .dup, 75, 0, 0, .null), (75, .invokespecial 49, 78, 59, 30, .null),
  (78, .putfield 50, 81, 10, 6, .ref 78), (81, .aload_n 0, 82, 0, 0, .null), (82, .new 54, 85, 8, 320, .null), (85, .dup, 86, 0, 0, .null), (86, .invokespecial 56, 89, 60, 65, .null), (89, .putfield 57, 92, 10, 7, .ref 79),
  (92, .return_, 93, 0, 0, .null)]
def pX10_parish : List (Nat × mv_I) := [(0, .aload_n 0, 1, 0, 0, .null), (1, .getfield 27, 4, 10, 2, .ref 73), (4, .iload_n 1, 5, 0, 0, .null), (5, .invokevirtual 61, 8, 61, 49, .null), (8, .ireturn, 9, 0, 0, .null)]
def pX10_road : List (Nat × mv_I) := [(0, .aload_n 0, 1, 0, 0, .null), (1, .getfield 27, 4, 10, 2, .ref 73), (4, .iload_n 1, 5, 0, 0, .null), (5, .iload_n 2, 6, 0, 0, .null), (6, .iload_n 3, 7, 0, 0, .null), (7, .invokevirtual 67, 10, 62, 50, .null),
  (10, .ireturn, 11, 0, 0, .null)]
def pX10_shut : List (Nat × mv_I) := [(0, .aload_n 0, 1, 0, 0, .null), (1, .getfield 27, 4, 10, 2, .ref 73), (4, .iload_n 1, 5, 0, 0, .null), (5, .invokevirtual 71, 8, 63, 48, .null), (8, .ifCond .ne 5, 11, 13, 0, .null), (11, .iconst 0, 12, 0, 0, .int 0),
  (12, .ireturn, 13, 0, 0, .null), (13, .aload_n 0, 14, 0, 0, .null), (14, .getfield 27, 17, 10, 2, .ref 73), (17, .getfield 75, 20, 6, 5, .ref 80), (20, .iload_n 1, 21, 0, 0, .null), (21, .iload_n 2, 22, 0, 0, .null),
  (22, .bastore, 23, 0, 0, .null), (23, .iconst 1, 24, 0, 0, .int 1), (24, .ireturn, 25, 0, 0, .null)]
def pX10_exit : List (Nat × mv_I) := [(0, .aload_n 0, 1, 0, 0, .null), (1, .getfield 27, 4, 10, 2, .ref 73), (4, .iload_n 1, 5, 0, 0, .null), (5, .invokevirtual 79, 8, 64, 47, .null), (8, .ifCond .ne 5, 11, 13, 0, .null), (11, .iconst 0, 12, 0, 0, .int 0),
  (12, .ireturn, 13, 0, 0, .null), (13, .aload_n 0, 14, 0, 0, .null), (14, .getfield 27, 17, 10, 2, .ref 73), (17, .iload_n 2, 18, 0, 0, .null), (18, .ifCond .eq 18, 21, 36, 0, .null), (21, .aload_n 0, 22, 0, 0, .null),
  (22, .getfield 27, 25, 10, 2, .ref 73), (25, .getfield 82, 28, 6, 8, .ref 81), (28, .iload_n 1, 29, 0, 0, .null), (29, .invokestatic 86, 32, 65, 109, .null), (32, .ior, 33, 0, 0, .null), (33, .goto 17, 36, 50, 0, .null),
  (36, .aload_n 0, 37, 0, 0, .null), (37, .getfield 27, 40, 10, 2, .ref 73), (40, .getfield 82, 43, 6, 8, .ref 81), (43, .iload_n 1, 44, 0, 0, .null), (44, .invokestatic 86, 47, 65, 109, .null), (47, .iconst (-1), 48, 0, 0, .int (-1)),
  (48, .ixor, 49, 0, 0, .null), (49, .iand, 50, 0, 0, .null), (50, .putfield 82, 53, 6, 8, .ref 81), (53, .iconst 1, 54, 0, 0, .int 1), (54, .ireturn, 55, 0, 0, .null)]
def pX10_begin : List (Nat × mv_I) := [(0, .aload_n 0, 1, 0, 0, .null), (1, .getfield 27, 4, 10, 2, .ref 73), (4, .iload_n 1, 5, 0, 0, .null), (5, .invokevirtual 79, 8, 64, 47, .null), (8, .ifCond .ne 5, 11, 13, 0, .null), (11, .iconst 0, 12, 0, 0, .int 0),
  (12, .ireturn, 13, 0, 0, .null), (13, .aload_n 0, 14, 0, 0, .null), (14, .getfield 27, 17, 10, 2, .ref 73), (17, .iload_n 1, 18, 0, 0, .null), (18, .putfield 89, 21, 6, 9, .ref 82), (21, .iconst 1, 22, 0, 0, .int 1),
  (22, .ireturn, 23, 0, 0, .null)]
def pX10_count : List (Nat × mv_I) := [(0, .iload_n 1, 1, 0, 0, .null), (1, .tableswitch 135 0 9 #[55, 63, 71, 79, 87, 95, 103, 111, 119, 127], 56, 0, 1, .null), (56, .aload_n 0, 57, 0, 0, .null), (57, .getfield 27, 60, 10, 2, .ref 73), (60, .getfield 92, 63, 6, 6, .ref 83), (63, .ireturn, 64, 0, 0, .null),
  (64, .aload_n 0, 65, 0, 0, .null), (65, .getfield 27, 68, 10, 2, .ref 73), (68, .getfield 95, 71, 6, 7, .ref 84), (71, .ireturn, 72, 0, 0, .null), (72, .aload_n 0, 73, 0, 0, .null), (73, .getfield 32, 76, 10, 3, .ref 75),
  (76, .getfield 98, 79, 5, 4, .ref 85), (79, .ireturn, 80, 0, 0, .null), (80, .aload_n 0, 81, 0, 0, .null), (81, .getfield 32, 84, 10, 3, .ref 75), (84, .invokevirtual 103, 87, 66, 45, .null), (87, .ireturn, 88, 0, 0, .null),
  (88, .aload_n 0, 89, 0, 0, .null), (89, .getfield 36, 92, 10, 4, .ref 76), (92, .getfield 107, 95, 3, 3, .ref 86), (95, .ireturn, 96, 0, 0, .null), (96, .aload_n 0, 97, 0, 0, .null), (97, .getfield 50, 100, 10, 6, .ref 78),
  (100, .getfield 108, 103, 2, 4, .ref 87), (103, .ireturn, 104, 0, 0, .null), (104, .aload_n 0, 105, 0, 0, .null), (105, .getfield 50, 108, 10, 6, .ref 78), (108, .getfield 111, 111, 2, 5, .ref 88), (111, .ireturn, 112, 0, 0, .null),
  (112, .aload_n 0, 113, 0, 0, .null), (113, .getfield 57, 116, 10, 7, .ref 79), (116, .getfield 114, 119, 8, 1, .ref 89), (119, .ireturn, 120, 0, 0, .null), (120, .aload_n 0, 121, 0, 0, .null), (121, .getfield 43, 124, 10, 5, .ref 77),
  (124, .getfield 115, 127, 9, 1, .ref 90), (127, .ireturn, 128, 0, 0, .null), (128, .aload_n 0, 129, 0, 0, .null), (129, .getfield 27, 132, 10, 2, .ref 73), (132, .getfield 89, 135, 6, 9, .ref 82), (135, .ireturn, 136, 0, 0, .null),
  (136, .iconst (-1), 137, 0, 0, .int (-1)), (137, .ireturn, 138, 0, 0, .null)]
def pX10_far : List (Nat × mv_I) := [(0, .aload_n 0, 1, 0, 0, .null), (1, .getfield 27, 4, 10, 2, .ref 73), (4, .iload_n 1, 5, 0, 0, .null), (5, .invokevirtual 79, 8, 64, 47, .null), (8, .ifCond .eq 14, 11, 22, 0, .null), (11, .aload_n 0, 12, 0, 0, .null),
  (12, .getfield 27, 15, 10, 2, .ref 73), (15, .iload_n 2, 16, 0, 0, .null), (16, .invokevirtual 79, 19, 64, 47, .null), (19, .ifCond .ne 5, 22, 24, 0, .null), (22, .iconst (-1), 23, 0, 0, .int (-1)), (23, .ireturn, 24, 0, 0, .null),
  (24, .aload_n 0, 25, 0, 0, .null), (25, .getfield 27, 28, 10, 2, .ref 73), (28, .iload_n 1, 29, 0, 0, .null), (29, .iload_n 2, 30, 0, 0, .null), (30, .invokevirtual 116, 33, 67, 55, .null), (33, .ireturn, 34, 0, 0, .null)]
def pX10_seen : List (Nat × mv_I) := [(0, .aload_n 0, 1, 0, 0, .null), (1, .getfield 27, 4, 10, 2, .ref 73), (4, .iload_n 1, 5, 0, 0, .null), (5, .invokevirtual 79, 8, 64, 47, .null), (8, .ifCond .eq 16, 11, 24, 0, .null), (11, .aload_n 0, 12, 0, 0, .null),
  (12, .getfield 32, 15, 10, 3, .ref 75), (15, .iconst 0, 16, 0, 0, .int 0), (16, .iload_n 1, 17, 0, 0, .null), (17, .iload_n 2, 18, 0, 0, .null), (18, .invokevirtual 120, 21, 68, 44, .null), (21, .goto 4, 24, 25, 0, .null),
  (24, .iconst (-1), 25, 0, 0, .int (-1)), (25, .ireturn, 26, 0, 0, .null)]
def pX10_vain : List (Nat × mv_I) := [(0, .aload_n 0, 1, 0, 0, .null), (1, .getfield 27, 4, 10, 2, .ref 73), (4, .iload_n 1, 5, 0, 0, .null), (5, .invokevirtual 79, 8, 64, 47, .null), (8, .ifCond .eq 16, 11, 24, 0, .null), (11, .aload_n 0, 12, 0, 0, .null),
  (12, .getfield 32, 15, 10, 3, .ref 75), (15, .iconst 1, 16, 0, 0, .int 1), (16, .iload_n 1, 17, 0, 0, .null), (17, .iload_n 2, 18, 0, 0, .null), (18, .invokevirtual 120, 21, 68, 44, .null), (21, .goto 4, 24, 25, 0, .null),
  (24, .iconst (-1), 25, 0, 0, .int (-1)), (25, .ireturn, 26, 0, 0, .null)]
def pX10_guarded : List (Nat × mv_I) := [(0, .aload_n 0, 1, 0, 0, .null), (1, .getfield 27, 4, 10, 2, .ref 73), (4, .iload_n 1, 5, 0, 0, .null), (5, .invokevirtual 71, 8, 63, 48, .null), (8, .ifCond .eq 16, 11, 24, 0, .null), (11, .aload_n 0, 12, 0, 0, .null),
  (12, .getfield 32, 15, 10, 3, .ref 75), (15, .iconst 2, 16, 0, 0, .int 2), (16, .iload_n 1, 17, 0, 0, .null), (17, .iload_n 2, 18, 0, 0, .null), (18, .invokevirtual 120, 21, 68, 44, .null), (21, .goto 4, 24, 25, 0, .null),
  (24, .iconst (-1), 25, 0, 0, .int (-1)), (25, .ireturn, 26, 0, 0, .null)]
def pX10_strike : List (Nat × mv_I) := [(0, .iload_n 1, 1, 0, 0, .null), (1, .ifCond .lt 14, 4, 15, 0, .null), (4, .iload_n 1, 5, 0, 0, .null), (5, .aload_n 0, 6, 0, 0, .null), (6, .getfield 32, 9, 10, 3, .ref 75), (9, .getfield 98, 12, 5, 4, .ref 85),
  (12, .if_icmp .lt 5, 15, 17, 0, .null), (15, .iconst 0, 16, 0, 0, .int 0), (16, .ireturn, 17, 0, 0, .null), (17, .aload_n 0, 18, 0, 0, .null), (18, .getfield 32, 21, 10, 3, .ref 75), (21, .getfield 123, 24, 5, 3, .ref 91),
  (24, .iload_n 1, 25, 0, 0, .null), (25, .iload_n 2, 26, 0, 0, .null), (26, .bastore, 27, 0, 0, .null), (27, .iconst 1, 28, 0, 0, .int 1), (28, .ireturn, 29, 0, 0, .null)]
def pX10_may : List (Nat × mv_I) := [(0, .aload_n 0, 1, 0, 0, .null), (1, .iload_n 1, 2, 0, 0, .null), (2, .iload_n 2, 3, 0, 0, .null), (3, .invokevirtual 126, 6, 69, 105, .null), (6, .ifCond .ne 5, 9, 11, 0, .null), (9, .iconst (-1), 10, 0, 0, .int (-1)),
  (10, .ireturn, 11, 0, 0, .null), (11, .aload_n 0, 12, 0, 0, .null), (12, .getfield 20, 15, 10, 1, .ref 71), (15, .iload_n 2, 16, 0, 0, .null), (16, .invokevirtual 130, 19, 70, 11, .null), (19, .iload_n 1, 20, 0, 0, .null),
  (20, .invokestatic 133, 23, 71, 110, .null), (23, .ifCond .eq 7, 26, 30, 0, .null), (26, .iconst 1, 27, 0, 0, .int 1), (27, .goto 4, 30, 31, 0, .null), (30, .iconst 0, 31, 0, 0, .int 0), (31, .ireturn, 32, 0, 0, .null)]
def pX10_was : List (Nat × mv_I) := [(0, .aload_n 0, 1, 0, 0, .null), (1, .iload_n 1, 2, 0, 0, .null), (2, .iload_n 2, 3, 0, 0, .null), (3, .invokevirtual 126, 6, 69, 105, .null), (6, .ifCond .ne 5, 9, 11, 0, .null), (9, .iconst (-1), 10, 0, 0, .int (-1)),
  (10, .ireturn, 11, 0, 0, .null), (11, .aload_n 0, 12, 0, 0, .null), (12, .getfield 20, 15, 10, 1, .ref 71), (15, .iload_n 2, 16, 0, 0, .null), (16, .invokevirtual 136, 19, 72, 12, .null), (19, .iload_n 1, 20, 0, 0, .null),
  (20, .invokestatic 133, 23, 71, 110, .null), (23, .ifCond .eq 7, 26, 30, 0, .null), (26, .iconst 1, 27, 0, 0, .int 1), (27, .goto 4, 30, 31, 0, .null), (30, .iconst 0, 31, 0, 0, .int 0), (31, .ireturn, 32, 0, 0, .null)]
def pX10_places : List (Nat × mv_I) := [(0, .iload_n 1, 1, 0, 0, .null), (1, .invokestatic 139, 4, 73, 106, .null), (4, .ifCond .eq 23, 7, 27, 0, .null), (7, .aload_n 0, 8, 0, 0, .null), (8, .getfield 27, 11, 10, 2, .ref 73), (11, .getfield 89, 14, 6, 9, .ref 82),
  (14, .iconst (-1), 15, 0, 0, .int (-1)), (15, .if_icmp .eq 12, 18, 27, 0, .null), (18, .iload_n 2, 19, 0, 0, .null), (19, .ifCond .lt 8, 22, 27, 0, .null), (22, .iload_n 2, 23, 0, 0, .null), (23, .iconst 1, 24, 0, 0, .int 1),
  (24, .if_icmp .le 5, 27, 29, 0, .null), (27, .iconst (-1), 28, 0, 0, .int (-1)), (28, .ireturn, 29, 0, 0, .null), (29, .iload_n 2, 30, 0, 0, .null), (30, .ifCond .ne 14, 33, 44, 0, .null), (33, .aload_n 0, 34, 0, 0, .null),
  (34, .getfield 20, 37, 10, 1, .ref 71), (37, .iload_n 1, 38, 0, 0, .null), (38, .invokevirtual 130, 41, 70, 11, .null), (41, .goto 11, 44, 52, 0, .null), (44, .aload_n 0, 45, 0, 0, .null), (45, .getfield 20, 48, 10, 1, .ref 71),
  (48, .iload_n 1, 49, 0, 0, .null), (49, .invokevirtual 136, 52, 72, 12, .null), (52, .ireturn, 53, 0, 0, .null)]
def pX10_first : List (Nat × mv_I) := [(0, .aload_n 0, 1, 0, 0, .null), (1, .iload_n 1, 2, 0, 0, .null), (2, .bipush 47, 4, 0, 0, .int 47), (4, .invokevirtual 126, 7, 69, 105, .null), (7, .ifCond .ne 5, 10, 12, 0, .null), (10, .iconst (-1), 11, 0, 0, .int (-1)),
  (11, .ireturn, 12, 0, 0, .null), (12, .aload_n 0, 13, 0, 0, .null), (13, .getfield 20, 16, 10, 1, .ref 71), (16, .iload_n 1, 17, 0, 0, .null), (17, .invokevirtual 142, 20, 74, 13, .null), (20, .ireturn, 21, 0, 0, .null)]
def pX10_trail : List (Nat × mv_I) := [(0, .aload_n 0, 1, 0, 0, .null), (1, .iload_n 1, 2, 0, 0, .null), (2, .iload_n 2, 3, 0, 0, .null), (3, .invokevirtual 126, 6, 69, 105, .null), (6, .ifCond .ne 5, 9, 11, 0, .null), (9, .iconst (-1), 10, 0, 0, .int (-1)),
  (10, .ireturn, 11, 0, 0, .null), (11, .aload_n 0, 12, 0, 0, .null), (12, .getfield 20, 15, 10, 1, .ref 71), (15, .iload_n 2, 16, 0, 0, .null), (16, .invokevirtual 130, 19, 70, 11, .null), (19, .iload_n 1, 20, 0, 0, .null),
  (20, .invokestatic 133, 23, 71, 110, .null), (23, .ifCond .ne 5, 26, 28, 0, .null), (26, .iconst 0, 27, 0, 0, .int 0), (27, .ireturn, 28, 0, 0, .null), (28, .aload_n 0, 29, 0, 0, .null), (29, .getfield 20, 32, 10, 1, .ref 71),
  (32, .iload_n 1, 33, 0, 0, .null), (33, .iload_n 2, 34, 0, 0, .null), (34, .aload_n 0, 35, 0, 0, .null), (35, .getfield 57, 38, 10, 7, .ref 79), (38, .invokevirtual 145, 41, 75, 28, .null), (41, .aload_n 0, 42, 0, 0, .null),
  (42, .getfield 57, 45, 10, 7, .ref 79), (45, .getfield 114, 48, 8, 1, .ref 89), (48, .ireturn, 49, 0, 0, .null)]
def pX10_quarrel : List (Nat × mv_I) := [(0, .aload_n 0, 1, 0, 0, .null), (1, .getfield 27, 4, 10, 2, .ref 73), (4, .getfield 89, 7, 6, 9, .ref 82), (7, .iconst (-1), 8, 0, 0, .int (-1)), (8, .if_icmp .ne 5, 11, 13, 0, .null), (11, .lconst 0, 12, 0, 0, .long 0),
  (12, .lreturn, 13, 0, 0, .null), (13, .aload_n 0, 14, 0, 0, .null), (14, .getfield 20, 17, 10, 1, .ref 71), (17, .invokevirtual 149, 20, 76, 14, .null), (20, .ifCond .eq 9, 23, 29, 0, .null), (23, .ldc2_w 153, 26, 568, 0, .long (-1)),
  (26, .goto 10, 29, 36, 0, .null), (29, .aload_n 0, 30, 0, 0, .null), (30, .getfield 20, 33, 10, 1, .ref 71), (33, .invokevirtual 155, 36, 77, 15, .null), (36, .lreturn, 37, 0, 0, .null)]
def pX10_watch : List (Nat × mv_I) := [(0, .iload_n 1, 1, 0, 0, .null), (1, .invokestatic 139, 4, 73, 106, .null), (4, .ifCond .eq 26, 7, 30, 0, .null), (7, .iload_n 2, 8, 0, 0, .null), (8, .invokestatic 139, 11, 73, 106, .null), (11, .ifCond .eq 19, 14, 30, 0, .null),
  (14, .iload_n 2, 15, 0, 0, .null), (15, .iload_n 1, 16, 0, 0, .null), (16, .if_icmp .lt 14, 19, 30, 0, .null), (19, .aload_n 0, 20, 0, 0, .null), (20, .getfield 27, 23, 10, 2, .ref 73), (23, .getfield 89, 26, 6, 9, .ref 82),
  (26, .iconst (-1), 27, 0, 0, .int (-1)), (27, .if_icmp .ne 5, 30, 32, 0, .null), (30, .iconst (-1), 31, 0, 0, .int (-1)), (31, .ireturn, 32, 0, 0, .null), (32, .aload_n 0, 33, 0, 0, .null), (33, .getfield 10, 36, 10, 0, .ref 69),
  (36, .iload_n 1, 37, 0, 0, .null), (37, .iload_n 2, 38, 0, 0, .null), (38, .invokevirtual 159, 41, 78, 58, .null), (41, .istore_n 3, 42, 0, 0, .null), (42, .iload_n 3, 43, 0, 0, .null), (43, .ifCond .lt 15, 46, 58, 0, .null),
  (46, .aload_n 0, 47, 0, 0, .null), (47, .getfield 10, 50, 10, 0, .ref 69), (50, .iload_n 3, 51, 0, 0, .null), (51, .aload_n 0, 52, 0, 0, .null), (52, .getfield 57, 55, 10, 7, .ref 79), (55, .invokevirtual 162, 58, 79, 59, .null),
  (58, .iload_n 3, 59, 0, 0, .null), (59, .ireturn, 60, 0, 0, .null)]
def pX10_trait : List (Nat × mv_I) := [(0, .aload_n 0, 1, 0, 0, .null), (1, .getfield 36, 4, 10, 4, .ref 76), (4, .getfield 166, 7, 3, 0, .ref 92), (7, .iload_n 1, 8, 0, 0, .null), (8, .iload_n 2, 9, 0, 0, .null), (9, .iload_n 3, 10, 0, 0, .null),
  (10, .invokevirtual 170, 13, 80, 40, .null), (13, .ireturn, 14, 0, 0, .null)]
def pX10_telling : List (Nat × mv_I) := [(0, .iload_n 1, 1, 0, 0, .null), (1, .invokestatic 176, 4, 81, 108, .null), (4, .ifCond .eq 17, 7, 21, 0, .null), (7, .aload_n 0, 8, 0, 0, .null), (8, .getfield 36, 11, 10, 4, .ref 76), (11, .getfield 166, 14, 3, 0, .ref 92),
  (14, .iload_n 1, 15, 0, 0, .null), (15, .invokevirtual 179, 18, 82, 41, .null), (18, .goto 4, 21, 22, 0, .null), (21, .iconst (-1), 22, 0, 0, .int (-1)), (22, .ireturn, 23, 0, 0, .null)]
def pX10_person : List (Nat × mv_I) := [(0, .aload_n 0, 1, 0, 0, .null), (1, .getfield 27, 4, 10, 2, .ref 73), (4, .iload_n 1, 5, 0, 0, .null), (5, .invokevirtual 79, 8, 64, 47, .null), (8, .ifCond .eq 16, 11, 24, 0, .null), (11, .aload_n 0, 12, 0, 0, .null),
  (12, .getfield 36, 15, 10, 4, .ref 76), (15, .iload_n 1, 16, 0, 0, .null), (16, .iload_n 2, 17, 0, 0, .null), (17, .iload_n 3, 18, 0, 0, .null), (18, .invokevirtual 182, 21, 83, 36, .null), (21, .goto 4, 24, 25, 0, .null),
  (24, .iconst (-1), 25, 0, 0, .int (-1)), (25, .ireturn, 26, 0, 0, .null)]
def pX10_fits : List (Nat × mv_I) := [(0, .iload_n 1, 1, 0, 0, .null), (1, .ifCond .lt 25, 4, 26, 0, .null), (4, .iload_n 1, 5, 0, 0, .null), (5, .aload_n 0, 6, 0, 0, .null), (6, .getfield 36, 9, 10, 4, .ref 76), (9, .getfield 107, 12, 3, 3, .ref 86),
  (12, .if_icmp .ge 14, 15, 26, 0, .null), (15, .aload_n 0, 16, 0, 0, .null), (16, .getfield 36, 19, 10, 4, .ref 76), (19, .iload_n 1, 20, 0, 0, .null), (20, .invokevirtual 183, 23, 84, 37, .null), (23, .goto 4, 26, 27, 0, .null),
  (26, .iconst (-1), 27, 0, 0, .int (-1)), (27, .ireturn, 28, 0, 0, .null)]
def pX10_many : List (Nat × mv_I) := [(0, .iload_n 1, 1, 0, 0, .null), (1, .iconst (-1), 2, 0, 0, .int (-1)), (2, .if_icmp .ne 12, 5, 14, 0, .null), (5, .aload_n 0, 6, 0, 0, .null), (6, .getfield 36, 9, 10, 4, .ref 76), (9, .iconst (-1), 10, 0, 0, .int (-1)),
  (10, .invokevirtual 186, 13, 85, 38, .null), (13, .ireturn, 14, 0, 0, .null), (14, .iload_n 1, 15, 0, 0, .null), (15, .invokestatic 189, 18, 86, 107, .null), (18, .ifCond .eq 21, 21, 39, 0, .null), (21, .aload_n 0, 22, 0, 0, .null),
  (22, .getfield 36, 25, 10, 4, .ref 76), (25, .aload_n 0, 26, 0, 0, .null), (26, .getfield 27, 29, 10, 2, .ref 73), (29, .iload_n 1, 30, 0, 0, .null), (30, .invokevirtual 192, 33, 87, 51, .null), (33, .invokevirtual 186, 36, 85, 38, .null),
  (36, .goto 5, 39, 41, 0, .null), (39, .bipush (-2), 41, 0, 0, .int (-2)), (41, .ireturn, 42, 0, 0, .null)]
def pX10_suspects : List (Nat × mv_I) := [(0, .iload_n 1, 1, 0, 0, .null), (1, .invokestatic 139, 4, 73, 106, .null), (4, .ifCond .eq 14, 7, 18, 0, .null), (7, .aload_n 0, 8, 0, 0, .null), (8, .getfield 27, 11, 10, 2, .ref 73), (11, .getfield 89, 14, 6, 9, .ref 82),
  (14, .iconst (-1), 15, 0, 0, .int (-1)), (15, .if_icmp .ne 5, 18, 20, 0, .null), (18, .iconst (-1), 19, 0, 0, .int (-1)), (19, .ireturn, 20, 0, 0, .null), (20, .aload_n 0, 21, 0, 0, .null), (21, .getfield 36, 24, 10, 4, .ref 76),
  (24, .aload_n 0, 25, 0, 0, .null), (25, .getfield 20, 28, 10, 1, .ref 71), (28, .iload_n 1, 29, 0, 0, .null), (29, .invokevirtual 130, 32, 70, 11, .null), (32, .invokevirtual 186, 35, 85, 38, .null), (35, .ireturn, 36, 0, 0, .null)]
def pX10_sign : List (Nat × mv_I) := [(0, .aload_n 0, 1, 0, 0, .null), (1, .getfield 43, 4, 10, 5, .ref 77), (4, .iload_n 1, 5, 0, 0, .null), (5, .invokevirtual 195, 8, 88, 69, .null), (8, .ireturn, 9, 0, 0, .null)]
def pX10_end : List (Nat × mv_I) := [(0, .aload_n 0, 1, 0, 0, .null), (1, .getfield 43, 4, 10, 5, .ref 77), (4, .iload_n 1, 5, 0, 0, .null), (5, .invokevirtual 198, 8, 89, 70, .null), (8, .ireturn, 9, 0, 0, .null)]
def pX10_act : List (Nat × mv_I) := [(0, .aload_n 0, 1, 0, 0, .null), (1, .getfield 50, 4, 10, 6, .ref 78), (4, .aload_n 0, 5, 0, 0, .null), (5, .getfield 43, 8, 10, 5, .ref 77), (8, .invokevirtual 201, 11, 90, 31, .null), (11, .istore_n 1, 12, 0, 0, .null),
  (12, .aload_n 0, 13, 0, 0, .null), (13, .getfield 43, 16, 10, 5, .ref 77), (16, .iconst 0, 17, 0, 0, .int 0), (17, .putfield 115, 20, 9, 1, .ref 90), (20, .iload_n 1, 21, 0, 0, .null), (21, .ireturn, 22, 0, 0, .null)]
def pX10_repeal : List (Nat × mv_I) := [(0, .aload_n 0, 1, 0, 0, .null), (1, .getfield 50, 4, 10, 6, .ref 78), (4, .getfield 108, 7, 2, 4, .ref 87), (7, .istore_n 1, 8, 0, 0, .null), (8, .aload_n 0, 9, 0, 0, .null), (9, .getfield 50, 12, 10, 6, .ref 78),
  (12, .iconst 0, 13, 0, 0, .int 0), (13, .putfield 108, 16, 2, 4, .ref 87), (16, .iload_n 1, 17, 0, 0, .null), (17, .ireturn, 18, 0, 0, .null)]
def pX10_claim : List (Nat × mv_I) := [(0, .aload_n 0, 1, 0, 0, .null), (1, .getfield 27, 4, 10, 2, .ref 73), (4, .iload_n 1, 5, 0, 0, .null), (5, .invokevirtual 79, 8, 64, 47, .null), (8, .ifCond .eq 23, 11, 31, 0, .null), (11, .aload_n 0, 12, 0, 0, .null),
  (12, .getfield 50, 15, 10, 6, .ref 78), (15, .aload_n 0, 16, 0, 0, .null), (16, .getfield 27, 19, 10, 2, .ref 73), (19, .getfield 205, 22, 6, 0, .ref 93), (22, .iload_n 1, 23, 0, 0, .null), (23, .iaload, 24, 0, 0, .null),
  (24, .iload_n 2, 25, 0, 0, .null), (25, .invokevirtual 209, 28, 91, 32, .null), (28, .goto 4, 31, 32, 0, .null), (31, .iconst (-1), 32, 0, 0, .int (-1)), (32, .ireturn, 33, 0, 0, .null)]
def pX10_weight : List (Nat × mv_I) := [(0, .iload_n 1, 1, 0, 0, .null), (1, .ifCond .lt 25, 4, 26, 0, .null), (4, .iload_n 1, 5, 0, 0, .null), (5, .aload_n 0, 6, 0, 0, .null), (6, .getfield 50, 9, 10, 6, .ref 78), (9, .getfield 111, 12, 2, 5, .ref 88),
  (12, .if_icmp .ge 14, 15, 26, 0, .null), (15, .aload_n 0, 16, 0, 0, .null), (16, .getfield 50, 19, 10, 6, .ref 78), (19, .iload_n 1, 20, 0, 0, .null), (20, .invokevirtual 212, 23, 92, 33, .null), (23, .goto 4, 26, 27, 0, .null),
  (26, .iconst (-1), 27, 0, 0, .int (-1)), (27, .ireturn, 28, 0, 0, .null)]
def pX10_reward : List (Nat × mv_I) := [(0, .iload_n 1, 1, 0, 0, .null), (1, .iconst 1, 2, 0, 0, .int 1), (2, .if_icmp .lt 24, 5, 26, 0, .null), (5, .iload_n 1, 6, 0, 0, .null), (6, .ldc 215, 8, 774, 0, .int 1000000), (8, .if_icmp .gt 18, 11, 26, 0, .null),
  (11, .aload_n 0, 12, 0, 0, .null), (12, .getfield 50, 15, 10, 6, .ref 78), (15, .iload_n 1, 16, 0, 0, .null), (16, .aload_n 0, 17, 0, 0, .null), (17, .getfield 57, 20, 10, 7, .ref 79), (20, .invokevirtual 216, 23, 93, 34, .null),
  (23, .goto 4, 26, 27, 0, .null), (26, .iconst (-1), 27, 0, 0, .int (-1)), (27, .ireturn, 28, 0, 0, .null)]
def pX10_waive : List (Nat × mv_I) := [(0, .aload_n 0, 1, 0, 0, .null), (1, .getfield 50, 4, 10, 6, .ref 78), (4, .getfield 111, 7, 2, 5, .ref 88), (7, .istore_n 1, 8, 0, 0, .null), (8, .aload_n 0, 9, 0, 0, .null), (9, .getfield 50, 12, 10, 6, .ref 78),
  (12, .iconst 0, 13, 0, 0, .int 0), (13, .putfield 111, 16, 2, 5, .ref 88), (16, .iload_n 1, 17, 0, 0, .null), (17, .ireturn, 18, 0, 0, .null)]
def pX10_row : List (Nat × mv_I) := [(0, .iload_n 1, 1, 0, 0, .null), (1, .ifCond .lt 14, 4, 15, 0, .null), (4, .iload_n 1, 5, 0, 0, .null), (5, .aload_n 0, 6, 0, 0, .null), (6, .getfield 57, 9, 10, 7, .ref 79), (9, .getfield 114, 12, 8, 1, .ref 89),
  (12, .if_icmp .lt 13, 15, 25, 0, .null), (15, .new 220, 18, 99, 793, .ref 99), (18, .dup, 19, 0, 0, .null), (19, .ldc 222, 21, 832, 1, .ref 1000), (21, .invokespecial 224, 24, 833, 950, .null), (24, .athrow, 25, 0, 0, .null),
  (25, .aload_n 0, 26, 0, 0, .null), (26, .getfield 57, 29, 10, 7, .ref 79), (29, .getfield 227, 32, 8, 0, .ref 94), (32, .iload_n 1, 33, 0, 0, .null), (33, .iaload, 34, 0, 0, .null), (34, .ireturn, 35, 0, 0, .null)]
def pX10_canAsk : List (Nat × mv_I) := [(0, .aload_n 0, 1, 0, 0, .null), (1, .getfield 27, 4, 10, 2, .ref 73), (4, .iload_n 1, 5, 0, 0, .null), (5, .invokevirtual 79, 8, 64, 47, .null), (8, .ifCond .eq 25, 11, 33, 0, .null), (11, .iload_n 2, 12, 0, 0, .null),
  (12, .invokestatic 139, 15, 73, 106, .null), (15, .ifCond .eq 18, 18, 33, 0, .null), (18, .aload_n 0, 19, 0, 0, .null), (19, .getfield 27, 22, 10, 2, .ref 73), (22, .getfield 89, 25, 6, 9, .ref 82), (25, .iconst (-1), 26, 0, 0, .int (-1)),
  (26, .if_icmp .eq 7, 29, 33, 0, .null), (29, .iconst 1, 30, 0, 0, .int 1), (30, .goto 4, 33, 34, 0, .null), (33, .iconst 0, 34, 0, 0, .int 0), (34, .ireturn, 35, 0, 0, .null)]
def pX10_isHour : List (Nat × mv_I) := [(0, .iload_n 0, 1, 0, 0, .null), (1, .ifCond .lt 13, 4, 14, 0, .null), (4, .iload_n 0, 5, 0, 0, .null), (5, .bipush 48, 7, 0, 0, .int 48), (7, .if_icmp .ge 7, 10, 14, 0, .null), (10, .iconst 1, 11, 0, 0, .int 1),
  (11, .goto 4, 14, 15, 0, .null), (14, .iconst 0, 15, 0, 0, .int 0), (15, .ireturn, 16, 0, 0, .null)]
def pX10_isCounty : List (Nat × mv_I) := [(0, .iload_n 0, 1, 0, 0, .null), (1, .ifCond .lt 13, 4, 14, 0, .null), (4, .iload_n 0, 5, 0, 0, .null), (5, .bipush 6, 7, 0, 0, .int 6), (7, .if_icmp .ge 7, 10, 14, 0, .null), (10, .iconst 1, 11, 0, 0, .int 1),
  (11, .goto 4, 14, 15, 0, .null), (14, .iconst 0, 15, 0, 0, .int 0), (15, .ireturn, 16, 0, 0, .null)]
def pX10_isNumber : List (Nat × mv_I) := [(0, .iload_n 0, 1, 0, 0, .null), (1, .ifCond .lt 13, 4, 14, 0, .null), (4, .iload_n 0, 5, 0, 0, .null), (5, .bipush 31, 7, 0, 0, .int 31), (7, .if_icmp .gt 7, 10, 14, 0, .null), (10, .iconst 1, 11, 0, 0, .int 1),
  (11, .goto 4, 14, 15, 0, .null), (14, .iconst 0, 15, 0, 0, .int 0), (15, .ireturn, 16, 0, 0, .null)]
def pX10_bit : List (Nat × mv_I) := [(0, .iconst 1, 1, 0, 0, .int 1), (1, .iload_n 0, 2, 0, 0, .null), (2, .ishl, 3, 0, 0, .null), (3, .ireturn, 4, 0, 0, .null)]
def pX10_has : List (Nat × mv_I) := [(0, .iload_n 0, 1, 0, 0, .null), (1, .iload_n 1, 2, 0, 0, .null), (2, .ishr, 3, 0, 0, .null), (3, .iconst 1, 4, 0, 0, .int 1), (4, .iand, 5, 0, 0, .null), (5, .ifCond .eq 7, 8, 12, 0, .null),
  (8, .iconst 1, 9, 0, 0, .int 1), (9, .goto 4, 12, 13, 0, .null), (12, .iconst 0, 13, 0, 0, .int 0), (13, .ireturn, 14, 0, 0, .null)]
def pX11_init : List (Nat × mv_I) := [(0, .aload_n 0, 1, 0, 0, .null), (1, .invokespecial 1, 4, 864, 999, .null), (4, .aload_n 0, 5, 0, 0, .null), (5, .bipush 24, 7, 0, 0, .int 24), (7, .newarray .int, 9, 0, 0, .null), (9, .putfield 9, 12, 11, 2, .ref 95),
  (12, .aload_n 0, 13, 0, 0, .null), (13, .bipush 24, 15, 0, 0, .int 24), (15, .newarray .boolean, 17, 1, 0, .null), (17, .putfield 13, 20, 11, 3, .ref 96), (20, .aload_n 0, 21, 0, 0, .null), (21, .bipush 40, 23, 0, 0, .int 40),
  (23, .newarray .int, 25, 0, 0, .null), (25, .putfield 17, 28, 11, 5, .ref 97), (28, .aload_n 0, 29, 0, 0, .null), (29, .bipush 40, 31, 0, 0, .int 40), (31, .newarray .int, 33, 0, 0, .null), (33, .putfield 20, 36, 11, 6, .ref 98),
  (36, .aload_n 0, 37, 0, 0, .null), (37, .bipush 40, 39, 0, 0, .int 40), (39, .newarray .int, 41, 0, 0, .null), (41, .putfield 23, 44, 11, 7, .ref 99), (44, .aload_n 0, 45, 0, 0, .null), (45, .bipush 40, 47, 0, 0, .int 40),
  (47, .newarray .boolean, 49, 1, 0, .null), (49, .putfield 26, 52, 11, 8, .ref 100), (52, .aload_n 0, 53, 0, 0, .null), (53, .iconst (-1), 54, 0, 0, .int (-1)), (54, .putfield 29, 57, 11, 9, .ref 101), (57, .aload_n 0, 58, 0, 0, .null),
  (58, .bipush 24, 60, 0, 0, .int 24), (60, .newarray .int, 62, 0, 0, .null), (62, .putfield 33, 65, 11, 10, .ref 102), (65, .aload_n 0, 66, 0, 0, .null), (66, .bipush 40, 68, 0, 0, .int 40), (68, .newarray .int, 70, 0, 0, .null),
  (70, .putfield 36, 73, 11, 12, .ref 103), (73, .aload_n 0, 74, 0, 0, .null), (74, .bipush 40, 76, 0, 0, .int 40), (76, .newarray .int, 78, 0, 0, .null), (78, .putfield 39, 81, 11, 13, .ref 104), (81, .aload_n 0, 82, 0, 0, .null),
  (82, .bipush 40, 84, 0, 0, .int 40), (84, .newarray .int, 86, 0, 0, .null), (86, .putfield 42, 89, 11, 14, .ref 105), (89, .aload_n 0, 90, 0, 0, .null), (90, .bipush 40, 92, 0, 0, .int 40), (92, .newarray .boolean, 94, 1, 0, .null),
  (94, .putfield 45, 97, 11, 15, .ref 106), (97, .aload_n 0, 98, 0, 0, .null), (98, .sipush 1152, 101, 0, 0, .int 1152), (101, .newarray .boolean, 103, 1, 0, .null), (103, .putfield 48, 106, 11, 16, .ref 107), (106, .aload_n 0, 107, 0, 0, .null),
  (107, .sipush 1152, 110, 0, 0, .int 1152), (110, .newarray .boolean, 112, 1, 0, .null), (112, .putfield 51, 115, 11, 17, .ref 108), (115, .aload_n 0, 116, 0, 0, .null), (116, .bipush 49, 118, 0, 0, .int 49), (118, .newarray .int, 120, 0, 0, .null),
  (120, .putfield 54, 123, 11, 19, .ref 109), (123, .aload_n 0, 124, 0, 0, .null), (124, .bipush 49, 126, 0, 0, .int 49), (126, .newarray .int, 128, 0, 0, .null), (128, .putfield 57, 131, 11, 20, .ref 110), (131, .aload_n 0, 132, 0, 0, .null),
  (132, .bipush 6, 134, 0, 0, .int 6), (134, .newarray .int, 136, 0, 0, .null), (136, .dup, 137, 0, 0, .null), (137, .iconst 0, 138, 0, 0, .int 0), (138, .iconst (-1), 139, 0, 0, .int (-1)), (139, .iastore, 140, 0, 0, .null),
  (140, .dup, 141, 0, 0, .null), (141, .iconst 1, 142, 0, 0, .int 1), (142, .iconst (-1), 143, 0, 0, .int (-1)), (143, .iastore, 144, 0, 0, .null), (144, .dup, 145, 0, 0, .null), (145, .iconst 2, 146, 0, 0, .int 2),
  (146, .iconst (-1), 147, 0, 0, .int (-1)), (147, .iastore, 148, 0, 0, .null), (148, .dup, 149, 0, 0, .null), (149, .iconst 3, 150, 0, 0, .int 3), (150, .iconst (-1), 151, 0, 0, .int (-1)), (151, .iastore, 152, 0, 0, .null),
  (152, .dup, 153, 0, 0, .null), (153, .iconst 4, 154, 0, 0, .int 4), (154, .iconst (-1), 155, 0, 0, .int (-1)), (155, .iastore, 156, 0, 0, .null), (156, .dup, 157, 0, 0, .null), (157, .iconst 5, 158, 0, 0, .int 5),
  (158, .iconst (-1), 159, 0, 0, .int (-1)), (159, .iastore, 160, 0, 0, .null), (160, .putfield 60, 163, 11, 21, .ref 111), (163, .aload_n 0, 164, 0, 0, .null), (164, .bipush 6, 166, 0, 0, .int 6), (166, .newarray .int, 168, 0, 0, .null),
  (168, .putfield 63, 171, 11, 22, .ref 112), (171, .aload_n 0, 172, 0, 0, .null), (172, .bipush 30, 174, 0, 0, .int 30), (174, .newarray .int, 176, 0, 0, .null), (176, .putfield 66, 179, 11, 24, .ref 113), (179, .aload_n 0, 180, 0, 0, .null),
  (180, .sipush 180, 183, 0, 0, .int 180), (183, .newarray .int, 185, 0, 0, .null), (185, .putfield 69, 188, 11, 25, .ref 114), (188, .aload_n 0, 189, 0, 0, .null), (189, .bipush 100, 191, 0, 0, .int 100), (191, .newarray .int, 193, 0, 0, .null),
  (193, .putfield 72, 196, 11, 26, .ref 115), (196, .aload_n 0, 197, 0, 0, .null), (197, .bipush 9, 199, 0, 0, .int 9), (199, .newarray .int, 201, 0, 0, .null), (201, .putfield 75, 204, 11, 29, .ref 116), (204, .aload_n 0, 205, 0, 0, .null),
  (205, .bipush 90, 207, 0, 0, .int 90), (207, .newarray .int, 209, 0, 0, .null), (209, .putfield 78, 212, 11, 30, .ref 117), (212, .aload_n 0, 213, 0, 0, .null), (213, .bipush 90, 215, 0, 0, .int 90), (215, .newarray .int, 217, 0, 0, .null),
  (217, .putfield 81, 220, 11, 31, .ref 118), (220, .aload_n 0, 221, 0, 0, .null), (221, .bipush 90, 223, 0, 0, .int 90), (223, .newarray .int, 225, 0, 0, .null), (225, .putfield 84, 228, 11, 32, .ref 119), (228, .aload_n 0, 229, 0, 0, .null),
  (229, .bipush 9, 231, 0, 0, .int 9), (231, .newarray .int, 233, 0, 0, .null), (233, .putfield 87, 236, 11, 33, .ref 120), (236, .aload_n 0, 237, 0, 0, .null), (237, .bipush 12, 239, 0, 0, .int 12), (239, .newarray .int, 241, 0, 0, .null),
  (241, .putfield 90, 244, 11, 37, .ref 121), (244, .aload_n 0, 245, 0, 0, .null), (245, .bipush 12, 247, 0, 0, .int 12), (247, .newarray .int, 249, 0, 0, .null), (249, .putfield 93, 252, 11, 38, .ref 122), (252, .return_, 253, 0, 0, .null)]
def pX11_thrown : List (Nat × mv_I) := [(0, .aload_n 0, 1, 0, 0, .null), (1, .getfield 96, 4, 11, 0, .ref 123), (4, .ireturn, 5, 0, 0, .null)]
def pX11_in : List (Nat × mv_I) := [(0, .lload_n 0, 1, 0, 0, .null), (1, .lload_n 2, 2, 0, 0, .null), (2, .lcmp, 3, 0, 0, .null), (3, .ifCond .lt 14, 6, 17, 0, .null), (6, .lload_n 0, 7, 0, 0, .null), (7, .lload 4, 9, 0, 0, .null),
  (9, .lcmp, 10, 0, 0, .null), (10, .ifCond .gt 7, 13, 17, 0, .null), (13, .iconst 1, 14, 0, 0, .int 1), (14, .goto 4, 17, 18, 0, .null), (17, .iconst 0, 18, 0, 0, .int 0), (18, .ireturn, 19, 0, 0, .null)]
def pX11_refuse : List (Nat × mv_I) := [(0, .aload_n 0, 1, 0, 0, .null), (1, .iconst 1, 2, 0, 0, .int 1), (2, .putfield 96, 5, 11, 0, .ref 123), (5, .iconst 0, 6, 0, 0, .int 0), (6, .ireturn, 7, 0, 0, .null)]
def pX11_isParish : List (Nat × mv_I) := [(0, .iload_n 1, 1, 0, 0, .null), (1, .i2l, 2, 0, 0, .null), (2, .lconst 0, 3, 0, 0, .long 0), (3, .aload_n 0, 4, 0, 0, .null), (4, .getfield 99, 7, 11, 1, .ref 124), (7, .iconst 1, 8, 0, 0, .int 1),
  (8, .isub, 9, 0, 0, .null), (9, .i2l, 10, 0, 0, .null), (10, .invokestatic 102, 13, 94, 113, .null), (13, .ireturn, 14, 0, 0, .null)]
def pX11_isHour : List (Nat × mv_I) := [(0, .iload_n 0, 1, 0, 0, .null), (1, .i2l, 2, 0, 0, .null), (2, .lconst 0, 3, 0, 0, .long 0), (3, .ldc2_w 106, 6, 1037, 0, .long 47), (6, .invokestatic 102, 9, 94, 113, .null), (9, .ireturn, 10, 0, 0, .null)]
def pX11_parish : List (Nat × mv_I) := [(0, .aload_n 0, 1, 0, 0, .null), (1, .iconst 0, 2, 0, 0, .int 0), (2, .putfield 96, 5, 11, 0, .ref 123), (5, .iload_n 1, 6, 0, 0, .null), (6, .i2l, 7, 0, 0, .null), (7, .lconst 0, 8, 0, 0, .long 0),
  (8, .ldc2_w 108, 11, 991, 0, .long 5), (11, .invokestatic 102, 14, 94, 113, .null), (14, .ifCond .eq 12, 17, 26, 0, .null), (17, .aload_n 0, 18, 0, 0, .null), (18, .getfield 99, 21, 11, 1, .ref 124), (21, .bipush 24, 23, 0, 0, .int 24),
  (23, .if_icmp .ne 5, 26, 28, 0, .null), (26, .iconst (-1), 27, 0, 0, .int (-1)), (27, .ireturn, 28, 0, 0, .null), (28, .aload_n 0, 29, 0, 0, .null), (29, .getfield 9, 32, 11, 2, .ref 95), (32, .aload_n 0, 33, 0, 0, .null),
  (33, .getfield 99, 36, 11, 1, .ref 124), (36, .iload_n 1, 37, 0, 0, .null), (37, .iastore, 38, 0, 0, .null), (38, .aload_n 0, 39, 0, 0, .null), (39, .dup, 40, 0, 0, .null), (40, .getfield 99, 43, 11, 1, .ref 124),
  (43, .iconst 1, 44, 0, 0, .int 1), (44, .iadd, 45, 0, 0, .null), (45, .putfield 99, 48, 11, 1, .ref 124), (48, .aload_n 0, 49, 0, 0, .null), (49, .getfield 99, 52, 11, 1, .ref 124), (52, .iconst 1, 53, 0, 0, .int 1),
  (53, .isub, 54, 0, 0, .null), (54, .ireturn, 55, 0, 0, .null)]
def pX11_road : List (Nat × mv_I) := [(0, .aload_n 0, 1, 0, 0, .null), (1, .iconst 0, 2, 0, 0, .int 0), (2, .putfield 96, 5, 11, 0, .ref 123), (5, .aload_n 0, 6, 0, 0, .null), (6, .iload_n 1, 7, 0, 0, .null), (7, .invokevirtual 110, 10, 95, 115, .null),
  (10, .ifCond .eq 37, 13, 47, 0, .null), (13, .aload_n 0, 14, 0, 0, .null), (14, .iload_n 2, 15, 0, 0, .null), (15, .invokevirtual 110, 18, 95, 115, .null), (18, .ifCond .eq 29, 21, 47, 0, .null), (21, .iload_n 1, 22, 0, 0, .null),
  (22, .iload_n 2, 23, 0, 0, .null), (23, .if_icmp .eq 24, 26, 47, 0, .null), (26, .iload_n 3, 27, 0, 0, .null), (27, .i2l, 28, 0, 0, .null), (28, .lconst 1, 29, 0, 0, .long 1), (29, .ldc2_w 114, 32, 1003, 0, .long 12),
  (32, .invokestatic 102, 35, 94, 113, .null), (35, .ifCond .eq 12, 38, 47, 0, .null), (38, .aload_n 0, 39, 0, 0, .null), (39, .getfield 116, 42, 11, 4, .ref 125), (42, .bipush 40, 44, 0, 0, .int 40), (44, .if_icmp .ne 5, 47, 49, 0, .null),
  (47, .iconst (-1), 48, 0, 0, .int (-1)), (48, .ireturn, 49, 0, 0, .null), (49, .aload_n 0, 50, 0, 0, .null), (50, .getfield 17, 53, 11, 5, .ref 97), (53, .aload_n 0, 54, 0, 0, .null), (54, .getfield 116, 57, 11, 4, .ref 125),
  (57, .iload_n 1, 58, 0, 0, .null), (58, .iastore, 59, 0, 0, .null), (59, .aload_n 0, 60, 0, 0, .null), (60, .getfield 20, 63, 11, 6, .ref 98), (63, .aload_n 0, 64, 0, 0, .null), (64, .getfield 116, 67, 11, 4, .ref 125),
  (67, .iload_n 2, 68, 0, 0, .null), (68, .iastore, 69, 0, 0, .null), (69, .aload_n 0, 70, 0, 0, .null), (70, .getfield 23, 73, 11, 7, .ref 99), (73, .aload_n 0, 74, 0, 0, .null), (74, .getfield 116, 77, 11, 4, .ref 125),
  (77, .iload_n 3, 78, 0, 0, .null), (78, .iastore, 79, 0, 0, .null), (79, .aload_n 0, 80, 0, 0, .null), (80, .dup, 81, 0, 0, .null), (81, .getfield 116, 84, 11, 4, .ref 125), (84, .iconst 1, 85, 0, 0, .int 1),
  (85, .iadd, 86, 0, 0, .null), (86, .putfield 116, 89, 11, 4, .ref 125), (89, .aload_n 0, 90, 0, 0, .null), (90, .getfield 116, 93, 11, 4, .ref 125), (93, .iconst 1, 94, 0, 0, .int 1), (94, .isub, 95, 0, 0, .null),
  (95, .ireturn, 96, 0, 0, .null)]
def pX11_shut : List (Nat × mv_I) := [(0, .aload_n 0, 1, 0, 0, .null), (1, .iconst 0, 2, 0, 0, .int 0), (2, .putfield 96, 5, 11, 0, .ref 123), (5, .iload_n 1, 6, 0, 0, .null), (6, .i2l, 7, 0, 0, .null), (7, .lconst 0, 8, 0, 0, .long 0),
  (8, .aload_n 0, 9, 0, 0, .null), (9, .getfield 116, 12, 11, 4, .ref 125), (12, .iconst 1, 13, 0, 0, .int 1), (13, .isub, 14, 0, 0, .null), (14, .i2l, 15, 0, 0, .null), (15, .invokestatic 102, 18, 94, 113, .null),
  (18, .ifCond .ne 5, 21, 23, 0, .null), (21, .iconst 0, 22, 0, 0, .int 0), (22, .ireturn, 23, 0, 0, .null), (23, .aload_n 0, 24, 0, 0, .null), (24, .getfield 26, 27, 11, 8, .ref 100), (27, .iload_n 1, 28, 0, 0, .null),
  (28, .iload_n 2, 29, 0, 0, .null), (29, .bastore, 30, 0, 0, .null), (30, .iconst 1, 31, 0, 0, .int 1), (31, .ireturn, 32, 0, 0, .null)]
def pX11_exit : List (Nat × mv_I) := [(0, .aload_n 0, 1, 0, 0, .null), (1, .iconst 0, 2, 0, 0, .int 0), (2, .putfield 96, 5, 11, 0, .ref 123), (5, .aload_n 0, 6, 0, 0, .null), (6, .iload_n 1, 7, 0, 0, .null), (7, .invokevirtual 110, 10, 95, 115, .null),
  (10, .ifCond .ne 5, 13, 15, 0, .null), (13, .iconst 0, 14, 0, 0, .int 0), (14, .ireturn, 15, 0, 0, .null), (15, .aload_n 0, 16, 0, 0, .null), (16, .getfield 13, 19, 11, 3, .ref 96), (19, .iload_n 1, 20, 0, 0, .null),
  (20, .iload_n 2, 21, 0, 0, .null), (21, .bastore, 22, 0, 0, .null), (22, .iconst 1, 23, 0, 0, .int 1), (23, .ireturn, 24, 0, 0, .null)]
def pX11_begin : List (Nat × mv_I) := [(0, .aload_n 0, 1, 0, 0, .null), (1, .iconst 0, 2, 0, 0, .int 0), (2, .putfield 96, 5, 11, 0, .ref 123), (5, .aload_n 0, 6, 0, 0, .null), (6, .iload_n 1, 7, 0, 0, .null), (7, .invokevirtual 110, 10, 95, 115, .null),
  (10, .ifCond .ne 5, 13, 15, 0, .null), (13, .iconst 0, 14, 0, 0, .int 0), (14, .ireturn, 15, 0, 0, .null), (15, .aload_n 0, 16, 0, 0, .null), (16, .iload_n 1, 17, 0, 0, .null), (17, .putfield 29, 20, 11, 9, .ref 101),
  (20, .iconst 1, 21, 0, 0, .int 1), (21, .ireturn, 22, 0, 0, .null)]
def pX11_count : List (Nat × mv_I) := [(0, .aload_n 0, 1, 0, 0, .null), (1, .iconst 0, 2, 0, 0, .int 0), (2, .putfield 96, 5, 11, 0, .ref 123), (5, .iconst 0, 6, 0, 0, .int 0), (6, .istore_n 2, 7, 0, 0, .null), (7, .iconst 0, 8, 0, 0, .int 0),
  (8, .istore_n 3, 9, 0, 0, .null), (9, .iload_n 3, 10, 0, 0, .null), (10, .aload_n 0, 11, 0, 0, .null), (11, .getfield 119, 14, 11, 11, .ref 126), (14, .if_icmp .ge 26, 17, 40, 0, .null), (17, .iload_n 2, 18, 0, 0, .null),
  (18, .aload_n 0, 19, 0, 0, .null), (19, .getfield 45, 22, 11, 15, .ref 106), (22, .iload_n 3, 23, 0, 0, .null), (23, .baload, 24, 0, 0, .null), (24, .ifCond .eq 7, 27, 31, 0, .null), (27, .iconst 0, 28, 0, 0, .int 0),
  (28, .goto 4, 31, 32, 0, .null), (31, .iconst 1, 32, 0, 0, .int 1), (32, .iadd, 33, 0, 0, .null), (33, .istore_n 2, 34, 0, 0, .null), (34, .iinc 3 1, 37, 0, 0, .int 1), (37, .goto (-28), 40, 9, 0, .null),
  (40, .iload_n 1, 41, 0, 0, .null), (41, .tableswitch 102 0 9 #[55, 60, 65, 70, 72, 77, 82, 87, 92, 97], 96, 0, 41, .null), (96, .aload_n 0, 97, 0, 0, .null), (97, .getfield 99, 100, 11, 1, .ref 124), (100, .ireturn, 101, 0, 0, .null), (101, .aload_n 0, 102, 0, 0, .null),
  (102, .getfield 116, 105, 11, 4, .ref 125), (105, .ireturn, 106, 0, 0, .null), (106, .aload_n 0, 107, 0, 0, .null), (107, .getfield 119, 110, 11, 11, .ref 126), (110, .ireturn, 111, 0, 0, .null), (111, .iload_n 2, 112, 0, 0, .null),
  (112, .ireturn, 113, 0, 0, .null), (113, .aload_n 0, 114, 0, 0, .null), (114, .getfield 122, 117, 11, 23, .ref 127), (117, .ireturn, 118, 0, 0, .null), (118, .aload_n 0, 119, 0, 0, .null), (119, .getfield 125, 122, 11, 28, .ref 128),
  (122, .ireturn, 123, 0, 0, .null), (123, .aload_n 0, 124, 0, 0, .null), (124, .getfield 128, 127, 11, 36, .ref 129), (127, .ireturn, 128, 0, 0, .null), (128, .aload_n 0, 129, 0, 0, .null), (129, .getfield 131, 132, 11, 18, .ref 130),
  (132, .ireturn, 133, 0, 0, .null), (133, .aload_n 0, 134, 0, 0, .null), (134, .getfield 134, 137, 11, 27, .ref 131), (137, .ireturn, 138, 0, 0, .null), (138, .aload_n 0, 139, 0, 0, .null), (139, .getfield 29, 142, 11, 9, .ref 101),
  (142, .ireturn, 143, 0, 0, .null), (143, .iconst (-1), 144, 0, 0, .int (-1)), (144, .ireturn, 145, 0, 0, .null)]
def pX11_far : List (Nat × mv_I) := [(0, .aload_n 0, 1, 0, 0, .null), (1, .iconst 0, 2, 0, 0, .int 0), (2, .putfield 96, 5, 11, 0, .ref 123), (5, .aload_n 0, 6, 0, 0, .null), (6, .iload_n 1, 7, 0, 0, .null), (7, .invokevirtual 110, 10, 95, 115, .null),
  (10, .ifCond .eq 11, 13, 21, 0, .null), (13, .aload_n 0, 14, 0, 0, .null), (14, .iload_n 2, 15, 0, 0, .null), (15, .invokevirtual 110, 18, 95, 115, .null), (18, .ifCond .ne 5, 21, 23, 0, .null), (21, .iconst (-1), 22, 0, 0, .int (-1)),
  (22, .ireturn, 23, 0, 0, .null), (23, .iconst 0, 24, 0, 0, .int 0), (24, .istore_n 3, 25, 0, 0, .null), (25, .iload_n 3, 26, 0, 0, .null), (26, .aload_n 0, 27, 0, 0, .null), (27, .getfield 99, 30, 11, 1, .ref 124),
  (30, .if_icmp .ge 26, 33, 56, 0, .null), (33, .aload_n 0, 34, 0, 0, .null), (34, .getfield 33, 37, 11, 10, .ref 102), (37, .iload_n 3, 38, 0, 0, .null), (38, .iload_n 3, 39, 0, 0, .null), (39, .iload_n 1, 40, 0, 0, .null),
  (40, .if_icmp .ne 7, 43, 47, 0, .null), (43, .iconst 0, 44, 0, 0, .int 0), (44, .goto 5, 47, 49, 0, .null), (47, .ldc 137, 49, 1024, 0, .int 268435456), (49, .iastore, 50, 0, 0, .null), (50, .iinc 3 1, 53, 0, 0, .int 1),
  (53, .goto (-28), 56, 25, 0, .null), (56, .iconst 0, 57, 0, 0, .int 0), (57, .istore_n 3, 58, 0, 0, .null), (58, .iload_n 3, 59, 0, 0, .null), (59, .aload_n 0, 60, 0, 0, .null), (60, .getfield 99, 63, 11, 1, .ref 124),
  (63, .if_icmp .ge 119, 66, 182, 0, .null), (66, .iconst 0, 67, 0, 0, .int 0), (67, .istore 4, 69, 0, 0, .null), (69, .iload 4, 71, 0, 0, .null), (71, .aload_n 0, 72, 0, 0, .null), (72, .getfield 116, 75, 11, 4, .ref 125),
  (75, .if_icmp .ge 101, 78, 176, 0, .null), (78, .aload_n 0, 79, 0, 0, .null), (79, .getfield 26, 82, 11, 8, .ref 100), (82, .iload 4, 84, 0, 0, .null), (84, .baload, 85, 0, 0, .null), (85, .ifCond .ne 85, 88, 170, 0, .null),
  (88, .aload_n 0, 89, 0, 0, .null), (89, .getfield 17, 92, 11, 5, .ref 97), (92, .iload 4, 94, 0, 0, .null), (94, .iaload, 95, 0, 0, .null), (95, .istore 5, 97, 0, 0, .null), (97, .aload_n 0, 98, 0, 0, .null),
  (98, .getfield 20, 101, 11, 6, .ref 98), (101, .iload 4, 103, 0, 0, .null), (103, .iaload, 104, 0, 0, .null), (104, .istore 6, 106, 0, 0, .null), (106, .aload_n 0, 107, 0, 0, .null), (107, .getfield 33, 110, 11, 10, .ref 102),
  (110, .iload 5, 112, 0, 0, .null), (112, .aload_n 0, 113, 0, 0, .null), (113, .getfield 33, 116, 11, 10, .ref 102), (116, .iload 5, 118, 0, 0, .null), (118, .iaload, 119, 0, 0, .null), (119, .aload_n 0, 120, 0, 0, .null),
  (120, .getfield 33, 123, 11, 10, .ref 102), (123, .iload 6, 125, 0, 0, .null), (125, .iaload, 126, 0, 0, .null), (126, .aload_n 0, 127, 0, 0, .null), (127, .getfield 23, 130, 11, 7, .ref 99), (130, .iload 4, 132, 0, 0, .null),
  (132, .iaload, 133, 0, 0, .null), (133, .iadd, 134, 0, 0, .null), (134, .invokestatic 138, 137, 1025, 901, .null), (137, .iastore, 138, 0, 0, .null), (138, .aload_n 0, 139, 0, 0, .null), (139, .getfield 33, 142, 11, 10, .ref 102),
  (142, .iload 6, 144, 0, 0, .null), (144, .aload_n 0, 145, 0, 0, .null), (145, .getfield 33, 148, 11, 10, .ref 102), (148, .iload 6, 150, 0, 0, .null), (150, .iaload, 151, 0, 0, .null), (151, .aload_n 0, 152, 0, 0, .null),
  (152, .getfield 33, 155, 11, 10, .ref 102), (155, .iload 5, 157, 0, 0, .null), (157, .iaload, 158, 0, 0, .null), (158, .aload_n 0, 159, 0, 0, .null), (159, .getfield 23, 162, 11, 7, .ref 99), (162, .iload 4, 164, 0, 0, .null),
  (164, .iaload, 165, 0, 0, .null), (165, .iadd, 166, 0, 0, .null), (166, .invokestatic 138, 169, 1025, 901, .null), (169, .iastore, 170, 0, 0, .null), (170, .iinc 4 1, 173, 0, 0, .int 1), (173, .goto (-104), 176, 69, 0, .null),
  (176, .iinc 3 1, 179, 0, 0, .int 1), (179, .goto (-121), 182, 58, 0, .null), (182, .aload_n 0, 183, 0, 0, .null), (183, .getfield 33, 186, 11, 10, .ref 102), (186, .iload_n 2, 187, 0, 0, .null), (187, .iaload, 188, 0, 0, .null),
  (188, .ldc 137, 190, 1024, 0, .int 268435456), (190, .if_icmp .ge 12, 193, 202, 0, .null), (193, .aload_n 0, 194, 0, 0, .null), (194, .getfield 33, 197, 11, 10, .ref 102), (197, .iload_n 2, 198, 0, 0, .null), (198, .iaload, 199, 0, 0, .null),
  (199, .goto 4, 202, 203, 0, .null), (202, .iconst (-1), 203, 0, 0, .int (-1)), (203, .ireturn, 204, 0, 0, .null)]
def pX11_fact : List (Nat × mv_I) := [(0, .iload_n 2, 1, 0, 0, .null), (1, .ifCond .eq 20, 4, 21, 0, .null), (4, .iload 4, 6, 0, 0, .null), (6, .invokestatic 144, 9, 96, 116, .null), (9, .ifCond .eq 12, 12, 21, 0, .null), (12, .aload_n 0, 13, 0, 0, .null),
  (13, .getfield 119, 16, 11, 11, .ref 126), (16, .bipush 40, 18, 0, 0, .int 40), (18, .if_icmp .ne 5, 21, 23, 0, .null), (21, .iconst (-1), 22, 0, 0, .int (-1)), (22, .ireturn, 23, 0, 0, .null), (23, .aload_n 0, 24, 0, 0, .null),
  (24, .getfield 36, 27, 11, 12, .ref 103), (27, .aload_n 0, 28, 0, 0, .null), (28, .getfield 119, 31, 11, 11, .ref 126), (31, .iload_n 1, 32, 0, 0, .null), (32, .iastore, 33, 0, 0, .null), (33, .aload_n 0, 34, 0, 0, .null),
  (34, .getfield 39, 37, 11, 13, .ref 104), (37, .aload_n 0, 38, 0, 0, .null), (38, .getfield 119, 41, 11, 11, .ref 126), (41, .iload_n 3, 42, 0, 0, .null), (42, .iastore, 43, 0, 0, .null), (43, .aload_n 0, 44, 0, 0, .null),
  (44, .getfield 42, 47, 11, 14, .ref 105), (47, .aload_n 0, 48, 0, 0, .null), (48, .getfield 119, 51, 11, 11, .ref 126), (51, .iload 4, 53, 0, 0, .null), (53, .iastore, 54, 0, 0, .null), (54, .aload_n 0, 55, 0, 0, .null),
  (55, .getfield 45, 58, 11, 15, .ref 106), (58, .aload_n 0, 59, 0, 0, .null), (59, .getfield 119, 62, 11, 11, .ref 126), (62, .iconst 0, 63, 0, 0, .int 0), (63, .bastore, 64, 0, 0, .null), (64, .aload_n 0, 65, 0, 0, .null),
  (65, .dup, 66, 0, 0, .null), (66, .getfield 119, 69, 11, 11, .ref 126), (69, .iconst 1, 70, 0, 0, .int 1), (70, .iadd, 71, 0, 0, .null), (71, .putfield 119, 74, 11, 11, .ref 126), (74, .aload_n 0, 75, 0, 0, .null),
  (75, .getfield 119, 78, 11, 11, .ref 126), (78, .iconst 1, 79, 0, 0, .int 1), (79, .isub, 80, 0, 0, .null), (80, .ireturn, 81, 0, 0, .null)]
def pX11_seen : List (Nat × mv_I) := [(0, .aload_n 0, 1, 0, 0, .null), (1, .iconst 0, 2, 0, 0, .int 0), (2, .putfield 96, 5, 11, 0, .ref 123), (5, .aload_n 0, 6, 0, 0, .null), (6, .iconst 0, 7, 0, 0, .int 0), (7, .aload_n 0, 8, 0, 0, .null),
  (8, .iload_n 1, 9, 0, 0, .null), (9, .invokevirtual 110, 12, 95, 115, .null), (12, .iload_n 1, 13, 0, 0, .null), (13, .iload_n 2, 14, 0, 0, .null), (14, .invokevirtual 147, 17, 97, 124, .null), (17, .ireturn, 18, 0, 0, .null)]
def pX11_vain : List (Nat × mv_I) := [(0, .aload_n 0, 1, 0, 0, .null), (1, .iconst 0, 2, 0, 0, .int 0), (2, .putfield 96, 5, 11, 0, .ref 123), (5, .aload_n 0, 6, 0, 0, .null), (6, .iconst 1, 7, 0, 0, .int 1), (7, .aload_n 0, 8, 0, 0, .null),
  (8, .iload_n 1, 9, 0, 0, .null), (9, .invokevirtual 110, 12, 95, 115, .null), (12, .iload_n 1, 13, 0, 0, .null), (13, .iload_n 2, 14, 0, 0, .null), (14, .invokevirtual 147, 17, 97, 124, .null), (17, .ireturn, 18, 0, 0, .null)]
def pX11_guarded : List (Nat × mv_I) := [(0, .aload_n 0, 1, 0, 0, .null), (1, .iconst 0, 2, 0, 0, .int 0), (2, .putfield 96, 5, 11, 0, .ref 123), (5, .aload_n 0, 6, 0, 0, .null), (6, .iconst 2, 7, 0, 0, .int 2), (7, .iload_n 1, 8, 0, 0, .null),
  (8, .i2l, 9, 0, 0, .null), (9, .lconst 0, 10, 0, 0, .long 0), (10, .aload_n 0, 11, 0, 0, .null), (11, .getfield 116, 14, 11, 4, .ref 125), (14, .iconst 1, 15, 0, 0, .int 1), (15, .isub, 16, 0, 0, .null),
  (16, .i2l, 17, 0, 0, .null), (17, .invokestatic 102, 20, 94, 113, .null), (20, .iload_n 1, 21, 0, 0, .null), (21, .iload_n 2, 22, 0, 0, .null), (22, .invokevirtual 147, 25, 97, 124, .null), (25, .ireturn, 26, 0, 0, .null)]
def pX11_strike : List (Nat × mv_I) := [(0, .aload_n 0, 1, 0, 0, .null), (1, .iconst 0, 2, 0, 0, .int 0), (2, .putfield 96, 5, 11, 0, .ref 123), (5, .iload_n 1, 6, 0, 0, .null), (6, .i2l, 7, 0, 0, .null), (7, .lconst 0, 8, 0, 0, .long 0),
  (8, .aload_n 0, 9, 0, 0, .null), (9, .getfield 119, 12, 11, 11, .ref 126), (12, .iconst 1, 13, 0, 0, .int 1), (13, .isub, 14, 0, 0, .null), (14, .i2l, 15, 0, 0, .null), (15, .invokestatic 102, 18, 94, 113, .null),
  (18, .ifCond .ne 5, 21, 23, 0, .null), (21, .iconst 0, 22, 0, 0, .int 0), (22, .ireturn, 23, 0, 0, .null), (23, .aload_n 0, 24, 0, 0, .null), (24, .getfield 45, 27, 11, 15, .ref 106), (27, .iload_n 1, 28, 0, 0, .null),
  (28, .iload_n 2, 29, 0, 0, .null), (29, .bastore, 30, 0, 0, .null), (30, .iconst 1, 31, 0, 0, .int 1), (31, .ireturn, 32, 0, 0, .null)]
def pX11_letsIn : List (Nat × mv_I) := [(0, .iconst 1, 1, 0, 0, .int 1), (1, .istore_n 3, 2, 0, 0, .null), (2, .iconst 0, 3, 0, 0, .int 0), (3, .istore 4, 5, 0, 0, .null), (5, .iload 4, 7, 0, 0, .null), (7, .aload_n 0, 8, 0, 0, .null),
  (8, .getfield 119, 11, 11, 11, .ref 126), (11, .if_icmp .ge 86, 14, 97, 0, .null), (14, .aload_n 0, 15, 0, 0, .null), (15, .getfield 45, 18, 11, 15, .ref 106), (18, .iload 4, 20, 0, 0, .null), (20, .baload, 21, 0, 0, .null),
  (21, .ifCond .ne 70, 24, 91, 0, .null), (24, .aload_n 0, 25, 0, 0, .null), (25, .getfield 42, 28, 11, 14, .ref 105), (28, .iload 4, 30, 0, 0, .null), (30, .iaload, 31, 0, 0, .null), (31, .iload_n 2, 32, 0, 0, .null),
  (32, .if_icmp .eq 6, 35, 38, 0, .null), (35, .goto 56, 38, 91, 0, .null), (38, .iload_n 3, 39, 0, 0, .null), (39, .ifCond .eq 50, 42, 89, 0, .null), (42, .aload_n 0, 43, 0, 0, .null), (43, .getfield 36, 46, 11, 12, .ref 103),
  (46, .iload 4, 48, 0, 0, .null), (48, .iaload, 49, 0, 0, .null), (49, .ifCond .ne 14, 52, 63, 0, .null), (52, .aload_n 0, 53, 0, 0, .null), (53, .getfield 39, 56, 11, 13, .ref 104), (56, .iload 4, 58, 0, 0, .null),
  (58, .iaload, 59, 0, 0, .null), (59, .iload_n 1, 60, 0, 0, .null), (60, .if_icmp .ne 29, 63, 89, 0, .null), (63, .aload_n 0, 64, 0, 0, .null), (64, .getfield 36, 67, 11, 12, .ref 103), (67, .iload 4, 69, 0, 0, .null),
  (69, .iaload, 70, 0, 0, .null), (70, .iconst 1, 71, 0, 0, .int 1), (71, .if_icmp .ne 14, 74, 85, 0, .null), (74, .aload_n 0, 75, 0, 0, .null), (75, .getfield 39, 78, 11, 13, .ref 104), (78, .iload 4, 80, 0, 0, .null),
  (80, .iaload, 81, 0, 0, .null), (81, .iload_n 1, 82, 0, 0, .null), (82, .if_icmp .eq 7, 85, 89, 0, .null), (85, .iconst 1, 86, 0, 0, .int 1), (86, .goto 4, 89, 90, 0, .null), (89, .iconst 0, 90, 0, 0, .int 0),
  (90, .istore_n 3, 91, 0, 0, .null), (91, .iinc 4 1, 94, 0, 0, .int 1), (94, .goto (-89), 97, 5, 0, .null), (97, .iload_n 3, 98, 0, 0, .null), (98, .ireturn, 99, 0, 0, .null)]
def pX11_isClear : List (Nat × mv_I) := [(0, .iconst 1, 1, 0, 0, .int 1), (1, .istore 4, 3, 0, 0, .null), (3, .iconst 0, 4, 0, 0, .int 0), (4, .istore 5, 6, 0, 0, .null), (6, .iload 5, 8, 0, 0, .null), (8, .aload_n 0, 9, 0, 0, .null),
  (9, .getfield 119, 12, 11, 11, .ref 126), (12, .if_icmp .ge 84, 15, 96, 0, .null), (15, .aload_n 0, 16, 0, 0, .null), (16, .getfield 45, 19, 11, 15, .ref 106), (19, .iload 5, 21, 0, 0, .null), (21, .baload, 22, 0, 0, .null),
  (22, .ifCond .ne 68, 25, 90, 0, .null), (25, .aload_n 0, 26, 0, 0, .null), (26, .getfield 42, 29, 11, 14, .ref 105), (29, .iload 5, 31, 0, 0, .null), (31, .iaload, 32, 0, 0, .null), (32, .i2l, 33, 0, 0, .null),
  (33, .iload_n 2, 34, 0, 0, .null), (34, .i2l, 35, 0, 0, .null), (35, .iload_n 3, 36, 0, 0, .null), (36, .i2l, 37, 0, 0, .null), (37, .invokestatic 102, 40, 94, 113, .null), (40, .ifCond .ne 6, 43, 46, 0, .null),
  (43, .goto 47, 46, 90, 0, .null), (46, .iload 4, 48, 0, 0, .null), (48, .ifCond .eq 39, 51, 87, 0, .null), (51, .aload_n 0, 52, 0, 0, .null), (52, .getfield 36, 55, 11, 12, .ref 103), (55, .iload 5, 57, 0, 0, .null),
  (57, .iaload, 58, 0, 0, .null), (58, .ifCond .eq 29, 61, 87, 0, .null), (61, .aload_n 0, 62, 0, 0, .null), (62, .getfield 36, 65, 11, 12, .ref 103), (65, .iload 5, 67, 0, 0, .null), (67, .iaload, 68, 0, 0, .null),
  (68, .iconst 2, 69, 0, 0, .int 2), (69, .if_icmp .ne 14, 72, 83, 0, .null), (72, .aload_n 0, 73, 0, 0, .null), (73, .getfield 39, 76, 11, 13, .ref 104), (76, .iload 5, 78, 0, 0, .null), (78, .iaload, 79, 0, 0, .null),
  (79, .iload_n 1, 80, 0, 0, .null), (80, .if_icmp .eq 7, 83, 87, 0, .null), (83, .iconst 1, 84, 0, 0, .int 1), (84, .goto 4, 87, 88, 0, .null), (87, .iconst 0, 88, 0, 0, .int 0), (88, .istore 4, 90, 0, 0, .null),
  (90, .iinc 5 1, 93, 0, 0, .int 1), (93, .goto (-87), 96, 6, 0, .null), (96, .iload 4, 98, 0, 0, .null), (98, .ireturn, 99, 0, 0, .null)]
def pX11_cell : List (Nat × mv_I) := [(0, .iload_n 0, 1, 0, 0, .null), (1, .bipush 24, 3, 0, 0, .int 24), (3, .imul, 4, 0, 0, .null), (4, .iload_n 1, 5, 0, 0, .null), (5, .iadd, 6, 0, 0, .null), (6, .ireturn, 7, 0, 0, .null)]
def pX11_other : List (Nat × mv_I) := [(0, .aload_n 0, 1, 0, 0, .null), (1, .getfield 17, 4, 11, 5, .ref 97), (4, .iload_n 1, 5, 0, 0, .null), (5, .iaload, 6, 0, 0, .null), (6, .iload_n 2, 7, 0, 0, .null), (7, .if_icmp .ne 12, 10, 19, 0, .null),
  (10, .aload_n 0, 11, 0, 0, .null), (11, .getfield 20, 14, 11, 6, .ref 98), (14, .iload_n 1, 15, 0, 0, .null), (15, .iaload, 16, 0, 0, .null), (16, .goto 23, 19, 39, 0, .null), (19, .aload_n 0, 20, 0, 0, .null),
  (20, .getfield 20, 23, 11, 6, .ref 98), (23, .iload_n 1, 24, 0, 0, .null), (24, .iaload, 25, 0, 0, .null), (25, .iload_n 2, 26, 0, 0, .null), (26, .if_icmp .ne 12, 29, 38, 0, .null), (29, .aload_n 0, 30, 0, 0, .null),
  (30, .getfield 17, 33, 11, 5, .ref 97), (33, .iload_n 1, 34, 0, 0, .null), (34, .iaload, 35, 0, 0, .null), (35, .goto 4, 38, 39, 0, .null), (38, .iconst (-1), 39, 0, 0, .int (-1)), (39, .ireturn, 40, 0, 0, .null)]
def pX11_mayCome : List (Nat × mv_I) := [(0, .aload_n 0, 1, 0, 0, .null), (1, .iload_n 1, 2, 0, 0, .null), (2, .iload_n 2, 3, 0, 0, .null), (3, .invokevirtual 151, 6, 98, 132, .null), (6, .istore 5, 8, 0, 0, .null), (8, .iload_n 3, 9, 0, 0, .null),
  (9, .aload_n 0, 10, 0, 0, .null), (10, .getfield 23, 13, 11, 7, .ref 99), (13, .iload_n 1, 14, 0, 0, .null), (14, .iaload, 15, 0, 0, .null), (15, .isub, 16, 0, 0, .null), (16, .istore 6, 18, 0, 0, .null),
  (18, .iload 5, 20, 0, 0, .null), (20, .ifCond .lt 56, 23, 76, 0, .null), (23, .aload_n 0, 24, 0, 0, .null), (24, .getfield 26, 27, 11, 8, .ref 100), (27, .iload_n 1, 28, 0, 0, .null), (28, .baload, 29, 0, 0, .null),
  (29, .ifCond .ne 47, 32, 76, 0, .null), (32, .iload 6, 34, 0, 0, .null), (34, .ifCond .lt 42, 37, 76, 0, .null), (37, .aload_n 0, 38, 0, 0, .null), (38, .getfield 48, 41, 11, 16, .ref 107), (41, .iload 6, 43, 0, 0, .null),
  (43, .iload 5, 45, 0, 0, .null), (45, .invokestatic 154, 48, 99, 131, .null), (48, .baload, 49, 0, 0, .null), (49, .ifCond .eq 27, 52, 76, 0, .null), (52, .aload_n 0, 53, 0, 0, .null), (53, .iload_n 1, 54, 0, 0, .null),
  (54, .iload 6, 56, 0, 0, .null), (56, .iconst 1, 57, 0, 0, .int 1), (57, .iadd, 58, 0, 0, .null), (58, .iload 4, 60, 0, 0, .null), (60, .iload_n 3, 61, 0, 0, .null), (61, .iconst 1, 62, 0, 0, .int 1),
  (62, .isub, 63, 0, 0, .null), (63, .invokestatic 138, 66, 1025, 901, .null), (66, .invokevirtual 157, 69, 100, 130, .null), (69, .ifCond .eq 7, 72, 76, 0, .null), (72, .iconst 1, 73, 0, 0, .int 1), (73, .goto 4, 76, 77, 0, .null),
  (76, .iconst 0, 77, 0, 0, .int 0), (77, .ireturn, 78, 0, 0, .null)]
def pX11_walks : List (Nat × mv_I) := [(0, .iconst 0, 1, 0, 0, .int 0), (1, .istore 4, 3, 0, 0, .null), (3, .iload 4, 5, 0, 0, .null), (5, .bipush 48, 7, 0, 0, .int 48), (7, .if_icmp .ge 174, 10, 181, 0, .null), (10, .iconst 0, 11, 0, 0, .int 0),
  (11, .istore 5, 13, 0, 0, .null), (13, .iload 5, 15, 0, 0, .null), (15, .aload_n 0, 16, 0, 0, .null), (16, .getfield 99, 19, 11, 1, .ref 124), (19, .if_icmp .ge 156, 22, 175, 0, .null), (22, .iload 4, 24, 0, 0, .null),
  (24, .ifCond .ne 20, 27, 44, 0, .null), (27, .iload 5, 29, 0, 0, .null), (29, .aload_n 0, 30, 0, 0, .null), (30, .getfield 29, 33, 11, 9, .ref 101), (33, .if_icmp .ne 7, 36, 40, 0, .null), (36, .iconst 1, 37, 0, 0, .int 1),
  (37, .goto 21, 40, 58, 0, .null), (40, .iconst 0, 41, 0, 0, .int 0), (41, .goto 17, 44, 58, 0, .null), (44, .aload_n 0, 45, 0, 0, .null), (45, .getfield 48, 48, 11, 16, .ref 107), (48, .iload 4, 50, 0, 0, .null),
  (50, .iconst 1, 51, 0, 0, .int 1), (51, .isub, 52, 0, 0, .null), (52, .iload 5, 54, 0, 0, .null), (54, .invokestatic 154, 57, 99, 131, .null), (57, .baload, 58, 0, 0, .null), (58, .istore 6, 60, 0, 0, .null),
  (60, .iconst 0, 61, 0, 0, .int 0), (61, .istore 7, 63, 0, 0, .null), (63, .iload 7, 65, 0, 0, .null), (65, .aload_n 0, 66, 0, 0, .null), (66, .getfield 116, 69, 11, 4, .ref 125), (69, .if_icmp .ge 27, 72, 96, 0, .null),
  (72, .iload 6, 74, 0, 0, .null), (74, .ifCond .ne 22, 77, 96, 0, .null), (77, .aload_n 0, 78, 0, 0, .null), (78, .iload 7, 80, 0, 0, .null), (80, .iload 5, 82, 0, 0, .null), (82, .iload 4, 84, 0, 0, .null),
  (84, .iload_n 1, 85, 0, 0, .null), (85, .invokevirtual 161, 88, 101, 133, .null), (88, .istore 6, 90, 0, 0, .null), (90, .iinc 7 1, 93, 0, 0, .int 1), (93, .goto (-30), 96, 63, 0, .null), (96, .iload 6, 98, 0, 0, .null),
  (98, .ifCond .eq 24, 101, 122, 0, .null), (101, .iload 4, 103, 0, 0, .null), (103, .iload_n 1, 104, 0, 0, .null), (104, .if_icmp .gt 14, 107, 118, 0, .null), (107, .aload_n 0, 108, 0, 0, .null), (108, .iload 5, 110, 0, 0, .null),
  (110, .iload 4, 112, 0, 0, .null), (112, .invokevirtual 165, 115, 102, 129, .null), (115, .ifCond .eq 7, 118, 122, 0, .null), (118, .iconst 1, 119, 0, 0, .int 1), (119, .goto 4, 122, 123, 0, .null), (122, .iconst 0, 123, 0, 0, .int 0),
  (123, .istore 6, 125, 0, 0, .null), (125, .aload_n 0, 126, 0, 0, .null), (126, .getfield 48, 129, 11, 16, .ref 107), (129, .iload 4, 131, 0, 0, .null), (131, .iload 5, 133, 0, 0, .null), (133, .invokestatic 154, 136, 99, 131, .null),
  (136, .iload 6, 138, 0, 0, .null), (138, .ifCond .eq 29, 141, 167, 0, .null), (141, .iload_n 2, 142, 0, 0, .null), (142, .iload 5, 144, 0, 0, .null), (144, .ishr, 145, 0, 0, .null), (145, .iconst 1, 146, 0, 0, .int 1),
  (146, .iand, 147, 0, 0, .null), (147, .iconst 1, 148, 0, 0, .int 1), (148, .if_icmp .ne 15, 151, 163, 0, .null), (151, .iload 4, 153, 0, 0, .null), (153, .iload_n 1, 154, 0, 0, .null), (154, .if_icmp .lt 9, 157, 163, 0, .null),
  (157, .iload 4, 159, 0, 0, .null), (159, .iload_n 3, 160, 0, 0, .null), (160, .if_icmp .le 7, 163, 167, 0, .null), (163, .iconst 1, 164, 0, 0, .int 1), (164, .goto 4, 167, 168, 0, .null), (167, .iconst 0, 168, 0, 0, .int 0),
  (168, .bastore, 169, 0, 0, .null), (169, .iinc 5 1, 172, 0, 0, .int 1), (172, .goto (-159), 175, 13, 0, .null), (175, .iinc 4 1, 178, 0, 0, .int 1), (178, .goto (-175), 181, 3, 0, .null), (181, .return_, 182, 0, 0, .null)]
def pX11_walksOn : List (Nat × mv_I) := [(0, .bipush 47, 2, 0, 0, .int 47), (2, .istore_n 1, 3, 0, 0, .null), (3, .iload_n 1, 4, 0, 0, .null), (4, .ifCond .lt 111, 7, 115, 0, .null), (7, .iconst 0, 8, 0, 0, .int 0), (8, .istore_n 2, 9, 0, 0, .null),
  (9, .iload_n 2, 10, 0, 0, .null), (10, .aload_n 0, 11, 0, 0, .null), (11, .getfield 99, 14, 11, 1, .ref 124), (14, .if_icmp .ge 95, 17, 109, 0, .null), (17, .iload_n 1, 18, 0, 0, .null), (18, .bipush 47, 20, 0, 0, .int 47),
  (20, .if_icmp .eq 18, 23, 38, 0, .null), (23, .aload_n 0, 24, 0, 0, .null), (24, .getfield 51, 27, 11, 17, .ref 108), (27, .iload_n 1, 28, 0, 0, .null), (28, .iconst 1, 29, 0, 0, .int 1), (29, .iadd, 30, 0, 0, .null),
  (30, .iload_n 2, 31, 0, 0, .null), (31, .invokestatic 154, 34, 99, 131, .null), (34, .baload, 35, 0, 0, .null), (35, .ifCond .eq 7, 38, 42, 0, .null), (38, .iconst 1, 39, 0, 0, .int 1), (39, .goto 4, 42, 43, 0, .null),
  (42, .iconst 0, 43, 0, 0, .int 0), (43, .istore_n 3, 44, 0, 0, .null), (44, .iconst 0, 45, 0, 0, .int 0), (45, .istore 4, 47, 0, 0, .null), (47, .iload 4, 49, 0, 0, .null), (49, .aload_n 0, 50, 0, 0, .null),
  (50, .getfield 116, 53, 11, 4, .ref 125), (53, .if_icmp .ge 22, 56, 75, 0, .null), (56, .iload_n 3, 57, 0, 0, .null), (57, .ifCond .ne 18, 60, 75, 0, .null), (60, .aload_n 0, 61, 0, 0, .null), (61, .iload 4, 63, 0, 0, .null),
  (63, .iload_n 2, 64, 0, 0, .null), (64, .iload_n 1, 65, 0, 0, .null), (65, .invokevirtual 169, 68, 103, 136, .null), (68, .istore_n 3, 69, 0, 0, .null), (69, .iinc 4 1, 72, 0, 0, .int 1), (72, .goto (-25), 75, 47, 0, .null),
  (75, .aload_n 0, 76, 0, 0, .null), (76, .getfield 51, 79, 11, 17, .ref 108), (79, .iload_n 1, 80, 0, 0, .null), (80, .iload_n 2, 81, 0, 0, .null), (81, .invokestatic 154, 84, 99, 131, .null), (84, .iload_n 3, 85, 0, 0, .null),
  (85, .ifCond .eq 16, 88, 101, 0, .null), (88, .aload_n 0, 89, 0, 0, .null), (89, .iload_n 2, 90, 0, 0, .null), (90, .iload_n 1, 91, 0, 0, .null), (91, .invokevirtual 165, 94, 102, 129, .null), (94, .ifCond .eq 7, 97, 101, 0, .null),
  (97, .iconst 1, 98, 0, 0, .int 1), (98, .goto 4, 101, 102, 0, .null), (101, .iconst 0, 102, 0, 0, .int 0), (102, .bastore, 103, 0, 0, .null), (103, .iinc 2 1, 106, 0, 0, .int 1), (106, .goto (-97), 109, 9, 0, .null),
  (109, .iinc 1 (-1), 112, 0, 0, .int (-1)), (112, .goto (-109), 115, 3, 0, .null), (115, .return_, 116, 0, 0, .null)]
def pX11_mayGo : List (Nat × mv_I) := [(0, .aload_n 0, 1, 0, 0, .null), (1, .iload_n 1, 2, 0, 0, .null), (2, .iload_n 2, 3, 0, 0, .null), (3, .invokevirtual 151, 6, 98, 132, .null), (6, .istore 4, 8, 0, 0, .null), (8, .iload_n 3, 9, 0, 0, .null),
  (9, .aload_n 0, 10, 0, 0, .null), (10, .getfield 23, 13, 11, 7, .ref 99), (13, .iload_n 1, 14, 0, 0, .null), (14, .iaload, 15, 0, 0, .null), (15, .iadd, 16, 0, 0, .null), (16, .istore 5, 18, 0, 0, .null),
  (18, .iload 4, 20, 0, 0, .null), (20, .ifCond .lt 58, 23, 78, 0, .null), (23, .aload_n 0, 24, 0, 0, .null), (24, .getfield 26, 27, 11, 8, .ref 100), (27, .iload_n 1, 28, 0, 0, .null), (28, .baload, 29, 0, 0, .null),
  (29, .ifCond .ne 49, 32, 78, 0, .null), (32, .aload_n 0, 33, 0, 0, .null), (33, .iload_n 1, 34, 0, 0, .null), (34, .iload_n 3, 35, 0, 0, .null), (35, .iconst 1, 36, 0, 0, .int 1), (36, .iadd, 37, 0, 0, .null),
  (37, .bipush 48, 39, 0, 0, .int 48), (39, .iload 5, 41, 0, 0, .null), (41, .invokestatic 138, 44, 1025, 901, .null), (44, .iconst 1, 45, 0, 0, .int 1), (45, .isub, 46, 0, 0, .null), (46, .invokevirtual 157, 49, 100, 130, .null),
  (49, .ifCond .eq 29, 52, 78, 0, .null), (52, .iload 5, 54, 0, 0, .null), (54, .bipush 48, 56, 0, 0, .int 48), (56, .if_icmp .ge 18, 59, 74, 0, .null), (59, .aload_n 0, 60, 0, 0, .null), (60, .getfield 51, 63, 11, 17, .ref 108),
  (63, .iload 5, 65, 0, 0, .null), (65, .iload 4, 67, 0, 0, .null), (67, .invokestatic 154, 70, 99, 131, .null), (70, .baload, 71, 0, 0, .null), (71, .ifCond .eq 7, 74, 78, 0, .null), (74, .iconst 1, 75, 0, 0, .int 1),
  (75, .goto 4, 78, 79, 0, .null), (78, .iconst 0, 79, 0, 0, .int 0), (79, .ireturn, 80, 0, 0, .null)]
def pX11_isAsked : List (Nat × mv_I) := [(0, .aload_n 0, 1, 0, 0, .null), (1, .iload_n 1, 2, 0, 0, .null), (2, .invokevirtual 110, 5, 95, 115, .null), (5, .ifCond .eq 21, 8, 26, 0, .null), (8, .iload_n 2, 9, 0, 0, .null), (9, .invokestatic 144, 12, 96, 116, .null),
  (12, .ifCond .eq 14, 15, 26, 0, .null), (15, .aload_n 0, 16, 0, 0, .null), (16, .getfield 29, 19, 11, 9, .ref 101), (19, .ifCond .lt 7, 22, 26, 0, .null), (22, .iconst 1, 23, 0, 0, .int 1), (23, .goto 4, 26, 27, 0, .null),
  (26, .iconst 0, 27, 0, 0, .int 0), (27, .ireturn, 28, 0, 0, .null)]
def pX11_may : List (Nat × mv_I) := [(0, .aload_n 0, 1, 0, 0, .null), (1, .iconst 0, 2, 0, 0, .int 0), (2, .putfield 96, 5, 11, 0, .ref 123), (5, .aload_n 0, 6, 0, 0, .null), (6, .iload_n 1, 7, 0, 0, .null), (7, .iload_n 2, 8, 0, 0, .null),
  (8, .invokevirtual 172, 11, 104, 137, .null), (11, .ifCond .ne 5, 14, 16, 0, .null), (14, .iconst (-1), 15, 0, 0, .int (-1)), (15, .ireturn, 16, 0, 0, .null), (16, .aload_n 0, 17, 0, 0, .null), (17, .bipush 48, 19, 0, 0, .int 48),
  (19, .iconst 0, 20, 0, 0, .int 0), (20, .iconst 0, 21, 0, 0, .int 0), (21, .invokevirtual 175, 24, 105, 134, .null), (24, .aload_n 0, 25, 0, 0, .null), (25, .getfield 48, 28, 11, 16, .ref 107), (28, .iload_n 2, 29, 0, 0, .null),
  (29, .iload_n 1, 30, 0, 0, .null), (30, .invokestatic 154, 33, 99, 131, .null), (33, .baload, 34, 0, 0, .null), (34, .ifCond .eq 7, 37, 41, 0, .null), (37, .iconst 1, 38, 0, 0, .int 1), (38, .goto 4, 41, 42, 0, .null),
  (41, .iconst 0, 42, 0, 0, .int 0), (42, .ireturn, 43, 0, 0, .null)]
def pX11_was : List (Nat × mv_I) := [(0, .aload_n 0, 1, 0, 0, .null), (1, .iconst 0, 2, 0, 0, .int 0), (2, .putfield 96, 5, 11, 0, .ref 123), (5, .aload_n 0, 6, 0, 0, .null), (6, .iload_n 1, 7, 0, 0, .null), (7, .iload_n 2, 8, 0, 0, .null),
  (8, .invokevirtual 172, 11, 104, 137, .null), (11, .ifCond .ne 5, 14, 16, 0, .null), (14, .iconst (-1), 15, 0, 0, .int (-1)), (15, .ireturn, 16, 0, 0, .null), (16, .aload_n 0, 17, 0, 0, .null), (17, .bipush 48, 19, 0, 0, .int 48),
  (19, .iconst 0, 20, 0, 0, .int 0), (20, .iconst 0, 21, 0, 0, .int 0), (21, .invokevirtual 175, 24, 105, 134, .null), (24, .aload_n 0, 25, 0, 0, .null), (25, .invokevirtual 179, 28, 106, 135, .null), (28, .aload_n 0, 29, 0, 0, .null),
  (29, .getfield 48, 32, 11, 16, .ref 107), (32, .iload_n 2, 33, 0, 0, .null), (33, .iload_n 1, 34, 0, 0, .null), (34, .invokestatic 154, 37, 99, 131, .null), (37, .baload, 38, 0, 0, .null), (38, .ifCond .eq 20, 41, 58, 0, .null),
  (41, .aload_n 0, 42, 0, 0, .null), (42, .getfield 51, 45, 11, 17, .ref 108), (45, .iload_n 2, 46, 0, 0, .null), (46, .iload_n 1, 47, 0, 0, .null), (47, .invokestatic 154, 50, 99, 131, .null), (50, .baload, 51, 0, 0, .null),
  (51, .ifCond .eq 7, 54, 58, 0, .null), (54, .iconst 1, 55, 0, 0, .int 1), (55, .goto 4, 58, 59, 0, .null), (58, .iconst 0, 59, 0, 0, .int 0), (59, .ireturn, 60, 0, 0, .null)]
def pX11_places : List (Nat × mv_I) := [(0, .aload_n 0, 1, 0, 0, .null), (1, .iconst 0, 2, 0, 0, .int 0), (2, .putfield 96, 5, 11, 0, .ref 123), (5, .iload_n 1, 6, 0, 0, .null), (6, .invokestatic 144, 9, 96, 116, .null), (9, .ifCond .eq 20, 12, 29, 0, .null),
  (12, .aload_n 0, 13, 0, 0, .null), (13, .getfield 29, 16, 11, 9, .ref 101), (16, .ifCond .lt 13, 19, 29, 0, .null), (19, .iload_n 2, 20, 0, 0, .null), (20, .i2l, 21, 0, 0, .null), (21, .lconst 0, 22, 0, 0, .long 0),
  (22, .lconst 1, 23, 0, 0, .long 1), (23, .invokestatic 102, 26, 94, 113, .null), (26, .ifCond .ne 5, 29, 31, 0, .null), (29, .iconst (-1), 30, 0, 0, .int (-1)), (30, .ireturn, 31, 0, 0, .null), (31, .aload_n 0, 32, 0, 0, .null),
  (32, .bipush 48, 34, 0, 0, .int 48), (34, .iconst 0, 35, 0, 0, .int 0), (35, .iconst 0, 36, 0, 0, .int 0), (36, .invokevirtual 175, 39, 105, 134, .null), (39, .aload_n 0, 40, 0, 0, .null), (40, .invokevirtual 179, 43, 106, 135, .null),
  (43, .iconst 0, 44, 0, 0, .int 0), (44, .istore_n 3, 45, 0, 0, .null), (45, .iconst 0, 46, 0, 0, .int 0), (46, .istore 4, 48, 0, 0, .null), (48, .iload 4, 50, 0, 0, .null), (50, .aload_n 0, 51, 0, 0, .null),
  (51, .getfield 99, 54, 11, 1, .ref 124), (54, .if_icmp .ge 52, 57, 106, 0, .null), (57, .iload_n 3, 58, 0, 0, .null), (58, .aload_n 0, 59, 0, 0, .null), (59, .getfield 48, 62, 11, 16, .ref 107), (62, .iload_n 1, 63, 0, 0, .null),
  (63, .iload 4, 65, 0, 0, .null), (65, .invokestatic 154, 68, 99, 131, .null), (68, .baload, 69, 0, 0, .null), (69, .ifCond .eq 28, 72, 97, 0, .null), (72, .iload_n 2, 73, 0, 0, .null), (73, .ifCond .eq 17, 76, 90, 0, .null),
  (76, .aload_n 0, 77, 0, 0, .null), (77, .getfield 51, 80, 11, 17, .ref 108), (80, .iload_n 1, 81, 0, 0, .null), (81, .iload 4, 83, 0, 0, .null), (83, .invokestatic 154, 86, 99, 131, .null), (86, .baload, 87, 0, 0, .null),
  (87, .ifCond .eq 10, 90, 97, 0, .null), (90, .iconst 1, 91, 0, 0, .int 1), (91, .iload 4, 93, 0, 0, .null), (93, .ishl, 94, 0, 0, .null), (94, .goto 4, 97, 98, 0, .null), (97, .iconst 0, 98, 0, 0, .int 0),
  (98, .ior, 99, 0, 0, .null), (99, .istore_n 3, 100, 0, 0, .null), (100, .iinc 4 1, 103, 0, 0, .int 1), (103, .goto (-55), 106, 48, 0, .null), (106, .iload_n 3, 107, 0, 0, .null), (107, .ireturn, 108, 0, 0, .null)]
def pX11_first : List (Nat × mv_I) := [(0, .aload_n 0, 1, 0, 0, .null), (1, .iconst 0, 2, 0, 0, .int 0), (2, .putfield 96, 5, 11, 0, .ref 123), (5, .aload_n 0, 6, 0, 0, .null), (6, .iload_n 1, 7, 0, 0, .null), (7, .iconst 0, 8, 0, 0, .int 0),
  (8, .invokevirtual 172, 11, 104, 137, .null), (11, .ifCond .ne 5, 14, 16, 0, .null), (14, .iconst (-1), 15, 0, 0, .int (-1)), (15, .ireturn, 16, 0, 0, .null), (16, .aload_n 0, 17, 0, 0, .null), (17, .bipush 48, 19, 0, 0, .int 48),
  (19, .iconst 0, 20, 0, 0, .int 0), (20, .iconst 0, 21, 0, 0, .int 0), (21, .invokevirtual 175, 24, 105, 134, .null), (24, .iconst 0, 25, 0, 0, .int 0), (25, .istore_n 2, 26, 0, 0, .null), (26, .iload_n 2, 27, 0, 0, .null),
  (27, .bipush 48, 29, 0, 0, .int 48), (29, .if_icmp .ge 24, 32, 53, 0, .null), (32, .aload_n 0, 33, 0, 0, .null), (33, .getfield 48, 36, 11, 16, .ref 107), (36, .iload_n 2, 37, 0, 0, .null), (37, .iload_n 1, 38, 0, 0, .null),
  (38, .invokestatic 154, 41, 99, 131, .null), (41, .baload, 42, 0, 0, .null), (42, .ifCond .eq 5, 45, 47, 0, .null), (45, .iload_n 2, 46, 0, 0, .null), (46, .ireturn, 47, 0, 0, .null), (47, .iinc 2 1, 50, 0, 0, .int 1),
  (50, .goto (-24), 53, 26, 0, .null), (53, .iconst (-1), 54, 0, 0, .int (-1)), (54, .ireturn, 55, 0, 0, .null)]
def pX11_trail : List (Nat × mv_I) := [(0, .aload_n 0, 1, 0, 0, .null), (1, .iconst 0, 2, 0, 0, .int 0), (2, .putfield 96, 5, 11, 0, .ref 123), (5, .aload_n 0, 6, 0, 0, .null), (6, .iload_n 1, 7, 0, 0, .null), (7, .iload_n 2, 8, 0, 0, .null),
  (8, .invokevirtual 172, 11, 104, 137, .null), (11, .ifCond .ne 5, 14, 16, 0, .null), (14, .iconst (-1), 15, 0, 0, .int (-1)), (15, .ireturn, 16, 0, 0, .null), (16, .aload_n 0, 17, 0, 0, .null), (17, .bipush 48, 19, 0, 0, .int 48),
  (19, .iconst 0, 20, 0, 0, .int 0), (20, .iconst 0, 21, 0, 0, .int 0), (21, .invokevirtual 175, 24, 105, 134, .null), (24, .aload_n 0, 25, 0, 0, .null), (25, .getfield 48, 28, 11, 16, .ref 107), (28, .iload_n 2, 29, 0, 0, .null),
  (29, .iload_n 1, 30, 0, 0, .null), (30, .invokestatic 154, 33, 99, 131, .null), (33, .baload, 34, 0, 0, .null), (34, .ifCond .ne 5, 37, 39, 0, .null), (37, .iconst 0, 38, 0, 0, .int 0), (38, .ireturn, 39, 0, 0, .null),
  (39, .iconst 1, 40, 0, 0, .int 1), (40, .istore_n 3, 41, 0, 0, .null), (41, .iload_n 1, 42, 0, 0, .null), (42, .istore 4, 44, 0, 0, .null), (44, .iload_n 2, 45, 0, 0, .null), (45, .istore 5, 47, 0, 0, .null),
  (47, .aload_n 0, 48, 0, 0, .null), (48, .getfield 57, 51, 11, 20, .ref 110), (51, .iconst 0, 52, 0, 0, .int 0), (52, .iload 4, 54, 0, 0, .null), (54, .iastore, 55, 0, 0, .null), (55, .iload 5, 57, 0, 0, .null),
  (57, .ifCond .le 86, 60, 143, 0, .null), (60, .aload_n 0, 61, 0, 0, .null), (61, .getfield 48, 64, 11, 16, .ref 107), (64, .iload 5, 66, 0, 0, .null), (66, .iconst 1, 67, 0, 0, .int 1), (67, .isub, 68, 0, 0, .null),
  (68, .iload 4, 70, 0, 0, .null), (70, .invokestatic 154, 73, 99, 131, .null), (73, .baload, 74, 0, 0, .null), (74, .ifCond .eq 9, 77, 83, 0, .null), (77, .iinc 5 (-1), 80, 0, 0, .int (-1)), (80, .goto (-25), 83, 55, 0, .null),
  (83, .iconst 0, 84, 0, 0, .int 0), (84, .istore 6, 86, 0, 0, .null), (86, .aload_n 0, 87, 0, 0, .null), (87, .iload 6, 89, 0, 0, .null), (89, .iload 4, 91, 0, 0, .null), (91, .iload 5, 93, 0, 0, .null),
  (93, .bipush 48, 95, 0, 0, .int 48), (95, .invokevirtual 161, 98, 101, 133, .null), (98, .ifCond .ne 9, 101, 107, 0, .null), (101, .iinc 6 1, 104, 0, 0, .int 1), (104, .goto (-18), 107, 86, 0, .null), (107, .iload 5, 109, 0, 0, .null),
  (109, .aload_n 0, 110, 0, 0, .null), (110, .getfield 23, 113, 11, 7, .ref 99), (113, .iload 6, 115, 0, 0, .null), (115, .iaload, 116, 0, 0, .null), (116, .isub, 117, 0, 0, .null), (117, .istore 5, 119, 0, 0, .null),
  (119, .aload_n 0, 120, 0, 0, .null), (120, .iload 6, 122, 0, 0, .null), (122, .iload 4, 124, 0, 0, .null), (124, .invokevirtual 151, 127, 98, 132, .null), (127, .istore 4, 129, 0, 0, .null), (129, .aload_n 0, 130, 0, 0, .null),
  (130, .getfield 57, 133, 11, 20, .ref 110), (133, .iload_n 3, 134, 0, 0, .null), (134, .iload 4, 136, 0, 0, .null), (136, .iastore, 137, 0, 0, .null), (137, .iinc 3 1, 140, 0, 0, .int 1), (140, .goto (-85), 143, 55, 0, .null),
  (143, .aload_n 0, 144, 0, 0, .null), (144, .iload_n 3, 145, 0, 0, .null), (145, .putfield 131, 148, 11, 18, .ref 130), (148, .iconst 0, 149, 0, 0, .int 0), (149, .istore 6, 151, 0, 0, .null), (151, .iload 6, 153, 0, 0, .null),
  (153, .iload_n 3, 154, 0, 0, .null), (154, .if_icmp .ge 27, 157, 181, 0, .null), (157, .aload_n 0, 158, 0, 0, .null), (158, .getfield 54, 161, 11, 19, .ref 109), (161, .iload 6, 163, 0, 0, .null), (163, .aload_n 0, 164, 0, 0, .null),
  (164, .getfield 57, 167, 11, 20, .ref 110), (167, .iload_n 3, 168, 0, 0, .null), (168, .iconst 1, 169, 0, 0, .int 1), (169, .isub, 170, 0, 0, .null), (170, .iload 6, 172, 0, 0, .null), (172, .isub, 173, 0, 0, .null),
  (173, .iaload, 174, 0, 0, .null), (174, .iastore, 175, 0, 0, .null), (175, .iinc 6 1, 178, 0, 0, .int 1), (178, .goto (-27), 181, 151, 0, .null), (181, .iload_n 3, 182, 0, 0, .null), (182, .ireturn, 183, 0, 0, .null)]
def pX11_agrees : List (Nat × mv_I) := [(0, .aload_n 0, 1, 0, 0, .null), (1, .invokevirtual 179, 4, 106, 135, .null), (4, .aload_n 0, 5, 0, 0, .null), (5, .getfield 51, 8, 11, 17, .ref 108), (8, .iconst 0, 9, 0, 0, .int 0), (9, .aload_n 0, 10, 0, 0, .null),
  (10, .getfield 29, 13, 11, 9, .ref 101), (13, .invokestatic 154, 16, 99, 131, .null), (16, .baload, 17, 0, 0, .null), (17, .ireturn, 18, 0, 0, .null)]
def pX11_quarrel : List (Nat × mv_I) := [(0, .aload_n 0, 1, 0, 0, .null), (1, .iconst 0, 2, 0, 0, .int 0), (2, .putfield 96, 5, 11, 0, .ref 123), (5, .aload_n 0, 6, 0, 0, .null), (6, .getfield 29, 9, 11, 9, .ref 101), (9, .ifCond .ge 5, 12, 14, 0, .null),
  (12, .lconst 0, 13, 0, 0, .long 0), (13, .lreturn, 14, 0, 0, .null), (14, .aload_n 0, 15, 0, 0, .null), (15, .invokevirtual 182, 18, 107, 143, .null), (18, .ifCond .eq 7, 21, 25, 0, .null), (21, .ldc2_w 186, 24, 1113, 0, .long (-1)),
  (24, .lreturn, 25, 0, 0, .null), (25, .lconst 0, 26, 0, 0, .long 0), (26, .lstore_n 1, 27, 0, 0, .null), (27, .iconst 0, 28, 0, 0, .int 0), (28, .istore_n 3, 29, 0, 0, .null), (29, .iload_n 3, 30, 0, 0, .null),
  (30, .aload_n 0, 31, 0, 0, .null), (31, .getfield 119, 34, 11, 11, .ref 126), (34, .if_icmp .ge 52, 37, 86, 0, .null), (37, .aload_n 0, 38, 0, 0, .null), (38, .getfield 45, 41, 11, 15, .ref 106), (41, .iload_n 3, 42, 0, 0, .null),
  (42, .baload, 43, 0, 0, .null), (43, .ifCond .eq 6, 46, 49, 0, .null), (46, .goto 34, 49, 80, 0, .null), (49, .aload_n 0, 50, 0, 0, .null), (50, .getfield 45, 53, 11, 15, .ref 106), (53, .iload_n 3, 54, 0, 0, .null),
  (54, .iconst 1, 55, 0, 0, .int 1), (55, .bastore, 56, 0, 0, .null), (56, .lload_n 1, 57, 0, 0, .null), (57, .aload_n 0, 58, 0, 0, .null), (58, .invokevirtual 182, 61, 107, 143, .null), (61, .ifCond .eq 9, 64, 70, 0, .null),
  (64, .lconst 1, 65, 0, 0, .long 1), (65, .iload_n 3, 66, 0, 0, .null), (66, .lshl, 67, 0, 0, .null), (67, .goto 4, 70, 71, 0, .null), (70, .lconst 0, 71, 0, 0, .long 0), (71, .lor, 72, 0, 0, .null),
  (72, .lstore_n 1, 73, 0, 0, .null), (73, .aload_n 0, 74, 0, 0, .null), (74, .getfield 45, 77, 11, 15, .ref 106), (77, .iload_n 3, 78, 0, 0, .null), (78, .iconst 0, 79, 0, 0, .int 0), (79, .bastore, 80, 0, 0, .null),
  (80, .iinc 3 1, 83, 0, 0, .int 1), (83, .goto (-54), 86, 29, 0, .null), (86, .lload_n 1, 87, 0, 0, .null), (87, .lreturn, 88, 0, 0, .null)]
def pX11_getsOut : List (Nat × mv_I) := [(0, .aload_n 0, 1, 0, 0, .null), (1, .iload_n 1, 2, 0, 0, .null), (2, .iload_n 3, 3, 0, 0, .null), (3, .iload_n 2, 4, 0, 0, .null), (4, .invokevirtual 175, 7, 105, 134, .null), (7, .iconst 0, 8, 0, 0, .int 0),
  (8, .istore 4, 10, 0, 0, .null), (10, .iload_n 1, 11, 0, 0, .null), (11, .istore 5, 13, 0, 0, .null), (13, .iload 5, 15, 0, 0, .null), (15, .iload_n 2, 16, 0, 0, .null), (16, .if_icmp .gt 64, 19, 80, 0, .null),
  (19, .iconst 0, 20, 0, 0, .int 0), (20, .istore 6, 22, 0, 0, .null), (22, .iload 6, 24, 0, 0, .null), (24, .aload_n 0, 25, 0, 0, .null), (25, .getfield 99, 28, 11, 1, .ref 124), (28, .if_icmp .ge 46, 31, 74, 0, .null),
  (31, .iload 4, 33, 0, 0, .null), (33, .ifCond .ne 28, 36, 61, 0, .null), (36, .aload_n 0, 37, 0, 0, .null), (37, .getfield 13, 40, 11, 3, .ref 96), (40, .iload 6, 42, 0, 0, .null), (42, .baload, 43, 0, 0, .null),
  (43, .ifCond .eq 22, 46, 65, 0, .null), (46, .aload_n 0, 47, 0, 0, .null), (47, .getfield 48, 50, 11, 16, .ref 107), (50, .iload 5, 52, 0, 0, .null), (52, .iload 6, 54, 0, 0, .null), (54, .invokestatic 154, 57, 99, 131, .null),
  (57, .baload, 58, 0, 0, .null), (58, .ifCond .eq 7, 61, 65, 0, .null), (61, .iconst 1, 62, 0, 0, .int 1), (62, .goto 4, 65, 66, 0, .null), (65, .iconst 0, 66, 0, 0, .int 0), (66, .istore 4, 68, 0, 0, .null),
  (68, .iinc 6 1, 71, 0, 0, .int 1), (71, .goto (-49), 74, 22, 0, .null), (74, .iinc 5 1, 77, 0, 0, .int 1), (77, .goto (-64), 80, 13, 0, .null), (80, .iload 4, 82, 0, 0, .null), (82, .ireturn, 83, 0, 0, .null)]
def pX11_watchers : List (Nat × mv_I) := [(0, .iload_n 1, 1, 0, 0, .null), (1, .ifCond .ne 21, 4, 22, 0, .null), (4, .aload_n 0, 5, 0, 0, .null), (5, .iload 4, 7, 0, 0, .null), (7, .iload 5, 9, 0, 0, .null), (9, .iload_n 3, 10, 0, 0, .null),
  (10, .invokevirtual 188, 13, 108, 145, .null), (13, .ifCond .eq 7, 16, 20, 0, .null), (16, .iconst (-1), 17, 0, 0, .int (-1)), (17, .goto 4, 20, 21, 0, .null), (20, .iload_n 3, 21, 0, 0, .null), (21, .ireturn, 22, 0, 0, .null),
  (22, .iload_n 2, 23, 0, 0, .null), (23, .istore 6, 25, 0, 0, .null), (25, .iload 6, 27, 0, 0, .null), (27, .aload_n 0, 28, 0, 0, .null), (28, .getfield 99, 31, 11, 1, .ref 124), (31, .if_icmp .ge 40, 34, 71, 0, .null),
  (34, .aload_n 0, 35, 0, 0, .null), (35, .iload_n 1, 36, 0, 0, .null), (36, .iconst 1, 37, 0, 0, .int 1), (37, .isub, 38, 0, 0, .null), (38, .iload 6, 40, 0, 0, .null), (40, .iconst 1, 41, 0, 0, .int 1),
  (41, .iadd, 42, 0, 0, .null), (42, .iload_n 3, 43, 0, 0, .null), (43, .iconst 1, 44, 0, 0, .int 1), (44, .iload 6, 46, 0, 0, .null), (46, .ishl, 47, 0, 0, .null), (47, .ior, 48, 0, 0, .null),
  (48, .iload 4, 50, 0, 0, .null), (50, .iload 5, 52, 0, 0, .null), (52, .invokevirtual 191, 55, 109, 146, .null), (55, .istore 7, 57, 0, 0, .null), (57, .iload 7, 59, 0, 0, .null), (59, .ifCond .lt 6, 62, 65, 0, .null),
  (62, .iload 7, 64, 0, 0, .null), (64, .ireturn, 65, 0, 0, .null), (65, .iinc 6 1, 68, 0, 0, .int 1), (68, .goto (-43), 71, 25, 0, .null), (71, .iconst (-1), 72, 0, 0, .int (-1)), (72, .ireturn, 73, 0, 0, .null)]
def pX11_watch : List (Nat × mv_I) := [(0, .aload_n 0, 1, 0, 0, .null), (1, .iconst 0, 2, 0, 0, .int 0), (2, .putfield 96, 5, 11, 0, .ref 123), (5, .iload_n 1, 6, 0, 0, .null), (6, .invokestatic 144, 9, 96, 116, .null), (9, .ifCond .eq 22, 12, 31, 0, .null),
  (12, .iload_n 2, 13, 0, 0, .null), (13, .invokestatic 144, 16, 96, 116, .null), (16, .ifCond .eq 15, 19, 31, 0, .null), (19, .iload_n 2, 20, 0, 0, .null), (20, .iload_n 1, 21, 0, 0, .null), (21, .if_icmp .lt 10, 24, 31, 0, .null),
  (24, .aload_n 0, 25, 0, 0, .null), (25, .getfield 29, 28, 11, 9, .ref 101), (28, .ifCond .ge 5, 31, 33, 0, .null), (31, .iconst (-1), 32, 0, 0, .int (-1)), (32, .ireturn, 33, 0, 0, .null), (33, .iconst 0, 34, 0, 0, .int 0),
  (34, .istore_n 3, 35, 0, 0, .null), (35, .iload_n 3, 36, 0, 0, .null), (36, .iconst 3, 37, 0, 0, .int 3), (37, .if_icmp .gt 85, 40, 122, 0, .null), (40, .aload_n 0, 41, 0, 0, .null), (41, .iload_n 3, 42, 0, 0, .null),
  (42, .iconst 0, 43, 0, 0, .int 0), (43, .iconst 0, 44, 0, 0, .int 0), (44, .iload_n 1, 45, 0, 0, .null), (45, .iload_n 2, 46, 0, 0, .null), (46, .invokevirtual 191, 49, 109, 146, .null), (49, .istore 4, 51, 0, 0, .null),
  (51, .iload 4, 53, 0, 0, .null), (53, .ifCond .ge 6, 56, 59, 0, .null), (56, .goto 60, 59, 116, 0, .null), (59, .aload_n 0, 60, 0, 0, .null), (60, .iconst 0, 61, 0, 0, .int 0), (61, .putfield 131, 64, 11, 18, .ref 130),
  (64, .iconst 0, 65, 0, 0, .int 0), (65, .istore 5, 67, 0, 0, .null), (67, .iload 5, 69, 0, 0, .null), (69, .aload_n 0, 70, 0, 0, .null), (70, .getfield 99, 73, 11, 1, .ref 124), (73, .if_icmp .ge 41, 76, 114, 0, .null),
  (76, .iload 4, 78, 0, 0, .null), (78, .iload 5, 80, 0, 0, .null), (80, .ishr, 81, 0, 0, .null), (81, .iconst 1, 82, 0, 0, .int 1), (82, .iand, 83, 0, 0, .null), (83, .iconst 1, 84, 0, 0, .int 1),
  (84, .if_icmp .ne 24, 87, 108, 0, .null), (87, .aload_n 0, 88, 0, 0, .null), (88, .getfield 54, 91, 11, 19, .ref 109), (91, .aload_n 0, 92, 0, 0, .null), (92, .getfield 131, 95, 11, 18, .ref 130), (95, .iload 5, 97, 0, 0, .null),
  (97, .iastore, 98, 0, 0, .null), (98, .aload_n 0, 99, 0, 0, .null), (99, .dup, 100, 0, 0, .null), (100, .getfield 131, 103, 11, 18, .ref 130), (103, .iconst 1, 104, 0, 0, .int 1), (104, .iadd, 105, 0, 0, .null),
  (105, .putfield 131, 108, 11, 18, .ref 130), (108, .iinc 5 1, 111, 0, 0, .int 1), (111, .goto (-44), 114, 67, 0, .null), (114, .iload_n 3, 115, 0, 0, .null), (115, .ireturn, 116, 0, 0, .null), (116, .iinc 3 1, 119, 0, 0, .int 1),
  (119, .goto (-84), 122, 35, 0, .null), (122, .bipush (-3), 124, 0, 0, .int (-3)), (124, .ireturn, 125, 0, 0, .null)]
def pX11_trait : List (Nat × mv_I) := [(0, .aload_n 0, 1, 0, 0, .null), (1, .iconst 0, 2, 0, 0, .int 0), (2, .putfield 96, 5, 11, 0, .ref 123), (5, .iload_n 1, 6, 0, 0, .null), (6, .i2l, 7, 0, 0, .null), (7, .lconst 0, 8, 0, 0, .long 0),
  (8, .ldc2_w 108, 11, 991, 0, .long 5), (11, .invokestatic 102, 14, 94, 113, .null), (14, .ifCond .eq 29, 17, 43, 0, .null), (17, .iload_n 2, 18, 0, 0, .null), (18, .i2l, 19, 0, 0, .null), (19, .ldc2_w 186, 22, 1113, 0, .long (-1)),
  (22, .ldc2_w 195, 25, 1130, 0, .long 31), (25, .invokestatic 102, 28, 94, 113, .null), (28, .ifCond .eq 15, 31, 43, 0, .null), (31, .iload_n 3, 32, 0, 0, .null), (32, .i2l, 33, 0, 0, .null), (33, .lconst 0, 34, 0, 0, .long 0),
  (34, .ldc2_w 195, 37, 1130, 0, .long 31), (37, .invokestatic 102, 40, 94, 113, .null), (40, .ifCond .ne 5, 43, 45, 0, .null), (43, .iconst 0, 44, 0, 0, .int 0), (44, .ireturn, 45, 0, 0, .null), (45, .aload_n 0, 46, 0, 0, .null),
  (46, .getfield 60, 49, 11, 21, .ref 111), (49, .iload_n 1, 50, 0, 0, .null), (50, .iload_n 2, 51, 0, 0, .null), (51, .iastore, 52, 0, 0, .null), (52, .aload_n 0, 53, 0, 0, .null), (53, .getfield 63, 56, 11, 22, .ref 112),
  (56, .iload_n 1, 57, 0, 0, .null), (57, .iload_n 3, 58, 0, 0, .null), (58, .iastore, 59, 0, 0, .null), (59, .iconst 1, 60, 0, 0, .int 1), (60, .ireturn, 61, 0, 0, .null)]
def pX11_telling : List (Nat × mv_I) := [(0, .aload_n 0, 1, 0, 0, .null), (1, .iconst 0, 2, 0, 0, .int 0), (2, .putfield 96, 5, 11, 0, .ref 123), (5, .iload_n 1, 6, 0, 0, .null), (6, .i2l, 7, 0, 0, .null), (7, .lconst 0, 8, 0, 0, .long 0),
  (8, .ldc2_w 195, 11, 1130, 0, .long 31), (11, .invokestatic 102, 14, 94, 113, .null), (14, .ifCond .ne 5, 17, 19, 0, .null), (17, .iconst (-1), 18, 0, 0, .int (-1)), (18, .ireturn, 19, 0, 0, .null), (19, .iconst 0, 20, 0, 0, .int 0),
  (20, .istore_n 2, 21, 0, 0, .null), (21, .iconst 0, 22, 0, 0, .int 0), (22, .istore_n 3, 23, 0, 0, .null), (23, .iload_n 3, 24, 0, 0, .null), (24, .bipush 6, 26, 0, 0, .int 6), (26, .if_icmp .ge 46, 29, 72, 0, .null),
  (29, .aload_n 0, 30, 0, 0, .null), (30, .getfield 60, 33, 11, 21, .ref 111), (33, .iload_n 3, 34, 0, 0, .null), (34, .iaload, 35, 0, 0, .null), (35, .ifCond .lt 31, 38, 66, 0, .null), (38, .aload_n 0, 39, 0, 0, .null),
  (39, .getfield 63, 42, 11, 22, .ref 112), (42, .iload_n 3, 43, 0, 0, .null), (43, .bipush 31, 45, 0, 0, .int 31), (45, .aload_n 0, 46, 0, 0, .null), (46, .getfield 63, 49, 11, 22, .ref 112), (49, .iload_n 3, 50, 0, 0, .null),
  (50, .iaload, 51, 0, 0, .null), (51, .iload_n 1, 52, 0, 0, .null), (52, .iadd, 53, 0, 0, .null), (53, .invokestatic 138, 56, 1025, 901, .null), (56, .iastore, 57, 0, 0, .null), (57, .iload_n 2, 58, 0, 0, .null),
  (58, .aload_n 0, 59, 0, 0, .null), (59, .getfield 63, 62, 11, 22, .ref 112), (62, .iload_n 3, 63, 0, 0, .null), (63, .iaload, 64, 0, 0, .null), (64, .iadd, 65, 0, 0, .null), (65, .istore_n 2, 66, 0, 0, .null),
  (66, .iinc 3 1, 69, 0, 0, .int 1), (69, .goto (-46), 72, 23, 0, .null), (72, .iload_n 2, 73, 0, 0, .null), (73, .ireturn, 74, 0, 0, .null)]
def pX11_person : List (Nat × mv_I) := [(0, .aload_n 0, 1, 0, 0, .null), (1, .iconst 0, 2, 0, 0, .int 0), (2, .putfield 96, 5, 11, 0, .ref 123), (5, .aload_n 0, 6, 0, 0, .null), (6, .iload_n 1, 7, 0, 0, .null), (7, .invokevirtual 110, 10, 95, 115, .null),
  (10, .ifCond .eq 36, 13, 46, 0, .null), (13, .iload_n 2, 14, 0, 0, .null), (14, .i2l, 15, 0, 0, .null), (15, .lconst 0, 16, 0, 0, .long 0), (16, .ldc2_w 197, 19, 1139, 0, .long 32767), (19, .invokestatic 102, 22, 94, 113, .null),
  (22, .ifCond .eq 24, 25, 46, 0, .null), (25, .iload_n 3, 26, 0, 0, .null), (26, .i2l, 27, 0, 0, .null), (27, .lconst 0, 28, 0, 0, .long 0), (28, .ldc2_w 197, 31, 1139, 0, .long 32767), (31, .invokestatic 102, 34, 94, 113, .null),
  (34, .ifCond .eq 12, 37, 46, 0, .null), (37, .aload_n 0, 38, 0, 0, .null), (38, .getfield 122, 41, 11, 23, .ref 127), (41, .bipush 30, 43, 0, 0, .int 30), (43, .if_icmp .ne 5, 46, 48, 0, .null), (46, .iconst (-1), 47, 0, 0, .int (-1)),
  (47, .ireturn, 48, 0, 0, .null), (48, .aload_n 0, 49, 0, 0, .null), (49, .getfield 66, 52, 11, 24, .ref 113), (52, .aload_n 0, 53, 0, 0, .null), (53, .getfield 122, 56, 11, 23, .ref 127), (56, .iload_n 1, 57, 0, 0, .null),
  (57, .iastore, 58, 0, 0, .null), (58, .iconst 0, 59, 0, 0, .int 0), (59, .istore 4, 61, 0, 0, .null), (61, .iload 4, 63, 0, 0, .null), (63, .bipush 6, 65, 0, 0, .int 6), (65, .if_icmp .ge 48, 68, 113, 0, .null),
  (68, .aload_n 0, 69, 0, 0, .null), (69, .getfield 69, 72, 11, 25, .ref 114), (72, .bipush 6, 74, 0, 0, .int 6), (74, .aload_n 0, 75, 0, 0, .null), (75, .getfield 122, 78, 11, 23, .ref 127), (78, .imul, 79, 0, 0, .null),
  (79, .iload 4, 81, 0, 0, .null), (81, .iadd, 82, 0, 0, .null), (82, .iload 4, 84, 0, 0, .null), (84, .iconst 3, 85, 0, 0, .int 3), (85, .if_icmp .ge 7, 88, 92, 0, .null), (88, .iload_n 2, 89, 0, 0, .null),
  (89, .goto 4, 92, 93, 0, .null), (92, .iload_n 3, 93, 0, 0, .null), (93, .bipush 10, 95, 0, 0, .int 10), (95, .iconst 5, 96, 0, 0, .int 5), (96, .iload 4, 98, 0, 0, .null), (98, .iconst 3, 99, 0, 0, .int 3),
  (99, .irem, 100, 0, 0, .null), (100, .imul, 101, 0, 0, .null), (101, .isub, 102, 0, 0, .null), (102, .ishr, 103, 0, 0, .null), (103, .bipush 31, 105, 0, 0, .int 31), (105, .iand, 106, 0, 0, .null),
  (106, .iastore, 107, 0, 0, .null), (107, .iinc 4 1, 110, 0, 0, .int 1), (110, .goto (-49), 113, 61, 0, .null), (113, .aload_n 0, 114, 0, 0, .null), (114, .dup, 115, 0, 0, .null), (115, .getfield 122, 118, 11, 23, .ref 127),
  (118, .iconst 1, 119, 0, 0, .int 1), (119, .iadd, 120, 0, 0, .null), (120, .putfield 122, 123, 11, 23, .ref 127), (123, .aload_n 0, 124, 0, 0, .null), (124, .getfield 122, 127, 11, 23, .ref 127), (127, .iconst 1, 128, 0, 0, .int 1),
  (128, .isub, 129, 0, 0, .null), (129, .ireturn, 130, 0, 0, .null)]
def pX11_unfit : List (Nat × mv_I) := [(0, .iconst 0, 1, 0, 0, .int 0), (1, .istore_n 2, 2, 0, 0, .null), (2, .iload_n 2, 3, 0, 0, .null), (3, .bipush 6, 5, 0, 0, .int 6), (5, .if_icmp .ge 52, 8, 57, 0, .null), (8, .aload_n 0, 9, 0, 0, .null),
  (9, .getfield 60, 12, 11, 21, .ref 111), (12, .iload_n 2, 13, 0, 0, .null), (13, .iaload, 14, 0, 0, .null), (14, .ifCond .lt 37, 17, 51, 0, .null), (17, .aload_n 0, 18, 0, 0, .null), (18, .getfield 69, 21, 11, 25, .ref 114),
  (21, .bipush 6, 23, 0, 0, .int 6), (23, .iload_n 1, 24, 0, 0, .null), (24, .imul, 25, 0, 0, .null), (25, .iload_n 2, 26, 0, 0, .null), (26, .iadd, 27, 0, 0, .null), (27, .iaload, 28, 0, 0, .null),
  (28, .aload_n 0, 29, 0, 0, .null), (29, .getfield 60, 32, 11, 21, .ref 111), (32, .iload_n 2, 33, 0, 0, .null), (33, .iaload, 34, 0, 0, .null), (34, .isub, 35, 0, 0, .null), (35, .invokestatic 199, 38, 1148, 903, .null),
  (38, .aload_n 0, 39, 0, 0, .null), (39, .getfield 63, 42, 11, 22, .ref 112), (42, .iload_n 2, 43, 0, 0, .null), (43, .iaload, 44, 0, 0, .null), (44, .if_icmp .le 7, 47, 51, 0, .null), (47, .iload_n 2, 48, 0, 0, .null),
  (48, .iconst 1, 49, 0, 0, .int 1), (49, .iadd, 50, 0, 0, .null), (50, .ireturn, 51, 0, 0, .null), (51, .iinc 2 1, 54, 0, 0, .int 1), (54, .goto (-52), 57, 2, 0, .null), (57, .iconst 0, 58, 0, 0, .int 0),
  (58, .ireturn, 59, 0, 0, .null)]
def pX11_fits : List (Nat × mv_I) := [(0, .aload_n 0, 1, 0, 0, .null), (1, .iconst 0, 2, 0, 0, .int 0), (2, .putfield 96, 5, 11, 0, .ref 123), (5, .iload_n 1, 6, 0, 0, .null), (6, .i2l, 7, 0, 0, .null), (7, .lconst 0, 8, 0, 0, .long 0),
  (8, .aload_n 0, 9, 0, 0, .null), (9, .getfield 122, 12, 11, 23, .ref 127), (12, .iconst 1, 13, 0, 0, .int 1), (13, .isub, 14, 0, 0, .null), (14, .i2l, 15, 0, 0, .null), (15, .invokestatic 102, 18, 94, 113, .null),
  (18, .ifCond .eq 11, 21, 29, 0, .null), (21, .aload_n 0, 22, 0, 0, .null), (22, .iload_n 1, 23, 0, 0, .null), (23, .invokevirtual 203, 26, 110, 151, .null), (26, .goto 4, 29, 30, 0, .null), (29, .iconst (-1), 30, 0, 0, .int (-1)),
  (30, .ireturn, 31, 0, 0, .null)]
def pX11_many : List (Nat × mv_I) := [(0, .aload_n 0, 1, 0, 0, .null), (1, .iconst 0, 2, 0, 0, .int 0), (2, .putfield 96, 5, 11, 0, .ref 123), (5, .iload_n 1, 6, 0, 0, .null), (6, .i2l, 7, 0, 0, .null), (7, .ldc2_w 186, 10, 1113, 0, .long (-1)),
  (10, .ldc2_w 108, 13, 991, 0, .long 5), (13, .invokestatic 102, 16, 94, 113, .null), (16, .ifCond .ne 6, 19, 22, 0, .null), (19, .bipush (-2), 21, 0, 0, .int (-2)), (21, .ireturn, 22, 0, 0, .null), (22, .iconst 0, 23, 0, 0, .int 0),
  (23, .istore_n 2, 24, 0, 0, .null), (24, .iconst 0, 25, 0, 0, .int 0), (25, .istore_n 3, 26, 0, 0, .null), (26, .iload_n 3, 27, 0, 0, .null), (27, .aload_n 0, 28, 0, 0, .null), (28, .getfield 122, 31, 11, 23, .ref 127),
  (31, .if_icmp .ge 44, 34, 75, 0, .null), (34, .iload_n 2, 35, 0, 0, .null), (35, .aload_n 0, 36, 0, 0, .null), (36, .iload_n 3, 37, 0, 0, .null), (37, .invokevirtual 203, 40, 110, 151, .null), (40, .ifCond .ne 26, 43, 66, 0, .null),
  (43, .iload_n 1, 44, 0, 0, .null), (44, .ifCond .lt 18, 47, 62, 0, .null), (47, .aload_n 0, 48, 0, 0, .null), (48, .getfield 9, 51, 11, 2, .ref 95), (51, .aload_n 0, 52, 0, 0, .null), (52, .getfield 66, 55, 11, 24, .ref 113),
  (55, .iload_n 3, 56, 0, 0, .null), (56, .iaload, 57, 0, 0, .null), (57, .iaload, 58, 0, 0, .null), (58, .iload_n 1, 59, 0, 0, .null), (59, .if_icmp .ne 7, 62, 66, 0, .null), (62, .iconst 1, 63, 0, 0, .int 1),
  (63, .goto 4, 66, 67, 0, .null), (66, .iconst 0, 67, 0, 0, .int 0), (67, .iadd, 68, 0, 0, .null), (68, .istore_n 2, 69, 0, 0, .null), (69, .iinc 3 1, 72, 0, 0, .int 1), (72, .goto (-46), 75, 26, 0, .null),
  (75, .iload_n 2, 76, 0, 0, .null), (76, .ireturn, 77, 0, 0, .null)]
def pX11_suspects : List (Nat × mv_I) := [(0, .aload_n 0, 1, 0, 0, .null), (1, .iconst 0, 2, 0, 0, .int 0), (2, .putfield 96, 5, 11, 0, .ref 123), (5, .iload_n 1, 6, 0, 0, .null), (6, .invokestatic 144, 9, 96, 116, .null), (9, .ifCond .eq 10, 12, 19, 0, .null),
  (12, .aload_n 0, 13, 0, 0, .null), (13, .getfield 29, 16, 11, 9, .ref 101), (16, .ifCond .ge 5, 19, 21, 0, .null), (19, .iconst (-1), 20, 0, 0, .int (-1)), (20, .ireturn, 21, 0, 0, .null), (21, .aload_n 0, 22, 0, 0, .null),
  (22, .bipush 48, 24, 0, 0, .int 48), (24, .iconst 0, 25, 0, 0, .int 0), (25, .iconst 0, 26, 0, 0, .int 0), (26, .invokevirtual 175, 29, 105, 134, .null), (29, .iconst 0, 30, 0, 0, .int 0), (30, .istore_n 2, 31, 0, 0, .null),
  (31, .iconst 0, 32, 0, 0, .int 0), (32, .istore_n 3, 33, 0, 0, .null), (33, .iload_n 3, 34, 0, 0, .null), (34, .aload_n 0, 35, 0, 0, .null), (35, .getfield 122, 38, 11, 23, .ref 127), (38, .if_icmp .ge 43, 41, 81, 0, .null),
  (41, .iload_n 2, 42, 0, 0, .null), (42, .aload_n 0, 43, 0, 0, .null), (43, .iload_n 3, 44, 0, 0, .null), (44, .invokevirtual 203, 47, 110, 151, .null), (47, .ifCond .ne 25, 50, 72, 0, .null), (50, .aload_n 0, 51, 0, 0, .null),
  (51, .getfield 48, 54, 11, 16, .ref 107), (54, .iload_n 1, 55, 0, 0, .null), (55, .aload_n 0, 56, 0, 0, .null), (56, .getfield 66, 59, 11, 24, .ref 113), (59, .iload_n 3, 60, 0, 0, .null), (60, .iaload, 61, 0, 0, .null),
  (61, .invokestatic 154, 64, 99, 131, .null), (64, .baload, 65, 0, 0, .null), (65, .ifCond .eq 7, 68, 72, 0, .null), (68, .iconst 1, 69, 0, 0, .int 1), (69, .goto 4, 72, 73, 0, .null), (72, .iconst 0, 73, 0, 0, .int 0),
  (73, .iadd, 74, 0, 0, .null), (74, .istore_n 2, 75, 0, 0, .null), (75, .iinc 3 1, 78, 0, 0, .int 1), (78, .goto (-45), 81, 33, 0, .null), (81, .iload_n 2, 82, 0, 0, .null), (82, .ireturn, 83, 0, 0, .null)]
def pX11_sign : List (Nat × mv_I) := [(0, .aload_n 0, 1, 0, 0, .null), (1, .iconst 0, 2, 0, 0, .int 0), (2, .putfield 96, 5, 11, 0, .ref 123), (5, .aload_n 0, 6, 0, 0, .null), (6, .getfield 134, 9, 11, 27, .ref 131), (9, .bipush 96, 11, 0, 0, .int 96),
  (11, .if_icmp .le 5, 14, 16, 0, .null), (14, .iconst (-1), 15, 0, 0, .int (-1)), (15, .ireturn, 16, 0, 0, .null), (16, .iconst 0, 17, 0, 0, .int 0), (17, .istore_n 2, 18, 0, 0, .null), (18, .iload_n 2, 19, 0, 0, .null),
  (19, .iconst 4, 20, 0, 0, .int 4), (20, .if_icmp .ge 33, 23, 53, 0, .null), (23, .aload_n 0, 24, 0, 0, .null), (24, .getfield 72, 27, 11, 26, .ref 115), (27, .aload_n 0, 28, 0, 0, .null), (28, .getfield 134, 31, 11, 27, .ref 131),
  (31, .iload_n 2, 32, 0, 0, .null), (32, .iadd, 33, 0, 0, .null), (33, .iload_n 1, 34, 0, 0, .null), (34, .bipush 24, 36, 0, 0, .int 24), (36, .bipush 8, 38, 0, 0, .int 8), (38, .iload_n 2, 39, 0, 0, .null),
  (39, .imul, 40, 0, 0, .null), (40, .isub, 41, 0, 0, .null), (41, .ishr, 42, 0, 0, .null), (42, .sipush 255, 45, 0, 0, .int 255), (45, .iand, 46, 0, 0, .null), (46, .iastore, 47, 0, 0, .null),
  (47, .iinc 2 1, 50, 0, 0, .int 1), (50, .goto (-32), 53, 18, 0, .null), (53, .aload_n 0, 54, 0, 0, .null), (54, .dup, 55, 0, 0, .null), (55, .getfield 134, 58, 11, 27, .ref 131), (58, .iconst 4, 59, 0, 0, .int 4),
  (59, .iadd, 60, 0, 0, .null), (60, .putfield 134, 63, 11, 27, .ref 131), (63, .aload_n 0, 64, 0, 0, .null), (64, .getfield 134, 67, 11, 27, .ref 131), (67, .ireturn, 68, 0, 0, .null)]
def pX11_end : List (Nat × mv_I) := [(0, .aload_n 0, 1, 0, 0, .null), (1, .iconst 0, 2, 0, 0, .int 0), (2, .putfield 96, 5, 11, 0, .ref 123), (5, .iload_n 1, 6, 0, 0, .null), (6, .i2l, 7, 0, 0, .null), (7, .lconst 0, 8, 0, 0, .long 0),
  (8, .aload_n 0, 9, 0, 0, .null), (9, .getfield 134, 12, 11, 27, .ref 131), (12, .i2l, 13, 0, 0, .null), (13, .invokestatic 102, 16, 94, 113, .null), (16, .ifCond .ne 5, 19, 21, 0, .null), (19, .iconst 0, 20, 0, 0, .int 0),
  (20, .ireturn, 21, 0, 0, .null), (21, .aload_n 0, 22, 0, 0, .null), (22, .iload_n 1, 23, 0, 0, .null), (23, .putfield 134, 26, 11, 27, .ref 131), (26, .iconst 1, 27, 0, 0, .int 1), (27, .ireturn, 28, 0, 0, .null)]
def pX11_isSign : List (Nat × mv_I) := [(0, .aload_n 0, 1, 0, 0, .null), (1, .getfield 206, 4, 11, 34, .ref 132), (4, .iload_n 1, 5, 0, 0, .null), (5, .if_icmp .ge 35, 8, 40, 0, .null), (8, .aload_n 0, 9, 0, 0, .null), (9, .getfield 72, 12, 11, 26, .ref 115),
  (12, .aload_n 0, 13, 0, 0, .null), (13, .getfield 206, 16, 11, 34, .ref 132), (16, .iaload, 17, 0, 0, .null), (17, .ifCond .le 23, 20, 40, 0, .null), (20, .aload_n 2, 21, 0, 0, .null), (21, .aload_n 0, 22, 0, 0, .null),
  (22, .getfield 72, 25, 11, 26, .ref 115), (25, .aload_n 0, 26, 0, 0, .null), (26, .getfield 206, 29, 11, 34, .ref 132), (29, .iaload, 30, 0, 0, .null), (30, .invokevirtual 209, 33, 1182, 904, .null), (33, .ifCond .lt 7, 36, 40, 0, .null),
  (36, .iconst 1, 37, 0, 0, .int 1), (37, .goto 4, 40, 41, 0, .null), (40, .iconst 0, 41, 0, 0, .int 0), (41, .ireturn, 42, 0, 0, .null)]
def pX11_digits : List (Nat × mv_I) := [(0, .aload_n 0, 1, 0, 0, .null), (1, .getfield 206, 4, 11, 34, .ref 132), (4, .istore_n 2, 5, 0, 0, .null), (5, .aload_n 0, 6, 0, 0, .null), (6, .iconst 0, 7, 0, 0, .int 0), (7, .putfield 214, 10, 11, 35, .ref 133),
  (10, .aload_n 0, 11, 0, 0, .null), (11, .getfield 206, 14, 11, 34, .ref 132), (14, .iload_n 2, 15, 0, 0, .null), (15, .iconst 3, 16, 0, 0, .int 3), (16, .iadd, 17, 0, 0, .null), (17, .if_icmp .ge 50, 20, 67, 0, .null),
  (20, .aload_n 0, 21, 0, 0, .null), (21, .iload_n 1, 22, 0, 0, .null), (22, .ldc 217, 24, 1269, 1, .ref 1003), (24, .invokevirtual 219, 27, 111, 157, .null), (27, .ifCond .eq 40, 30, 67, 0, .null), (30, .aload_n 0, 31, 0, 0, .null),
  (31, .bipush 10, 33, 0, 0, .int 10), (33, .aload_n 0, 34, 0, 0, .null), (34, .getfield 214, 37, 11, 35, .ref 133), (37, .imul, 38, 0, 0, .null), (38, .aload_n 0, 39, 0, 0, .null), (39, .getfield 72, 42, 11, 26, .ref 115),
  (42, .aload_n 0, 43, 0, 0, .null), (43, .getfield 206, 46, 11, 34, .ref 132), (46, .iaload, 47, 0, 0, .null), (47, .iadd, 48, 0, 0, .null), (48, .bipush 48, 50, 0, 0, .int 48), (50, .isub, 51, 0, 0, .null),
  (51, .putfield 214, 54, 11, 35, .ref 133), (54, .aload_n 0, 55, 0, 0, .null), (55, .dup, 56, 0, 0, .null), (56, .getfield 206, 59, 11, 34, .ref 132), (59, .iconst 1, 60, 0, 0, .int 1), (60, .iadd, 61, 0, 0, .null),
  (61, .putfield 206, 64, 11, 34, .ref 132), (64, .goto (-54), 67, 10, 0, .null), (67, .aload_n 0, 68, 0, 0, .null), (68, .getfield 206, 71, 11, 34, .ref 132), (71, .iload_n 2, 72, 0, 0, .null), (72, .if_icmp .le 7, 75, 79, 0, .null),
  (75, .iconst 1, 76, 0, 0, .int 1), (76, .goto 4, 79, 80, 0, .null), (79, .iconst 0, 80, 0, 0, .int 0), (80, .ireturn, 81, 0, 0, .null)]
def pX11_ask : List (Nat × mv_I) := [(0, .bipush 10, 2, 0, 0, .int 10), (2, .aload_n 0, 3, 0, 0, .null), (3, .getfield 125, 6, 11, 28, .ref 128), (6, .imul, 7, 0, 0, .null), (7, .aload_n 0, 8, 0, 0, .null), (8, .getfield 75, 11, 11, 29, .ref 116),
  (11, .aload_n 0, 12, 0, 0, .null), (12, .getfield 125, 15, 11, 28, .ref 128), (15, .iaload, 16, 0, 0, .null), (16, .iadd, 17, 0, 0, .null), (17, .istore_n 2, 18, 0, 0, .null), (18, .aload_n 0, 19, 0, 0, .null),
  (19, .iload_n 1, 20, 0, 0, .null), (20, .ldc 223, 22, 1177, 1, .ref 1001), (22, .invokevirtual 219, 25, 111, 157, .null), (25, .ifCond .ne 5, 28, 30, 0, .null), (28, .iconst 0, 29, 0, 0, .int 0), (29, .ireturn, 30, 0, 0, .null),
  (30, .aload_n 0, 31, 0, 0, .null), (31, .getfield 78, 34, 11, 30, .ref 117), (34, .iload_n 2, 35, 0, 0, .null), (35, .aload_n 0, 36, 0, 0, .null), (36, .getfield 72, 39, 11, 26, .ref 115), (39, .aload_n 0, 40, 0, 0, .null),
  (40, .getfield 206, 43, 11, 34, .ref 132), (43, .iaload, 44, 0, 0, .null), (44, .iastore, 45, 0, 0, .null), (45, .aload_n 0, 46, 0, 0, .null), (46, .dup, 47, 0, 0, .null), (47, .getfield 206, 50, 11, 34, .ref 132),
  (50, .iconst 1, 51, 0, 0, .int 1), (51, .iadd, 52, 0, 0, .null), (52, .putfield 206, 55, 11, 34, .ref 132), (55, .aload_n 0, 56, 0, 0, .null), (56, .iload_n 1, 57, 0, 0, .null), (57, .ldc 225, 59, 1264, 1, .ref 1002),
  (59, .invokevirtual 219, 62, 111, 157, .null), (62, .ifCond .ne 5, 65, 67, 0, .null), (65, .iconst 0, 66, 0, 0, .int 0), (66, .ireturn, 67, 0, 0, .null), (67, .aload_n 0, 68, 0, 0, .null), (68, .getfield 81, 71, 11, 31, .ref 118),
  (71, .iload_n 2, 72, 0, 0, .null), (72, .aload_n 0, 73, 0, 0, .null), (73, .getfield 72, 76, 11, 26, .ref 115), (76, .aload_n 0, 77, 0, 0, .null), (77, .getfield 206, 80, 11, 34, .ref 132), (80, .iaload, 81, 0, 0, .null),
  (81, .iastore, 82, 0, 0, .null), (82, .aload_n 0, 83, 0, 0, .null), (83, .dup, 84, 0, 0, .null), (84, .getfield 206, 87, 11, 34, .ref 132), (87, .iconst 1, 88, 0, 0, .int 1), (88, .iadd, 89, 0, 0, .null),
  (89, .putfield 206, 92, 11, 34, .ref 132), (92, .aload_n 0, 93, 0, 0, .null), (93, .iload_n 1, 94, 0, 0, .null), (94, .invokevirtual 227, 97, 112, 158, .null), (97, .ifCond .ne 5, 100, 102, 0, .null), (100, .iconst 0, 101, 0, 0, .int 0),
  (101, .ireturn, 102, 0, 0, .null), (102, .aload_n 0, 103, 0, 0, .null), (103, .getfield 84, 106, 11, 32, .ref 119), (106, .iload_n 2, 107, 0, 0, .null), (107, .aload_n 0, 108, 0, 0, .null), (108, .getfield 214, 111, 11, 35, .ref 133),
  (111, .iastore, 112, 0, 0, .null), (112, .aload_n 0, 113, 0, 0, .null), (113, .getfield 75, 116, 11, 29, .ref 116), (116, .aload_n 0, 117, 0, 0, .null), (117, .getfield 125, 120, 11, 28, .ref 128), (120, .dup2, 121, 0, 0, .null),
  (121, .iaload, 122, 0, 0, .null), (122, .iconst 1, 123, 0, 0, .int 1), (123, .iadd, 124, 0, 0, .null), (124, .iastore, 125, 0, 0, .null), (125, .iconst 1, 126, 0, 0, .int 1), (126, .ireturn, 127, 0, 0, .null)]
def pX11_reads : List (Nat × mv_I) := [(0, .aload_n 0, 1, 0, 0, .null), (1, .iconst 0, 2, 0, 0, .int 0), (2, .putfield 206, 5, 11, 34, .ref 132), (5, .aload_n 0, 6, 0, 0, .null), (6, .getfield 75, 9, 11, 29, .ref 116), (9, .aload_n 0, 10, 0, 0, .null),
  (10, .getfield 125, 13, 11, 28, .ref 128), (13, .iconst 0, 14, 0, 0, .int 0), (14, .iastore, 15, 0, 0, .null), (15, .aload_n 0, 16, 0, 0, .null), (16, .iload_n 1, 17, 0, 0, .null), (17, .invokevirtual 230, 20, 113, 159, .null),
  (20, .ifCond .ne 5, 23, 25, 0, .null), (23, .iconst 0, 24, 0, 0, .int 0), (24, .ireturn, 25, 0, 0, .null), (25, .aload_n 0, 26, 0, 0, .null), (26, .iload_n 1, 27, 0, 0, .null), (27, .ldc 233, 29, 1270, 1, .ref 1004),
  (29, .invokevirtual 219, 32, 111, 157, .null), (32, .ifCond .eq 23, 35, 55, 0, .null), (35, .aload_n 0, 36, 0, 0, .null), (36, .dup, 37, 0, 0, .null), (37, .getfield 206, 40, 11, 34, .ref 132), (40, .iconst 1, 41, 0, 0, .int 1),
  (41, .iadd, 42, 0, 0, .null), (42, .putfield 206, 45, 11, 34, .ref 132), (45, .aload_n 0, 46, 0, 0, .null), (46, .iload_n 1, 47, 0, 0, .null), (47, .invokevirtual 230, 50, 113, 159, .null), (50, .ifCond .ne (-25), 53, 25, 0, .null),
  (53, .iconst 0, 54, 0, 0, .int 0), (54, .ireturn, 55, 0, 0, .null), (55, .aload_n 0, 56, 0, 0, .null), (56, .iload_n 1, 57, 0, 0, .null), (57, .ldc 235, 59, 1271, 1, .ref 1005), (59, .invokevirtual 219, 62, 111, 157, .null),
  (62, .ifCond .ne 5, 65, 67, 0, .null), (65, .iconst 0, 66, 0, 0, .int 0), (66, .ireturn, 67, 0, 0, .null), (67, .aload_n 0, 68, 0, 0, .null), (68, .dup, 69, 0, 0, .null), (69, .getfield 206, 72, 11, 34, .ref 132),
  (72, .iconst 1, 73, 0, 0, .int 1), (73, .iadd, 74, 0, 0, .null), (74, .putfield 206, 77, 11, 34, .ref 132), (77, .aload_n 0, 78, 0, 0, .null), (78, .iload_n 1, 79, 0, 0, .null), (79, .invokevirtual 227, 82, 112, 158, .null),
  (82, .ifCond .ne 5, 85, 87, 0, .null), (85, .iconst 0, 86, 0, 0, .int 0), (86, .ireturn, 87, 0, 0, .null), (87, .aload_n 0, 88, 0, 0, .null), (88, .getfield 87, 91, 11, 33, .ref 120), (91, .aload_n 0, 92, 0, 0, .null),
  (92, .getfield 125, 95, 11, 28, .ref 128), (95, .aload_n 0, 96, 0, 0, .null), (96, .getfield 214, 99, 11, 35, .ref 133), (99, .iastore, 100, 0, 0, .null), (100, .aload_n 0, 101, 0, 0, .null), (101, .getfield 206, 104, 11, 34, .ref 132),
  (104, .iload_n 1, 105, 0, 0, .null), (105, .if_icmp .ne 7, 108, 112, 0, .null), (108, .iconst 1, 109, 0, 0, .int 1), (109, .goto 4, 112, 113, 0, .null), (112, .iconst 0, 113, 0, 0, .int 0), (113, .ireturn, 114, 0, 0, .null)]
def pX11_act : List (Nat × mv_I) := [(0, .aload_n 0, 1, 0, 0, .null), (1, .iconst 0, 2, 0, 0, .int 0), (2, .putfield 96, 5, 11, 0, .ref 123), (5, .aload_n 0, 6, 0, 0, .null), (6, .getfield 134, 9, 11, 27, .ref 131), (9, .istore_n 1, 10, 0, 0, .null),
  (10, .aload_n 0, 11, 0, 0, .null), (11, .iconst 0, 12, 0, 0, .int 0), (12, .putfield 134, 15, 11, 27, .ref 131), (15, .aload_n 0, 16, 0, 0, .null), (16, .getfield 125, 19, 11, 28, .ref 128), (19, .bipush 8, 21, 0, 0, .int 8),
  (21, .if_icmp .ne 6, 24, 27, 0, .null), (24, .bipush (-100), 26, 0, 0, .int (-100)), (26, .ireturn, 27, 0, 0, .null), (27, .aload_n 0, 28, 0, 0, .null), (28, .iload_n 1, 29, 0, 0, .null), (29, .bipush 40, 31, 0, 0, .int 40),
  (31, .invokestatic 138, 34, 1025, 901, .null), (34, .invokevirtual 237, 37, 114, 160, .null), (37, .istore_n 2, 38, 0, 0, .null), (38, .iload_n 1, 39, 0, 0, .null), (39, .bipush 40, 41, 0, 0, .int 40), (41, .if_icmp .le 19, 44, 60, 0, .null),
  (44, .iload_n 2, 45, 0, 0, .null), (45, .ifCond .ne 12, 48, 57, 0, .null), (48, .aload_n 0, 49, 0, 0, .null), (49, .getfield 206, 52, 11, 34, .ref 132), (52, .bipush 40, 54, 0, 0, .int 40), (54, .if_icmp .lt 6, 57, 60, 0, .null),
  (57, .bipush (-41), 59, 0, 0, .int (-41)), (59, .ireturn, 60, 0, 0, .null), (60, .iload_n 2, 61, 0, 0, .null), (61, .ifCond .ne 10, 64, 71, 0, .null), (64, .iconst (-1), 65, 0, 0, .int (-1)), (65, .aload_n 0, 66, 0, 0, .null),
  (66, .getfield 206, 69, 11, 34, .ref 132), (69, .isub, 70, 0, 0, .null), (70, .ireturn, 71, 0, 0, .null), (71, .aload_n 0, 72, 0, 0, .null), (72, .dup, 73, 0, 0, .null), (73, .getfield 125, 76, 11, 28, .ref 128),
  (76, .iconst 1, 77, 0, 0, .int 1), (77, .iadd, 78, 0, 0, .null), (78, .putfield 125, 81, 11, 28, .ref 128), (81, .aload_n 0, 82, 0, 0, .null), (82, .getfield 125, 85, 11, 28, .ref 128), (85, .iconst 1, 86, 0, 0, .int 1),
  (86, .isub, 87, 0, 0, .null), (87, .ireturn, 88, 0, 0, .null)]
def pX11_repeal : List (Nat × mv_I) := [(0, .aload_n 0, 1, 0, 0, .null), (1, .iconst 0, 2, 0, 0, .int 0), (2, .putfield 96, 5, 11, 0, .ref 123), (5, .aload_n 0, 6, 0, 0, .null), (6, .getfield 125, 9, 11, 28, .ref 128), (9, .istore_n 1, 10, 0, 0, .null),
  (10, .aload_n 0, 11, 0, 0, .null), (11, .iconst 0, 12, 0, 0, .int 0), (12, .putfield 125, 15, 11, 28, .ref 128), (15, .iload_n 1, 16, 0, 0, .null), (16, .ireturn, 17, 0, 0, .null)]
def pX11_claim : List (Nat × mv_I) := [(0, .aload_n 0, 1, 0, 0, .null), (1, .iconst 0, 2, 0, 0, .int 0), (2, .putfield 96, 5, 11, 0, .ref 123), (5, .aload_n 0, 6, 0, 0, .null), (6, .iload_n 1, 7, 0, 0, .null), (7, .invokevirtual 110, 10, 95, 115, .null),
  (10, .ifCond .eq 19, 13, 29, 0, .null), (13, .iload_n 2, 14, 0, 0, .null), (14, .invokestatic 144, 17, 96, 116, .null), (17, .ifCond .eq 12, 20, 29, 0, .null), (20, .aload_n 0, 21, 0, 0, .null), (21, .getfield 128, 24, 11, 36, .ref 129),
  (24, .bipush 12, 26, 0, 0, .int 12), (26, .if_icmp .ne 5, 29, 31, 0, .null), (29, .iconst (-1), 30, 0, 0, .int (-1)), (30, .ireturn, 31, 0, 0, .null), (31, .aload_n 0, 32, 0, 0, .null), (32, .getfield 90, 35, 11, 37, .ref 121),
  (35, .aload_n 0, 36, 0, 0, .null), (36, .getfield 128, 39, 11, 36, .ref 129), (39, .iload_n 1, 40, 0, 0, .null), (40, .iastore, 41, 0, 0, .null), (41, .aload_n 0, 42, 0, 0, .null), (42, .getfield 93, 45, 11, 38, .ref 122),
  (45, .aload_n 0, 46, 0, 0, .null), (46, .getfield 128, 49, 11, 36, .ref 129), (49, .iload_n 2, 50, 0, 0, .null), (50, .iastore, 51, 0, 0, .null), (51, .aload_n 0, 52, 0, 0, .null), (52, .dup, 53, 0, 0, .null),
  (53, .getfield 128, 56, 11, 36, .ref 129), (56, .iconst 1, 57, 0, 0, .int 1), (57, .iadd, 58, 0, 0, .null), (58, .putfield 128, 61, 11, 36, .ref 129), (61, .aload_n 0, 62, 0, 0, .null), (62, .getfield 128, 65, 11, 36, .ref 129),
  (65, .iconst 1, 66, 0, 0, .int 1), (66, .isub, 67, 0, 0, .null), (67, .ireturn, 68, 0, 0, .null)]
def pX11_holds : List (Nat × mv_I) := [(0, .iconst 1, 1, 0, 0, .int 1), (1, .istore_n 3, 2, 0, 0, .null), (2, .bipush 10, 4, 0, 0, .int 10), (4, .iload_n 1, 5, 0, 0, .null), (5, .imul, 6, 0, 0, .null), (6, .istore 4, 8, 0, 0, .null),
  (8, .iload 4, 10, 0, 0, .null), (10, .bipush 10, 12, 0, 0, .int 10), (12, .iload_n 1, 13, 0, 0, .null), (13, .imul, 14, 0, 0, .null), (14, .aload_n 0, 15, 0, 0, .null), (15, .getfield 75, 18, 11, 29, .ref 116),
  (18, .iload_n 1, 19, 0, 0, .null), (19, .iaload, 20, 0, 0, .null), (20, .iadd, 21, 0, 0, .null), (21, .if_icmp .ge 135, 24, 156, 0, .null), (24, .aload_n 0, 25, 0, 0, .null), (25, .getfield 78, 28, 11, 30, .ref 117),
  (28, .iload 4, 30, 0, 0, .null), (30, .iaload, 31, 0, 0, .null), (31, .bipush 110, 33, 0, 0, .int 110), (33, .if_icmp .ne 7, 36, 40, 0, .null), (36, .iload_n 2, 37, 0, 0, .null), (37, .goto 35, 40, 72, 0, .null),
  (40, .aload_n 0, 41, 0, 0, .null), (41, .getfield 78, 44, 11, 30, .ref 117), (44, .iload 4, 46, 0, 0, .null), (46, .iaload, 47, 0, 0, .null), (47, .bipush 104, 49, 0, 0, .int 104), (49, .if_icmp .ne 12, 52, 61, 0, .null),
  (52, .aload_n 0, 53, 0, 0, .null), (53, .getfield 93, 56, 11, 38, .ref 122), (56, .iload_n 2, 57, 0, 0, .null), (57, .iaload, 58, 0, 0, .null), (58, .goto 14, 61, 72, 0, .null), (61, .aload_n 0, 62, 0, 0, .null),
  (62, .getfield 9, 65, 11, 2, .ref 95), (65, .aload_n 0, 66, 0, 0, .null), (66, .getfield 90, 69, 11, 37, .ref 121), (69, .iload_n 2, 70, 0, 0, .null), (70, .iaload, 71, 0, 0, .null), (71, .iaload, 72, 0, 0, .null),
  (72, .istore 5, 74, 0, 0, .null), (74, .iload_n 3, 75, 0, 0, .null), (75, .ifCond .eq 73, 78, 148, 0, .null), (78, .aload_n 0, 79, 0, 0, .null), (79, .getfield 81, 82, 11, 31, .ref 118), (82, .iload 4, 84, 0, 0, .null),
  (84, .iaload, 85, 0, 0, .null), (85, .bipush 60, 87, 0, 0, .int 60), (87, .if_icmp .ne 18, 90, 105, 0, .null), (90, .iload 5, 92, 0, 0, .null), (92, .aload_n 0, 93, 0, 0, .null), (93, .getfield 84, 96, 11, 32, .ref 119),
  (96, .iload 4, 98, 0, 0, .null), (98, .iaload, 99, 0, 0, .null), (99, .if_icmp .ge 49, 102, 148, 0, .null), (102, .goto 42, 105, 144, 0, .null), (105, .aload_n 0, 106, 0, 0, .null), (106, .getfield 81, 109, 11, 31, .ref 118),
  (109, .iload 4, 111, 0, 0, .null), (111, .iaload, 112, 0, 0, .null), (112, .bipush 62, 114, 0, 0, .int 62), (114, .if_icmp .ne 18, 117, 132, 0, .null), (117, .iload 5, 119, 0, 0, .null), (119, .aload_n 0, 120, 0, 0, .null),
  (120, .getfield 84, 123, 11, 32, .ref 119), (123, .iload 4, 125, 0, 0, .null), (125, .iaload, 126, 0, 0, .null), (126, .if_icmp .le 22, 129, 148, 0, .null), (129, .goto 15, 132, 144, 0, .null), (132, .iload 5, 134, 0, 0, .null),
  (134, .aload_n 0, 135, 0, 0, .null), (135, .getfield 84, 138, 11, 32, .ref 119), (138, .iload 4, 140, 0, 0, .null), (140, .iaload, 141, 0, 0, .null), (141, .if_icmp .ne 7, 144, 148, 0, .null), (144, .iconst 1, 145, 0, 0, .int 1),
  (145, .goto 4, 148, 149, 0, .null), (148, .iconst 0, 149, 0, 0, .int 0), (149, .istore_n 3, 150, 0, 0, .null), (150, .iinc 4 1, 153, 0, 0, .int 1), (153, .goto (-145), 156, 8, 0, .null), (156, .iload_n 3, 157, 0, 0, .null),
  (157, .ireturn, 158, 0, 0, .null)]
def pX11_weightOf : List (Nat × mv_I) := [(0, .iconst 0, 1, 0, 0, .int 0), (1, .istore_n 2, 2, 0, 0, .null), (2, .iload_n 2, 3, 0, 0, .null), (3, .aload_n 0, 4, 0, 0, .null), (4, .getfield 125, 7, 11, 28, .ref 128), (7, .if_icmp .ge 25, 10, 32, 0, .null),
  (10, .aload_n 0, 11, 0, 0, .null), (11, .iload_n 2, 12, 0, 0, .null), (12, .iload_n 1, 13, 0, 0, .null), (13, .invokevirtual 240, 16, 115, 164, .null), (16, .ifCond .eq 10, 19, 26, 0, .null), (19, .aload_n 0, 20, 0, 0, .null),
  (20, .getfield 87, 23, 11, 33, .ref 120), (23, .iload_n 2, 24, 0, 0, .null), (24, .iaload, 25, 0, 0, .null), (25, .ireturn, 26, 0, 0, .null), (26, .iinc 2 1, 29, 0, 0, .int 1), (29, .goto (-27), 32, 2, 0, .null),
  (32, .iconst 0, 33, 0, 0, .int 0), (33, .ireturn, 34, 0, 0, .null)]
def pX11_weight : List (Nat × mv_I) := [(0, .aload_n 0, 1, 0, 0, .null), (1, .iconst 0, 2, 0, 0, .int 0), (2, .putfield 96, 5, 11, 0, .ref 123), (5, .iload_n 1, 6, 0, 0, .null), (6, .i2l, 7, 0, 0, .null), (7, .lconst 0, 8, 0, 0, .long 0),
  (8, .aload_n 0, 9, 0, 0, .null), (9, .getfield 128, 12, 11, 36, .ref 129), (12, .iconst 1, 13, 0, 0, .int 1), (13, .isub, 14, 0, 0, .null), (14, .i2l, 15, 0, 0, .null), (15, .invokestatic 102, 18, 94, 113, .null),
  (18, .ifCond .eq 11, 21, 29, 0, .null), (21, .aload_n 0, 22, 0, 0, .null), (22, .iload_n 1, 23, 0, 0, .null), (23, .invokevirtual 243, 26, 116, 165, .null), (26, .goto 4, 29, 30, 0, .null), (29, .iconst (-1), 30, 0, 0, .int (-1)),
  (30, .ireturn, 31, 0, 0, .null)]
def pX11_reward : List (Nat × mv_I) := [(0, .aload_n 0, 1, 0, 0, .null), (1, .iconst 0, 2, 0, 0, .int 0), (2, .putfield 96, 5, 11, 0, .ref 123), (5, .iload_n 1, 6, 0, 0, .null), (6, .i2l, 7, 0, 0, .null), (7, .lconst 1, 8, 0, 0, .long 1),
  (8, .ldc2_w 246, 11, 1296, 0, .long 1000000), (11, .invokestatic 102, 14, 94, 113, .null), (14, .ifCond .ne 5, 17, 19, 0, .null), (17, .iconst (-1), 18, 0, 0, .int (-1)), (18, .ireturn, 19, 0, 0, .null), (19, .iconst 0, 20, 0, 0, .int 0),
  (20, .istore_n 2, 21, 0, 0, .null), (21, .iconst 0, 22, 0, 0, .int 0), (22, .istore_n 3, 23, 0, 0, .null), (23, .iconst 0, 24, 0, 0, .int 0), (24, .istore 4, 26, 0, 0, .null), (26, .iload 4, 28, 0, 0, .null),
  (28, .aload_n 0, 29, 0, 0, .null), (29, .getfield 128, 32, 11, 36, .ref 129), (32, .if_icmp .ge 39, 35, 71, 0, .null), (35, .iload_n 2, 36, 0, 0, .null), (36, .aload_n 0, 37, 0, 0, .null), (37, .iload 4, 39, 0, 0, .null),
  (39, .invokevirtual 243, 42, 116, 165, .null), (42, .iadd, 43, 0, 0, .null), (43, .istore_n 2, 44, 0, 0, .null), (44, .aload_n 0, 45, 0, 0, .null), (45, .iload 4, 47, 0, 0, .null), (47, .invokevirtual 243, 50, 116, 165, .null),
  (50, .aload_n 0, 51, 0, 0, .null), (51, .iload_n 3, 52, 0, 0, .null), (52, .invokevirtual 243, 55, 116, 165, .null), (55, .if_icmp .le 8, 58, 63, 0, .null), (58, .iload 4, 60, 0, 0, .null), (60, .goto 4, 63, 64, 0, .null),
  (63, .iload_n 3, 64, 0, 0, .null), (64, .istore_n 3, 65, 0, 0, .null), (65, .iinc 4 1, 68, 0, 0, .int 1), (68, .goto (-42), 71, 26, 0, .null), (71, .iload_n 2, 72, 0, 0, .null), (72, .ifCond .ne 7, 75, 79, 0, .null),
  (75, .iconst 0, 76, 0, 0, .int 0), (76, .goto 4, 79, 80, 0, .null), (79, .iload_n 1, 80, 0, 0, .null), (80, .istore 4, 82, 0, 0, .null), (82, .aload_n 0, 83, 0, 0, .null), (83, .aload_n 0, 84, 0, 0, .null),
  (84, .getfield 128, 87, 11, 36, .ref 129), (87, .putfield 131, 90, 11, 18, .ref 130), (90, .iconst 0, 91, 0, 0, .int 0), (91, .istore 5, 93, 0, 0, .null), (93, .iload 5, 95, 0, 0, .null), (95, .aload_n 0, 96, 0, 0, .null),
  (96, .getfield 128, 99, 11, 36, .ref 129), (99, .if_icmp .ge 50, 102, 149, 0, .null), (102, .aload_n 0, 103, 0, 0, .null), (103, .getfield 54, 106, 11, 19, .ref 109), (106, .iload 5, 108, 0, 0, .null), (108, .iload_n 2, 109, 0, 0, .null),
  (109, .ifCond .ne 7, 112, 116, 0, .null), (112, .iconst 0, 113, 0, 0, .int 0), (113, .goto 17, 116, 130, 0, .null), (116, .iload_n 1, 117, 0, 0, .null), (117, .i2l, 118, 0, 0, .null), (118, .aload_n 0, 119, 0, 0, .null),
  (119, .iload 5, 121, 0, 0, .null), (121, .invokevirtual 243, 124, 116, 165, .null), (124, .i2l, 125, 0, 0, .null), (125, .lmul, 126, 0, 0, .null), (126, .iload_n 2, 127, 0, 0, .null), (127, .i2l, 128, 0, 0, .null),
  (128, .ldiv, 129, 0, 0, .null), (129, .l2i, 130, 0, 0, .null), (130, .iastore, 131, 0, 0, .null), (131, .iload 4, 133, 0, 0, .null), (133, .aload_n 0, 134, 0, 0, .null), (134, .getfield 54, 137, 11, 19, .ref 109),
  (137, .iload 5, 139, 0, 0, .null), (139, .iaload, 140, 0, 0, .null), (140, .isub, 141, 0, 0, .null), (141, .istore 4, 143, 0, 0, .null), (143, .iinc 5 1, 146, 0, 0, .int 1), (146, .goto (-53), 149, 93, 0, .null),
  (149, .iload_n 2, 150, 0, 0, .null), (150, .ifCond .le 14, 153, 164, 0, .null), (153, .aload_n 0, 154, 0, 0, .null), (154, .getfield 54, 157, 11, 19, .ref 109), (157, .iload_n 3, 158, 0, 0, .null), (158, .dup2, 159, 0, 0, .null),
  (159, .iaload, 160, 0, 0, .null), (160, .iload 4, 162, 0, 0, .null), (162, .iadd, 163, 0, 0, .null), (163, .iastore, 164, 0, 0, .null), (164, .iload_n 2, 165, 0, 0, .null), (165, .ifCond .ne 7, 168, 172, 0, .null),
  (168, .iconst 0, 169, 0, 0, .int 0), (169, .goto 4, 172, 173, 0, .null), (172, .iload_n 1, 173, 0, 0, .null), (173, .ireturn, 174, 0, 0, .null)]
def pX11_waive : List (Nat × mv_I) := [(0, .aload_n 0, 1, 0, 0, .null), (1, .iconst 0, 2, 0, 0, .int 0), (2, .putfield 96, 5, 11, 0, .ref 123), (5, .aload_n 0, 6, 0, 0, .null), (6, .getfield 128, 9, 11, 36, .ref 129), (9, .istore_n 1, 10, 0, 0, .null),
  (10, .aload_n 0, 11, 0, 0, .null), (11, .iconst 0, 12, 0, 0, .int 0), (12, .putfield 128, 15, 11, 36, .ref 129), (15, .iload_n 1, 16, 0, 0, .null), (16, .ireturn, 17, 0, 0, .null)]
def pX11_row : List (Nat × mv_I) := [(0, .aload_n 0, 1, 0, 0, .null), (1, .iconst 0, 2, 0, 0, .int 0), (2, .putfield 96, 5, 11, 0, .ref 123), (5, .iload_n 1, 6, 0, 0, .null), (6, .i2l, 7, 0, 0, .null), (7, .lconst 0, 8, 0, 0, .long 0),
  (8, .aload_n 0, 9, 0, 0, .null), (9, .getfield 131, 12, 11, 18, .ref 130), (12, .iconst 1, 13, 0, 0, .int 1), (13, .isub, 14, 0, 0, .null), (14, .i2l, 15, 0, 0, .null), (15, .invokestatic 102, 18, 94, 113, .null),
  (18, .ifCond .eq 12, 21, 30, 0, .null), (21, .aload_n 0, 22, 0, 0, .null), (22, .getfield 54, 25, 11, 19, .ref 109), (25, .iload_n 1, 26, 0, 0, .null), (26, .iaload, 27, 0, 0, .null), (27, .goto 7, 30, 34, 0, .null),
  (30, .aload_n 0, 31, 0, 0, .null), (31, .invokevirtual 248, 34, 117, 114, .null), (34, .ireturn, 35, 0, 0, .null)]
def pJ6_numberOfTrailingZeros_0f7a4 : List (Nat × mv_I) := [(0, .iload_n 0, 1, 0, 0, .null), (1, .iconst (-1), 2, 0, 0, .int (-1)), (2, .ixor, 3, 0, 0, .null), (3, .iload_n 0, 4, 0, 0, .null), (4, .iconst 1, 5, 0, 0, .int 1), (5, .isub, 6, 0, 0, .null),
  (6, .iand, 7, 0, 0, .null), (7, .istore_n 0, 8, 0, 0, .null), (8, .iload_n 0, 9, 0, 0, .null), (9, .ifCond .gt 8, 12, 17, 0, .null), (12, .iload_n 0, 13, 0, 0, .null), (13, .bipush 32, 15, 0, 0, .int 32),
  (15, .iand, 16, 0, 0, .null), (16, .ireturn, 17, 0, 0, .null), (17, .iconst 1, 18, 0, 0, .int 1), (18, .istore_n 1, 19, 0, 0, .null), (19, .iload_n 0, 20, 0, 0, .null), (20, .ldc_w 264, 23, 614, 0, .int 65536),
  (23, .if_icmp .le 11, 26, 34, 0, .null), (26, .iinc 1 16, 29, 0, 0, .int 16), (29, .iload_n 0, 30, 0, 0, .null), (30, .bipush 16, 32, 0, 0, .int 16), (32, .iushr, 33, 0, 0, .null), (33, .istore_n 0, 34, 0, 0, .null),
  (34, .iload_n 0, 35, 0, 0, .null), (35, .sipush 256, 38, 0, 0, .int 256), (38, .if_icmp .le 11, 41, 49, 0, .null), (41, .iinc 1 8, 44, 0, 0, .int 8), (44, .iload_n 0, 45, 0, 0, .null), (45, .bipush 8, 47, 0, 0, .int 8),
  (47, .iushr, 48, 0, 0, .null), (48, .istore_n 0, 49, 0, 0, .null), (49, .iload_n 0, 50, 0, 0, .null), (50, .bipush 16, 52, 0, 0, .int 16), (52, .if_icmp .le 10, 55, 62, 0, .null), (55, .iinc 1 4, 58, 0, 0, .int 4),
  (58, .iload_n 0, 59, 0, 0, .null), (59, .iconst 4, 60, 0, 0, .int 4), (60, .iushr, 61, 0, 0, .null), (61, .istore_n 0, 62, 0, 0, .null), (62, .iload_n 0, 63, 0, 0, .null), (63, .iconst 4, 64, 0, 0, .int 4),
  (64, .if_icmp .le 10, 67, 74, 0, .null), (67, .iinc 1 2, 70, 0, 0, .int 2), (70, .iload_n 0, 71, 0, 0, .null), (71, .iconst 2, 72, 0, 0, .int 2), (72, .iushr, 73, 0, 0, .null), (73, .istore_n 0, 74, 0, 0, .null),
  (74, .iload_n 1, 75, 0, 0, .null), (75, .iload_n 0, 76, 0, 0, .null), (76, .iconst 1, 77, 0, 0, .int 1), (77, .iushr, 78, 0, 0, .null), (78, .iadd, 79, 0, 0, .null), (79, .ireturn, 80, 0, 0, .null)]
abbrev mv_M : Type := MethodName × ByteArray × Nat × Option FieldType × Nat × Nat × Nat × List (Nat × mv_I)
def mv_ms : List mv_M := [(yX0_init, cX0_init, 1, none, 0, 0, 0, pX0_init),
  (yX0_read, cX0_read, 3, (some .int), 1, 0, 0, pX0_read),
  (yX0_takes, cX0_takes, 2, (some .boolean), 1, 0, 0, pX0_takes),
  (yX0_takesLetter, cX0_takesLetter, 3, (some .boolean), 1, 0, 0, pX0_takesLetter),
  (yX0_takesComparison, cX0_takesComparison, 3, (some .boolean), 1, 0, 0, pX0_takesComparison),
  (yX0_takesInNumber, cX0_takesInNumber, 2, (some .boolean), 1, 0, 0, pX0_takesInNumber),
  (yX0_takesInWeight, cX0_takesInWeight, 2, (some .boolean), 1, 0, 0, pX0_takesInWeight),
  (yX0_isDigit, cX0_isDigit, 1, (some .boolean), 1, 0, 0, pX0_isDigit),
  (yX0_isFor, cX0_isFor, 6, (some .boolean), 3, 0, 0, pX0_isFor),
  (yX0_isSo, cX0_isSo, 3, (some .boolean), 3, 0, 0, pX0_isSo),
  (yX1_init, cX1_init, 1, none, 0, 1, 1, pX1_init),
  (yX1_mayBe, cX1_mayBe, 2, (some .int), 1, 1, 1, pX1_mayBe),
  (yX1_mayHaveBeen, cX1_mayHaveBeen, 2, (some .int), 1, 1, 1, pX1_mayHaveBeen),
  (yX1_firstHour, cX1_firstHour, 3, (some .int), 1, 1, 1, pX1_firstHour),
  (yX1_someAgrees, cX1_someAgrees, 1, (some .boolean), 0, 1, 1, pX1_someAgrees),
  (yX1_menders, cX1_menders, 4, (some .long), 0, 1, 1, pX1_menders),
  (yX1_mends, cX1_mends, 3, (some .boolean), 1, 1, 1, pX1_mends),
  (yX1_isUnderWay, cX1_isUnderWay, 4, (some .boolean), 1, 1, 1, pX1_isUnderWay),
  (yX1_heed, cX1_heed, 6, none, 2, 1, 1, pX1_heed),
  (yX1_heedOne, cX1_heedOne, 4, (some .long), 1, 1, 1, pX1_heedOne),
  (yX1_spread, cX1_spread, 5, none, 3, 1, 1, pX1_spread),
  (yX1_cameAt, cX1_cameAt, 4, (some .int), 1, 1, 1, pX1_cameAt),
  (yX1_arrivalsBy, cX1_arrivalsBy, 4, (some .int), 2, 1, 1, pX1_arrivalsBy),
  (yX1_lookOnward, cX1_lookOnward, 3, none, 1, 1, 1, pX1_lookOnward),
  (yX1_goesOnAt, cX1_goesOnAt, 4, (some .int), 1, 1, 1, pX1_goesOnAt),
  (yX1_departuresBy, cX1_departuresBy, 4, (some .int), 2, 1, 1, pX1_departuresBy),
  (yX1_isClear, cX1_isClear, 6, (some .boolean), 3, 1, 1, pX1_isClear),
  (yX1_cameBy, cX1_cameBy, 4, (some .int), 2, 1, 1, pX1_cameBy),
  (yX1_tellWay, cX1_tellWay, 8, none, 3, 1, 1, pX1_tellWay),
  (yX1_wayBits, cX1_wayBits, 9, (some .int), 3, 1, 1, pX1_wayBits),
  (yX2_init, cX2_init, 2, none, 0, 2, 2, pX2_init),
  (yX2_enact, cX2_enact, 3, (some .int), 1, 2, 2, pX2_enact),
  (yX2_lodge, cX2_lodge, 3, (some .int), 2, 2, 2, pX2_lodge),
  (yX2_weigh, cX2_weigh, 3, (some .int), 1, 2, 2, pX2_weigh),
  (yX2_share, cX2_share, 8, (some .int), 2, 2, 2, pX2_share),
  (yX3_init, cX3_init, 1, none, 0, 3, 3, pX3_init),
  (yX3_add, cX3_add, 5, (some .int), 3, 3, 3, pX3_add),
  (yX3_misfit, cX3_misfit, 4, (some .int), 1, 3, 3, pX3_misfit),
  (yX3_fittingOf, cX3_fittingOf, 4, (some .int), 1, 3, 3, pX3_fittingOf),
  (yX4_init, cX4_init, 2, none, 0, 4, 4, pX4_init),
  (yX4_set, cX4_set, 6, (some .boolean), 3, 4, 4, pX4_set),
  (yX4_tellOn, cX4_tellOn, 4, (some .int), 1, 4, 4, pX4_tellOn),
  (yX4_agrees, cX4_agrees, 3, (some .boolean), 2, 4, 4, pX4_agrees),
  (yX5_init, cX5_init, 1, none, 0, 5, 5, pX5_init),
  (yX5_add, cX5_add, 4, (some .int), 3, 5, 5, pX5_add),
  (yX5_standing, cX5_standing, 3, (some .int), 0, 5, 5, pX5_standing),
  (yX6_init, cX6_init, 1, none, 0, 6, 6, pX6_init),
  (yX6_hasParish, cX6_hasParish, 2, (some .boolean), 1, 6, 6, pX6_hasParish),
  (yX6_hasRoad, cX6_hasRoad, 2, (some .boolean), 1, 6, 6, pX6_hasRoad),
  (yX6_addParish, cX6_addParish, 2, (some .int), 1, 6, 6, pX6_addParish),
  (yX6_addRoad, cX6_addRoad, 5, (some .int), 3, 6, 6, pX6_addRoad),
  (yX6_parishesOf, cX6_parishesOf, 4, (some .int), 1, 6, 6, pX6_parishesOf),
  (yX6_startBit, cX6_startBit, 1, (some .int), 0, 6, 6, pX6_startBit),
  (yX6_across, cX6_across, 5, (some .int), 2, 6, 6, pX6_across),
  (yX6_otherEnd, cX6_otherEnd, 3, (some .int), 2, 6, 6, pX6_otherEnd),
  (yX6_shortest, cX6_shortest, 6, (some .int), 2, 6, 6, pX6_shortest),
  (yX6_shorten, cX6_shorten, 5, (some .boolean), 3, 6, 6, pX6_shorten),
  (yX7_init, cX7_init, 1, none, 0, 7, 7, pX7_init),
  (yX7_fewest, cX7_fewest, 7, (some .int), 2, 7, 7, pX7_fewest),
  (yX7_tellPicks, cX7_tellPicks, 4, none, 2, 7, 7, pX7_tellPicks),
  (yX7_pickLowest, cX7_pickLowest, 3, none, 1, 7, 7, pX7_pickLowest),
  (yX7_pickNext, cX7_pickNext, 4, (some .boolean), 1, 7, 7, pX7_pickNext),
  (yX7_picked, cX7_picked, 4, (some .int), 1, 7, 7, pX7_picked),
  (yX7_misses, cX7_misses, 3, (some .boolean), 1, 7, 7, pX7_misses),
  (yX7_escapes, cX7_escapes, 5, (some .boolean), 1, 7, 7, pX7_escapes),
  (yX8_init, cX8_init, 1, none, 0, 8, 8, pX8_init),
  (yX8_add, cX8_add, 2, none, 1, 8, 8, pX8_add),
  (yX8_turnRound, cX8_turnRound, 4, none, 0, 8, 8, pX8_turnRound),
  (yX9_init, cX9_init, 1, none, 0, 9, 9, pX9_init),
  (yX9_addFour, cX9_addFour, 3, (some .int), 1, 9, 9, pX9_addFour),
  (yX9_cut, cX9_cut, 2, (some .boolean), 1, 9, 9, pX9_cut),
  (yX10_init, cX10_init, 1, none, 0, 10, 10, pX10_init),
  (yX10_parish, cX10_parish, 2, (some .int), 1, 10, 10, pX10_parish),
  (yX10_road, cX10_road, 4, (some .int), 3, 10, 10, pX10_road),
  (yX10_shut, cX10_shut, 3, (some .boolean), 2, 10, 10, pX10_shut),
  (yX10_exit, cX10_exit, 3, (some .boolean), 2, 10, 10, pX10_exit),
  (yX10_begin, cX10_begin, 2, (some .boolean), 1, 10, 10, pX10_begin),
  (yX10_count, cX10_count, 2, (some .int), 1, 10, 10, pX10_count),
  (yX10_far, cX10_far, 3, (some .int), 2, 10, 10, pX10_far),
  (yX10_seen, cX10_seen, 3, (some .int), 2, 10, 10, pX10_seen),
  (yX10_vain, cX10_vain, 3, (some .int), 2, 10, 10, pX10_vain),
  (yX10_guarded, cX10_guarded, 3, (some .int), 2, 10, 10, pX10_guarded),
  (yX10_strike, cX10_strike, 3, (some .boolean), 2, 10, 10, pX10_strike),
  (yX10_may, cX10_may, 3, (some .int), 2, 10, 10, pX10_may),
  (yX10_was, cX10_was, 3, (some .int), 2, 10, 10, pX10_was),
  (yX10_places, cX10_places, 3, (some .int), 2, 10, 10, pX10_places),
  (yX10_first, cX10_first, 2, (some .int), 1, 10, 10, pX10_first),
  (yX10_trail, cX10_trail, 3, (some .int), 2, 10, 10, pX10_trail),
  (yX10_quarrel, cX10_quarrel, 1, (some .long), 0, 10, 10, pX10_quarrel),
  (yX10_watch, cX10_watch, 4, (some .int), 2, 10, 10, pX10_watch),
  (yX10_trait, cX10_trait, 4, (some .boolean), 3, 10, 10, pX10_trait),
  (yX10_telling, cX10_telling, 2, (some .int), 1, 10, 10, pX10_telling),
  (yX10_person, cX10_person, 4, (some .int), 3, 10, 10, pX10_person),
  (yX10_fits, cX10_fits, 2, (some .int), 1, 10, 10, pX10_fits),
  (yX10_many, cX10_many, 2, (some .int), 1, 10, 10, pX10_many),
  (yX10_suspects, cX10_suspects, 2, (some .int), 1, 10, 10, pX10_suspects),
  (yX10_sign, cX10_sign, 2, (some .int), 1, 10, 10, pX10_sign),
  (yX10_end, cX10_end, 2, (some .boolean), 1, 10, 10, pX10_end),
  (yX10_act, cX10_act, 2, (some .int), 0, 10, 10, pX10_act),
  (yX10_repeal, cX10_repeal, 2, (some .int), 0, 10, 10, pX10_repeal),
  (yX10_claim, cX10_claim, 3, (some .int), 2, 10, 10, pX10_claim),
  (yX10_weight, cX10_weight, 2, (some .int), 1, 10, 10, pX10_weight),
  (yX10_reward, cX10_reward, 2, (some .int), 1, 10, 10, pX10_reward),
  (yX10_waive, cX10_waive, 2, (some .int), 0, 10, 10, pX10_waive),
  (yX10_row, cX10_row, 2, (some .int), 1, 10, 10, pX10_row),
  (yX10_canAsk, cX10_canAsk, 3, (some .boolean), 2, 10, 10, pX10_canAsk),
  (yX10_isHour, cX10_isHour, 1, (some .boolean), 1, 0, 10, pX10_isHour),
  (yX10_isCounty, cX10_isCounty, 1, (some .boolean), 1, 0, 10, pX10_isCounty),
  (yX10_isNumber, cX10_isNumber, 1, (some .boolean), 1, 0, 10, pX10_isNumber),
  (yX10_bit, cX10_bit, 1, (some .int), 1, 0, 10, pX10_bit),
  (yX10_has, cX10_has, 2, (some .boolean), 2, 0, 10, pX10_has),
  (yX11_init, cX11_init, 1, none, 0, 11, 11, pX11_init),
  (yX11_thrown, cX11_thrown, 1, (some .int), 0, 11, 11, pX11_thrown),
  (yX11_in, cX11_in, 6, (some .boolean), 3, 0, 11, pX11_in),
  (yX11_refuse, cX11_refuse, 1, (some .int), 0, 11, 11, pX11_refuse),
  (yX11_isParish, cX11_isParish, 2, (some .boolean), 1, 11, 11, pX11_isParish),
  (yX11_isHour, cX11_isHour, 1, (some .boolean), 1, 0, 11, pX11_isHour),
  (yX11_parish, cX11_parish, 2, (some .int), 1, 11, 11, pX11_parish),
  (yX11_road, cX11_road, 4, (some .int), 3, 11, 11, pX11_road),
  (yX11_shut, cX11_shut, 3, (some .boolean), 2, 11, 11, pX11_shut),
  (yX11_exit, cX11_exit, 3, (some .boolean), 2, 11, 11, pX11_exit),
  (yX11_begin, cX11_begin, 2, (some .boolean), 1, 11, 11, pX11_begin),
  (yX11_count, cX11_count, 4, (some .int), 1, 11, 11, pX11_count),
  (yX11_far, cX11_far, 7, (some .int), 2, 11, 11, pX11_far),
  (yX11_fact, cX11_fact, 5, (some .int), 4, 11, 11, pX11_fact),
  (yX11_seen, cX11_seen, 3, (some .int), 2, 11, 11, pX11_seen),
  (yX11_vain, cX11_vain, 3, (some .int), 2, 11, 11, pX11_vain),
  (yX11_guarded, cX11_guarded, 3, (some .int), 2, 11, 11, pX11_guarded),
  (yX11_strike, cX11_strike, 3, (some .boolean), 2, 11, 11, pX11_strike),
  (yX11_letsIn, cX11_letsIn, 5, (some .boolean), 2, 11, 11, pX11_letsIn),
  (yX11_isClear, cX11_isClear, 6, (some .boolean), 3, 11, 11, pX11_isClear),
  (yX11_cell, cX11_cell, 2, (some .int), 2, 0, 11, pX11_cell),
  (yX11_other, cX11_other, 3, (some .int), 2, 11, 11, pX11_other),
  (yX11_mayCome, cX11_mayCome, 7, (some .boolean), 4, 11, 11, pX11_mayCome),
  (yX11_walks, cX11_walks, 8, none, 3, 11, 11, pX11_walks),
  (yX11_walksOn, cX11_walksOn, 5, none, 0, 11, 11, pX11_walksOn),
  (yX11_mayGo, cX11_mayGo, 6, (some .boolean), 3, 11, 11, pX11_mayGo),
  (yX11_isAsked, cX11_isAsked, 3, (some .boolean), 2, 11, 11, pX11_isAsked),
  (yX11_may, cX11_may, 3, (some .int), 2, 11, 11, pX11_may),
  (yX11_was, cX11_was, 3, (some .int), 2, 11, 11, pX11_was),
  (yX11_places, cX11_places, 5, (some .int), 2, 11, 11, pX11_places),
  (yX11_first, cX11_first, 3, (some .int), 1, 11, 11, pX11_first),
  (yX11_trail, cX11_trail, 7, (some .int), 2, 11, 11, pX11_trail),
  (yX11_agrees, cX11_agrees, 1, (some .boolean), 0, 11, 11, pX11_agrees),
  (yX11_quarrel, cX11_quarrel, 4, (some .long), 0, 11, 11, pX11_quarrel),
  (yX11_getsOut, cX11_getsOut, 7, (some .boolean), 3, 11, 11, pX11_getsOut),
  (yX11_watchers, cX11_watchers, 8, (some .int), 5, 11, 11, pX11_watchers),
  (yX11_watch, cX11_watch, 6, (some .int), 2, 11, 11, pX11_watch),
  (yX11_trait, cX11_trait, 4, (some .boolean), 3, 11, 11, pX11_trait),
  (yX11_telling, cX11_telling, 4, (some .int), 1, 11, 11, pX11_telling),
  (yX11_person, cX11_person, 5, (some .int), 3, 11, 11, pX11_person),
  (yX11_unfit, cX11_unfit, 3, (some .int), 1, 11, 11, pX11_unfit),
  (yX11_fits, cX11_fits, 2, (some .int), 1, 11, 11, pX11_fits),
  (yX11_many, cX11_many, 4, (some .int), 1, 11, 11, pX11_many),
  (yX11_suspects, cX11_suspects, 4, (some .int), 1, 11, 11, pX11_suspects),
  (yX11_sign, cX11_sign, 3, (some .int), 1, 11, 11, pX11_sign),
  (yX11_end, cX11_end, 2, (some .boolean), 1, 11, 11, pX11_end),
  (yX11_isSign, cX11_isSign, 3, (some .boolean), 2, 11, 11, pX11_isSign),
  (yX11_digits, cX11_digits, 3, (some .boolean), 1, 11, 11, pX11_digits),
  (yX11_ask, cX11_ask, 3, (some .boolean), 1, 11, 11, pX11_ask),
  (yX11_reads, cX11_reads, 2, (some .boolean), 1, 11, 11, pX11_reads),
  (yX11_act, cX11_act, 3, (some .int), 0, 11, 11, pX11_act),
  (yX11_repeal, cX11_repeal, 2, (some .int), 0, 11, 11, pX11_repeal),
  (yX11_claim, cX11_claim, 3, (some .int), 2, 11, 11, pX11_claim),
  (yX11_holds, cX11_holds, 6, (some .boolean), 2, 11, 11, pX11_holds),
  (yX11_weightOf, cX11_weightOf, 3, (some .int), 1, 11, 11, pX11_weightOf),
  (yX11_weight, cX11_weight, 2, (some .int), 1, 11, 11, pX11_weight),
  (yX11_reward, cX11_reward, 6, (some .int), 1, 11, 11, pX11_reward),
  (yX11_waive, cX11_waive, 2, (some .int), 0, 11, 11, pX11_waive),
  (yX11_row, cX11_row, 2, (some .int), 1, 11, 11, pX11_row),
  (yJ6_numberOfTrailingZeros_0f7a4, cJ6_numberOfTrailingZeros_0f7a4, 2, (some .int), 1, 0, 13, pJ6_numberOfTrailingZeros_0f7a4)]
def mv_m (k : Nat) : mv_M := mv_ms.getD k (objectInit, ⟨#[]⟩, 0, none, 0, 0, 0, [])
end
section
def mv_cn : List String := [RX0, RX1, RX2, RX3, RX4, RX5, RX6, RX7, RX8, RX9, RX10, RX11, "HueAndCryLaw", "java/lang/Integer"]
def mv_own (k : Nat) : String := mv_cn.getD k ""
def mv_TB : List Cond := lw_tbl.filter goodWord
/-- the fields' links: class, entry, class of the field, its slot, the word's place, of a nest mate -/
def mv_fl : List (Nat × Nat × Nat × Nat × Nat × Nat) := [(0, 9, 0, 0, 276, 0), (0, 15, 0, 1, 277, 0), (0, 18, 0, 2, 278, 0), (0, 21, 0, 3, 279, 0), (0, 25, 0, 4, 280, 0), (0, 28, 0, 5, 282, 0), (0, 31, 0, 6, 283, 0), (0, 34, 9, 1, 256, 1), (0, 39, 9, 0, 254, 1), (1, 12, 1, 0, 166, 0), (1, 21, 1, 1, 169, 0), (1, 25, 1, 2, 171, 0), (1, 29, 1, 3, 172, 0), (1, 33, 1, 4, 173, 0), (1, 36, 1, 5, 175, 0), (1, 59, 5, 4, 153, 1), (1, 63, 5, 3, 150, 1), (1, 71, 5, 2, 148, 1), (1, 84, 6, 7, 108, 1), (1, 87, 6, 4, 100, 1), (1, 101, 5, 1, 146, 1), (1, 104, 5, 0, 144, 1), (1, 123, 8, 1, 333, 1), (2, 11, 2, 0, 299, 0), (2, 17, 2, 1, 300, 0), (2, 21, 2, 2, 301, 0), (2, 24, 2, 3, 302, 0), (2, 27, 2, 4, 303, 0), (2, 31, 2, 5, 305, 0), (2, 47, 0, 4, 281, 1), (2, 54, 8, 1, 331, 1), (2, 63, 8, 0, 327, 1), (3, 12, 3, 0, 232, 0), (3, 18, 3, 1, 234, 0), (3, 22, 3, 2, 235, 0), (3, 25, 3, 3, 236, 0), (4, 9, 4, 0, 225, 0), (4, 15, 4, 1, 226, 0), (5, 9, 5, 0, 143, 0), (5, 15, 5, 1, 145, 0), (5, 18, 5, 2, 147, 0), (5, 21, 5, 3, 149, 0), (5, 25, 5, 4, 152, 0), (6, 9, 6, 0, 94, 0), (6, 15, 6, 1, 96, 0), (6, 18, 6, 2, 97, 0), (6, 21, 6, 3, 98, 0), (6, 24, 6, 4, 99, 0), (6, 27, 6, 5, 101, 0), (6, 31, 6, 6, 103, 0), (6, 35, 6, 7, 106, 0), (6, 38, 6, 8, 109, 0), (6, 41, 6, 9, 112, 0), (7, 12, 7, 0, 190, 0), (7, 18, 1, 0, 167, 1), (7, 22, 7, 1, 192, 0), (7, 23, 7, 2, 193, 0), (7, 27, 7, 3, 194, 0), (7, 30, 7, 4, 195, 0), (7, 34, 7, 5, 196, 0), (7, 37, 7, 6, 197, 0), (7, 48, 6, 6, 104, 1), (7, 71, 8, 1, 330, 1), (7, 82, 1, 4, 174, 1), (7, 85, 6, 8, 111, 1), (8, 9, 8, 0, 326, 0), (8, 15, 8, 1, 329, 0), (9, 9, 9, 0, 253, 0), (9, 15, 9, 1, 255, 0), (10, 10, 10, 0, 339, 0), (10, 16, 7, 0, 191, 1), (10, 20, 10, 1, 340, 0), (10, 21, 1, 0, 168, 1), (10, 27, 10, 2, 341, 0), (10, 28, 1, 1, 170, 1), (10, 32, 10, 3, 342, 0), (10, 36, 10, 4, 343, 0), (10, 43, 10, 5, 344, 0), (10, 50, 10, 6, 345, 0), (10, 57, 10, 7, 346, 0), (10, 75, 6, 5, 102, 1), (10, 82, 6, 8, 110, 1), (10, 89, 6, 9, 113, 1), (10, 92, 6, 6, 105, 1), (10, 95, 6, 7, 107, 1), (10, 98, 5, 4, 154, 1), (10, 107, 3, 3, 237, 1), (10, 108, 2, 4, 304, 1), (10, 111, 2, 5, 306, 1), (10, 114, 8, 1, 332, 1), (10, 115, 9, 1, 257, 1), (10, 123, 5, 3, 151, 1), (10, 166, 3, 0, 233, 1), (10, 205, 6, 0, 95, 1), (10, 227, 8, 0, 328, 1), (11, 9, 11, 2, 867, 0), (11, 13, 11, 3, 868, 0), (11, 17, 11, 5, 870, 0), (11, 20, 11, 6, 871, 0), (11, 23, 11, 7, 872, 0), (11, 26, 11, 8, 873, 0), (11, 29, 11, 9, 874, 0), (11, 33, 11, 10, 875, 0), (11, 36, 11, 12, 877, 0), (11, 39, 11, 13, 878, 0), (11, 42, 11, 14, 879, 0), (11, 45, 11, 15, 880, 0), (11, 48, 11, 16, 881, 0), (11, 51, 11, 17, 882, 0), (11, 54, 11, 19, 884, 0), (11, 57, 11, 20, 885, 0), (11, 60, 11, 21, 886, 0), (11, 63, 11, 22, 887, 0), (11, 66, 11, 24, 889, 0), (11, 69, 11, 25, 890, 0), (11, 72, 11, 26, 891, 0), (11, 75, 11, 29, 894, 0), (11, 78, 11, 30, 895, 0), (11, 81, 11, 31, 896, 0), (11, 84, 11, 32, 897, 0), (11, 87, 11, 33, 898, 0), (11, 90, 11, 37, 902, 0), (11, 93, 11, 38, 903, 0), (11, 96, 11, 0, 865, 0), (11, 99, 11, 1, 866, 0), (11, 116, 11, 4, 869, 0), (11, 119, 11, 11, 876, 0), (11, 122, 11, 23, 888, 0), (11, 125, 11, 28, 893, 0), (11, 128, 11, 36, 901, 0), (11, 131, 11, 18, 883, 0), (11, 134, 11, 27, 892, 0), (11, 206, 11, 34, 899, 0), (11, 214, 11, 35, 900, 0)]
/-- the calls: class, entry, method, kind, of a nest mate, the places of link, kind, choice, code -/
def mv_cl : List (Nat × Nat × Nat × Nat × Nat × Nat × Nat × Nat × Nat) := [(0, 42, 2, 0, 0, 719, 721, 17, 722), (0, 46, 3, 0, 0, 723, 725, 18, 726), (0, 49, 4, 0, 0, 727, 729, 19, 730), (0, 52, 5, 0, 0, 731, 733, 20, 734), (0, 55, 6, 0, 0, 738, 740, 21, 741), (0, 58, 7, 1, 0, 735, 736, 0, 737), (0, 61, 9, 1, 0, 767, 768, 0, 769), (1, 11, 46, 2, 1, 90, 91, 0, 92), (1, 20, 43, 2, 1, 139, 140, 0, 141), (1, 39, 18, 0, 0, 463, 464, 465, 466), (1, 43, 20, 0, 0, 472, 473, 474, 475), (1, 47, 23, 0, 0, 508, 510, 6, 511), (1, 51, 110, 1, 1, 535, 498, 0, 499), (1, 55, 52, 0, 0, 480, 481, 482, 483), (1, 67, 16, 0, 0, 573, 575, 10, 576), (1, 74, 21, 0, 0, 476, 478, 3, 479), (1, 78, 24, 0, 0, 512, 514, 7, 515), (1, 81, 17, 0, 0, 577, 579, 11, 580), (1, 94, 25, 0, 0, 516, 518, 8, 519), (1, 97, 19, 0, 0, 467, 469, 2, 470), (1, 107, 109, 1, 1, 471, 401, 0, 402), (1, 110, 22, 0, 0, 485, 487, 4, 488), (1, 113, 26, 0, 0, 489, 491, 5, 492), (1, 117, 53, 0, 0, 493, 494, 495, 496), (1, 126, 66, 0, 0, 544, 545, 546, 547), (1, 129, 27, 0, 0, 548, 550, 9, 551), (1, 132, 54, 0, 0, 552, 553, 554, 555), (1, 135, 67, 0, 0, 556, 557, 558, 559), (2, 34, 0, 2, 1, 272, 273, 0, 274), (2, 35, 1, 0, 0, 715, 716, 717, 718), (2, 39, 106, 1, 1, 754, 436, 0, 437), (2, 43, 8, 0, 0, 763, 764, 765, 766), (2, 50, 33, 0, 0, 779, 760, 761, 762), (2, 59, 66, 0, 0, 780, 545, 546, 547), (3, 11, 39, 2, 0, 221, 222, 0, 223), (3, 29, 42, 0, 0, 665, 666, 667, 668), (3, 33, 110, 1, 1, 680, 498, 0, 499), (3, 36, 37, 0, 0, 681, 662, 663, 664), (4, 18, 108, 1, 1, 636, 637, 0, 638), (5, 29, 106, 1, 1, 435, 436, 0, 437), (6, 44, 107, 1, 1, 372, 373, 0, 374), (6, 48, 47, 0, 0, 383, 384, 385, 386), (6, 51, 109, 1, 1, 484, 401, 0, 402), (6, 55, 56, 0, 0, 423, 425, 0, 426), (7, 11, 10, 2, 1, 84, 85, 0, 86), (7, 40, 18, 0, 0, 592, 464, 465, 466), (7, 44, 20, 0, 0, 593, 473, 474, 475), (7, 53, 60, 0, 0, 594, 596, 12, 597), (7, 57, 62, 0, 0, 598, 600, 13, 601), (7, 61, 63, 0, 0, 603, 605, 14, 606), (7, 65, 64, 0, 0, 607, 609, 15, 610), (7, 68, 61, 0, 0, 619, 621, 16, 622), (7, 76, 66, 0, 0, 627, 545, 546, 547), (7, 79, 109, 1, 1, 602, 401, 0, 402), (7, 88, 170, 1, 0, 611, 612, 0, 613), (7, 93, 29, 0, 0, 615, 616, 617, 618), (10, 9, 57, 2, 1, 78, 79, 0, 80), (10, 35, 35, 2, 1, 215, 216, 0, 217), (10, 42, 68, 2, 1, 249, 250, 0, 251), (10, 49, 30, 2, 0, 265, 266, 0, 267), (10, 56, 65, 2, 1, 322, 323, 0, 324), (10, 61, 49, 0, 0, 368, 369, 370, 371), (10, 67, 50, 0, 0, 379, 380, 381, 382), (10, 71, 48, 0, 0, 391, 392, 393, 394), (10, 79, 47, 0, 0, 399, 384, 385, 386), (10, 86, 109, 1, 0, 400, 401, 0, 402), (10, 103, 45, 0, 0, 411, 412, 413, 414), (10, 116, 55, 0, 0, 419, 420, 421, 422), (10, 120, 44, 0, 0, 431, 432, 433, 434), (10, 126, 105, 0, 0, 454, 456, 1, 457), (10, 130, 11, 0, 0, 459, 460, 461, 462), (10, 133, 110, 1, 0, 497, 498, 0, 499), (10, 136, 12, 0, 0, 504, 505, 506, 507), (10, 139, 106, 1, 0, 458, 436, 0, 437), (10, 142, 13, 0, 0, 531, 532, 533, 534), (10, 145, 28, 0, 0, 540, 541, 542, 543), (10, 149, 14, 0, 0, 564, 565, 566, 567), (10, 155, 15, 0, 0, 569, 570, 571, 572), (10, 159, 58, 0, 0, 588, 589, 590, 591), (10, 162, 59, 0, 0, 623, 624, 625, 626), (10, 170, 40, 0, 0, 632, 633, 634, 635), (10, 176, 108, 1, 0, 643, 637, 0, 638), (10, 179, 41, 0, 0, 644, 645, 646, 647), (10, 182, 36, 0, 0, 653, 654, 655, 656), (10, 183, 37, 0, 0, 661, 662, 663, 664), (10, 186, 38, 0, 0, 676, 677, 678, 679), (10, 189, 107, 1, 0, 682, 373, 0, 374), (10, 192, 51, 0, 0, 683, 684, 685, 686), (10, 195, 69, 0, 0, 695, 696, 697, 698), (10, 198, 70, 0, 0, 703, 704, 705, 706), (10, 201, 31, 0, 0, 711, 712, 713, 714), (10, 209, 32, 0, 0, 750, 751, 752, 753), (10, 212, 33, 0, 0, 759, 760, 761, 762), (10, 216, 34, 0, 0, 775, 776, 777, 778), (11, 102, 113, 1, 0, 992, 993, 0, 994), (11, 110, 115, 0, 0, 999, 1001, 23, 1002), (11, 144, 116, 1, 0, 1034, 1035, 0, 1036), (11, 147, 124, 0, 0, 1030, 1032, 24, 1033), (11, 151, 132, 0, 0, 1069, 1071, 28, 1072), (11, 154, 131, 1, 0, 1062, 1063, 0, 1064), (11, 157, 130, 0, 0, 1073, 1075, 29, 1076), (11, 161, 133, 0, 0, 1065, 1067, 27, 1068), (11, 165, 129, 0, 0, 1077, 1079, 30, 1080), (11, 169, 136, 0, 0, 1089, 1091, 32, 1092), (11, 172, 137, 0, 0, 1054, 1056, 25, 1057), (11, 175, 134, 0, 0, 1058, 1060, 26, 1061), (11, 179, 135, 0, 0, 1085, 1087, 31, 1088), (11, 182, 143, 0, 0, 1109, 1111, 33, 1112), (11, 188, 145, 0, 0, 1122, 1124, 35, 1125), (11, 191, 146, 0, 0, 1118, 1120, 34, 1121), (11, 203, 151, 0, 0, 1144, 1146, 36, 1147), (11, 219, 157, 0, 0, 1178, 1180, 39, 1181), (11, 227, 158, 0, 0, 1265, 1267, 40, 1268), (11, 230, 159, 0, 0, 1173, 1175, 38, 1176), (11, 237, 160, 0, 0, 1169, 1171, 37, 1172), (11, 240, 164, 0, 0, 1288, 1290, 42, 1291), (11, 243, 165, 0, 0, 1284, 1286, 41, 1287), (11, 248, 114, 0, 0, 1305, 1307, 43, 1308)]
/-- which methods are constructors -/
def mv_in : List Bool := [true, false, false, false, false, false, false, false, false, false, true, false, false, false, false, false, false, false, false, false, false, false, false, false, false, false, false, false, false, false, true, false, false, false, false, true, false, false, false, true, false, false, false, true, false, false, true, false, false, false, false, false, false, false, false, false, false, true, false, false, false, false, false, false, false, true, false, false, true, false, false, true, false, false, false, false, false, false, false, false, false, false, false, false, false, false, false, false, false, false, false, false, false, false, false, false, false, false, false, false, false, false, false, false, false, false, false, false, false, false, false, true, false, false, false, false, false, false, false, false, false, false, false, false, false, false, false, false, false, false, false, false, false, false, false, false, false, false, false, false, false, false, false, false, false, false, false, false, false, false, false, false, false, false, false, false, false, false, false, false, false, false, false, false, false, false, false, false, false, false, false]
def mv_tx (j : Nat) : String := (["no such number in the row", "nhc", "<>=", "0123456789", "&", ":"] : List String).getD j ""
def mv_tk (j : Nat) : Nat := ([222, 223, 225, 217, 233, 235] : List Nat).getD j 0
def mv_flok (q : Nat × Nat × Nat × Nat × Nat × Nat) : Bool := match q with
  | (own, idx, ci, k, pos, nest) => match vwCl[ci]? with
    | some (_, T, N) => decide (k < N) && (bif Nat.beq nest 0 then decide (lw_tbl[pos]? = some (Cond.fieldLink (mv_own own) idx (T k).1 (T k).2.1 (T k).2.2.1)) else decide (lw_tbl[pos]? = some (Cond.fieldLinkNest (mv_own own) idx (T k).1 (T k).2.1 (T k).2.2.1 "HueAndCry")))
    | none => false
theorem mv_fl_ok : mv_fl.all mv_flok = true := by decide +kernel
def mv_clok (q : Nat × Nat × Nat × Nat × Nat × Nat × Nat × Nat × Nat) : Bool := match q with
  | (own, idx, mid, kind, nest, plink, pkind, psel, pcode) =>
    (bif Nat.beq nest 0 then decide (lw_tbl[plink]? = some (Cond.methodLink (mv_own own) idx (mv_m mid).1)) else decide (lw_tbl[plink]? = some (Cond.methodLinkNest (mv_own own) idx (mv_m mid).1 "HueAndCry")))
    && (bif Nat.beq kind 1 then decide (lw_tbl[pkind]? = some (Cond.static (mv_m mid).1)) else decide (lw_tbl[pkind]? = some (Cond.instanceMethod (mv_m mid).1)))
    && (bif Nat.beq kind 0 then decide (lw_tbl[psel]? = some (Cond.selects (mv_m mid).1.cls (mv_m mid).1 (mv_m mid).1)) && decide ((vwCl[(mv_m mid).2.2.2.2.2.1]?).map (fun q => q.1) = some (mv_m mid).1.cls) else true)
    && (bif Nat.beq kind 2 then decide ((mv_m mid).1.name = "<init>") && decide ((mv_m mid).2.2.2.1 = none) else true)
    && decide ((mv_m mid).1.cls ≠ "java/lang/invoke/MethodHandle") && decide ((mv_m mid).1.cls ≠ "java/lang/invoke/VarHandle")
    && decide ((parseMethodDescriptor (mv_m mid).1.desc).map (fun d => d.parameters.length) = some (mv_m mid).2.2.2.2.1)
    && decide (Cond.initialized (mv_m mid).1.cls ∈ (lw_tbl.drop 44).take 24) && decide (plainName (mv_m mid).1.cls = true) && Nat.blt mid 171
theorem mv_cl_ok : mv_cl.all mv_clok = true := by decide +kernel

def mv_lenof : Instr → Nat
  | .iload _ => 2 | .aload _ => 2 | .lload _ => 2 | .istore _ => 2 | .astore _ => 2 | .lstore _ => 2
  | .bipush _ => 2 | .ldc _ => 2 | .newarray _ => 2
  | .sipush _ => 3 | .ldc_w _ => 3 | .ldc2_w _ => 3 | .iinc _ _ => 3 | .goto _ => 3 | .ifCond _ _ => 3 | .if_icmp _ _ => 3
  | .getfield _ => 3 | .putfield _ => 3 | .new _ => 3 | .anewarray _ => 3 | .invokevirtual _ => 3 | .invokestatic _ => 3 | .invokespecial _ => 3
  | .tableswitch _ _ _ _ => 0 | .lookupswitch _ _ => 0
  | _ => 1
/-- what an instruction says beside its bytes -/
def mv_ck2 (own : Nat) (ini : Bool) (pc : Nat) : mv_I → Bool
  | (.iconst n, _, _, _, v) => decide (v = .int (Int32.ofInt n))
  | (.bipush n, _, _, _, v) => decide (v = .int (Int8.ofInt n).toInt32)
  | (.sipush n, _, _, _, v) => decide (v = .int (Int16.ofInt n).toInt32)
  | (.lconst n, _, _, _, v) => decide (v = .long (Int64.ofNat n))
  | (.iinc _ n, _, _, _, v) => decide (v = .int (Int32.ofInt n))
  | (.ldc k, _, a, _, .int c) => decide (lw_tbl[a]? = some (Cond.constant (mv_own own) k c))
  | (.ldc_w k, _, a, _, .int c) => decide (lw_tbl[a]? = some (Cond.constant (mv_own own) k c))
  | (.ldc k, _, a, _, .ref q) => decide (own = 11) && decide (1001 ≤ q) && decide (q < 1006) && decide (lw_tbl[a]? = some (Cond.stringRef "HueAndCryModel" k (mv_tx (q - 1000)))) && decide (k = mv_tk (q - 1000))
  | (.ldc _, _, _, _, _) => false
  | (.ldc_w _, _, _, _, _) => false
  | (.ldc2_w k, _, a, _, .long c) => decide (lw_tbl[a]? = some (Cond.constantLong (mv_own own) k c))
  | (.ldc2_w _, _, _, _, _) => false
  | (.goto o, _, a, _, _) => decide ((pc : Int) + o = a)
  | (.ifCond _ o, _, a, _, _) => decide ((pc : Int) + o = a)
  | (.if_icmp _ o, _, a, _, _) => decide ((pc : Int) + o = a)
  | (.tableswitch _ _ _ _, _, _, b, _) => decide (b = pc)
  | (.lookupswitch _ ps, _, _, b, _) => decide (b = pc) && (ps.toList.zip (ps.toList.drop 1)).all (fun q => q.1.1 < q.2.1)
  | (.getfield n, _, a, b, .ref j) => match mv_fl[j]? with
    | some (ow, idx, ci, k, _, _) => decide (ow = own ∧ idx = n ∧ ci = a ∧ k = b)
    | none => false
  | (.getfield _, _, _, _, _) => false
  | (.putfield n, _, a, b, .ref j) => match mv_fl[j]?, vwCl[a]? with
    | some (ow, idx, ci, k, _, nest), some (_, T, _) => decide (ow = own ∧ idx = n ∧ ci = a ∧ k = b) && ((decide ((T k).2.2.2 = false)) || (ini && decide (nest = 0) && decide ((T k).1 = mv_own own)))
    | _, _ => false
  | (.putfield _, _, _, _, _) => false
  | (.new n, _, a, b, _) => decide (a < 12) && decide (lw_tbl[b]? = some (Cond.classLink (mv_own own) n (mv_own a))) && decide (Cond.initialized (mv_own a) ∈ (lw_tbl.drop 44).take 24)
  | (.anewarray n, _, _, b, _) => decide (lw_tbl[b]? = some (Cond.classLink (mv_own own) n "HueAndCry$Act"))
  | (.invokevirtual n, _, a, b, _) => (bif Nat.blt b 900 then (match mv_cl[a]? with | some (ow, idx, mid, kind, _) => decide (ow = own ∧ idx = n ∧ mid = b ∧ kind = 0) | none => false) else bif Nat.beq b 904 then decide (own = 11) && decide (lw_tbl[a]? = some (Cond.methodLink (mv_own own) n ⟨"java/lang/String", "indexOf", "(I)I"⟩)) else true)
  | (.invokestatic n, _, a, b, _) => (bif Nat.blt b 900 then (match mv_cl[a]? with | some (ow, idx, mid, kind, _) => decide (ow = own ∧ idx = n ∧ mid = b ∧ kind = 1) | none => false) else bif Nat.beq b 901 then decide (lw_tbl[a]? = some (Cond.methodLink (mv_own own) n Lib.Math.min.name)) else bif Nat.beq b 902 then decide (lw_tbl[a]? = some (Cond.methodLink (mv_own own) n Lib.Math.max.name)) else bif Nat.beq b 903 then decide (lw_tbl[a]? = some (Cond.methodLink (mv_own own) n Lib.Math.abs.name)) else true)
  | (.invokespecial n, _, a, b, _) => (bif Nat.blt b 900 then (match mv_cl[a]? with | some (ow, idx, mid, kind, _) => decide (ow = own ∧ idx = n ∧ mid = b ∧ kind = 2) | none => false) else bif Nat.beq b 999 then decide (lw_tbl[a]? = some (Cond.methodLink (mv_own own) n objectInit)) else true)
  | _ => true
def mv_chk (own : Nat) (ini : Bool) (cc : ByteArray) (pc : Nat) (i : mv_I) : Bool := decide (decode cc pc = .ok (i.1, i.2.1 - pc)) && decide (pc ≤ i.2.1) && (Nat.beq (mv_lenof i.1) 0 || Nat.beq i.2.1 (pc + mv_lenof i.1)) && mv_ck2 own ini pc i
def mv_ok (own : Nat) (ini : Bool) (cc : ByteArray) (P : List (Nat × mv_I)) : Bool := P.all (fun q => mv_chk own ini cc q.1 q.2)

def mv_cp : List Nat := [274, 718, 722, 726, 730, 734, 741, 737, 766, 769, 86, 462, 507, 534, 567, 572, 576, 580, 466, 470, 475, 479, 488, 511, 515, 519, 492, 551, 543, 618, 267, 714, 753, 762, 778, 217, 656, 664, 679, 223, 635, 647, 668, 141, 434, 414, 92, 386, 394, 371, 382, 686, 483, 496, 555, 422, 426, 80, 591, 626, 597, 622, 601, 606, 610, 324, 547, 559, 251, 698, 706, 72, 367, 378, 390, 398, 406, 410, 418, 430, 441, 445, 449, 453, 503, 526, 530, 539, 563, 587, 631, 642, 652, 660, 675, 690, 694, 702, 710, 745, 749, 758, 773, 784, 792, 457, 437, 374, 638, 402, 499, 863, 986, 994, 1308, 1002, 1036, 990, 998, 1007, 1011, 1015, 1019, 1023, 1033, 1029, 1041, 1045, 1049, 1080, 1076, 1064, 1072, 1068, 1061, 1088, 1092, 1057, 1053, 1084, 1096, 1100, 1104, 1112, 1108, 1125, 1121, 1117, 1129, 1134, 1138, 1147, 1143, 1152, 1156, 1160, 1164, 1181, 1268, 1176, 1172, 1168, 1275, 1279, 1291, 1287, 1283, 1295, 1300, 1304, 613]
def mv_cdP (k : Nat) : Prop := lw_tbl[mv_cp.getD k 0]? = some (Cond.code (mv_m k).1 (mv_m k).2.1 (mv_m k).2.2.1 (mv_m k).2.2.2.1)
set_option maxRecDepth 100000 in
theorem mv_cd_0 : mv_cdP 0 := rfl
set_option maxRecDepth 100000 in
theorem mv_cd_1 : mv_cdP 1 := rfl
set_option maxRecDepth 100000 in
theorem mv_cd_2 : mv_cdP 2 := rfl
set_option maxRecDepth 100000 in
theorem mv_cd_3 : mv_cdP 3 := rfl
set_option maxRecDepth 100000 in
theorem mv_cd_4 : mv_cdP 4 := rfl
set_option maxRecDepth 100000 in
theorem mv_cd_5 : mv_cdP 5 := rfl
set_option maxRecDepth 100000 in
theorem mv_cd_6 : mv_cdP 6 := rfl
set_option maxRecDepth 100000 in
theorem mv_cd_7 : mv_cdP 7 := rfl
set_option maxRecDepth 100000 in
theorem mv_cd_8 : mv_cdP 8 := rfl
set_option maxRecDepth 100000 in
theorem mv_cd_9 : mv_cdP 9 := rfl
set_option maxRecDepth 100000 in
theorem mv_cd_10 : mv_cdP 10 := rfl
set_option maxRecDepth 100000 in
theorem mv_cd_11 : mv_cdP 11 := rfl
set_option maxRecDepth 100000 in
theorem mv_cd_12 : mv_cdP 12 := rfl
set_option maxRecDepth 100000 in
theorem mv_cd_13 : mv_cdP 13 := rfl
set_option maxRecDepth 100000 in
theorem mv_cd_14 : mv_cdP 14 := rfl
set_option maxRecDepth 100000 in
theorem mv_cd_15 : mv_cdP 15 := rfl
set_option maxRecDepth 100000 in
theorem mv_cd_16 : mv_cdP 16 := rfl
set_option maxRecDepth 100000 in
theorem mv_cd_17 : mv_cdP 17 := rfl
set_option maxRecDepth 100000 in
theorem mv_cd_18 : mv_cdP 18 := rfl
set_option maxRecDepth 100000 in
theorem mv_cd_19 : mv_cdP 19 := rfl
set_option maxRecDepth 100000 in
theorem mv_cd_20 : mv_cdP 20 := rfl
set_option maxRecDepth 100000 in
theorem mv_cd_21 : mv_cdP 21 := rfl
set_option maxRecDepth 100000 in
theorem mv_cd_22 : mv_cdP 22 := rfl
set_option maxRecDepth 100000 in
theorem mv_cd_23 : mv_cdP 23 := rfl
set_option maxRecDepth 100000 in
theorem mv_cd_24 : mv_cdP 24 := rfl
set_option maxRecDepth 100000 in
theorem mv_cd_25 : mv_cdP 25 := rfl
set_option maxRecDepth 100000 in
theorem mv_cd_26 : mv_cdP 26 := rfl
set_option maxRecDepth 100000 in
theorem mv_cd_27 : mv_cdP 27 := rfl
set_option maxRecDepth 100000 in
theorem mv_cd_28 : mv_cdP 28 := rfl
set_option maxRecDepth 100000 in
theorem mv_cd_29 : mv_cdP 29 := rfl
set_option maxRecDepth 100000 in
theorem mv_cd_30 : mv_cdP 30 := rfl
set_option maxRecDepth 100000 in
theorem mv_cd_31 : mv_cdP 31 := rfl
set_option maxRecDepth 100000 in
theorem mv_cd_32 : mv_cdP 32 := rfl
set_option maxRecDepth 100000 in
theorem mv_cd_33 : mv_cdP 33 := rfl
set_option maxRecDepth 100000 in
theorem mv_cd_34 : mv_cdP 34 := rfl
set_option maxRecDepth 100000 in
theorem mv_cd_35 : mv_cdP 35 := rfl
set_option maxRecDepth 100000 in
theorem mv_cd_36 : mv_cdP 36 := rfl
set_option maxRecDepth 100000 in
theorem mv_cd_37 : mv_cdP 37 := rfl
set_option maxRecDepth 100000 in
theorem mv_cd_38 : mv_cdP 38 := rfl
set_option maxRecDepth 100000 in
theorem mv_cd_39 : mv_cdP 39 := rfl
set_option maxRecDepth 100000 in
theorem mv_cd_40 : mv_cdP 40 := rfl
set_option maxRecDepth 100000 in
theorem mv_cd_41 : mv_cdP 41 := rfl
set_option maxRecDepth 100000 in
theorem mv_cd_42 : mv_cdP 42 := rfl
set_option maxRecDepth 100000 in
theorem mv_cd_43 : mv_cdP 43 := rfl
set_option maxRecDepth 100000 in
theorem mv_cd_44 : mv_cdP 44 := rfl
set_option maxRecDepth 100000 in
theorem mv_cd_45 : mv_cdP 45 := rfl
set_option maxRecDepth 100000 in
theorem mv_cd_46 : mv_cdP 46 := rfl
set_option maxRecDepth 100000 in
theorem mv_cd_47 : mv_cdP 47 := rfl
set_option maxRecDepth 100000 in
theorem mv_cd_48 : mv_cdP 48 := rfl
set_option maxRecDepth 100000 in
theorem mv_cd_49 : mv_cdP 49 := rfl
set_option maxRecDepth 100000 in
theorem mv_cd_50 : mv_cdP 50 := rfl
set_option maxRecDepth 100000 in
theorem mv_cd_51 : mv_cdP 51 := rfl
set_option maxRecDepth 100000 in
theorem mv_cd_52 : mv_cdP 52 := rfl
set_option maxRecDepth 100000 in
theorem mv_cd_53 : mv_cdP 53 := rfl
set_option maxRecDepth 100000 in
theorem mv_cd_54 : mv_cdP 54 := rfl
set_option maxRecDepth 100000 in
theorem mv_cd_55 : mv_cdP 55 := rfl
set_option maxRecDepth 100000 in
theorem mv_cd_56 : mv_cdP 56 := rfl
set_option maxRecDepth 100000 in
theorem mv_cd_57 : mv_cdP 57 := rfl
set_option maxRecDepth 100000 in
theorem mv_cd_58 : mv_cdP 58 := rfl
set_option maxRecDepth 100000 in
theorem mv_cd_59 : mv_cdP 59 := rfl
set_option maxRecDepth 100000 in
theorem mv_cd_60 : mv_cdP 60 := rfl
set_option maxRecDepth 100000 in
theorem mv_cd_61 : mv_cdP 61 := rfl
set_option maxRecDepth 100000 in
theorem mv_cd_62 : mv_cdP 62 := rfl
set_option maxRecDepth 100000 in
theorem mv_cd_63 : mv_cdP 63 := rfl
set_option maxRecDepth 100000 in
theorem mv_cd_64 : mv_cdP 64 := rfl
set_option maxRecDepth 100000 in
theorem mv_cd_65 : mv_cdP 65 := rfl
set_option maxRecDepth 100000 in
theorem mv_cd_66 : mv_cdP 66 := rfl
set_option maxRecDepth 100000 in
theorem mv_cd_67 : mv_cdP 67 := rfl
set_option maxRecDepth 100000 in
theorem mv_cd_68 : mv_cdP 68 := rfl
set_option maxRecDepth 100000 in
theorem mv_cd_69 : mv_cdP 69 := rfl
set_option maxRecDepth 100000 in
theorem mv_cd_70 : mv_cdP 70 := rfl
set_option maxRecDepth 100000 in
theorem mv_cd_71 : mv_cdP 71 := rfl
set_option maxRecDepth 100000 in
theorem mv_cd_72 : mv_cdP 72 := rfl
set_option maxRecDepth 100000 in
theorem mv_cd_73 : mv_cdP 73 := rfl
set_option maxRecDepth 100000 in
theorem mv_cd_74 : mv_cdP 74 := rfl
set_option maxRecDepth 100000 in
theorem mv_cd_75 : mv_cdP 75 := rfl
set_option maxRecDepth 100000 in
theorem mv_cd_76 : mv_cdP 76 := rfl
set_option maxRecDepth 100000 in
theorem mv_cd_77 : mv_cdP 77 := rfl
set_option maxRecDepth 100000 in
theorem mv_cd_78 : mv_cdP 78 := rfl
set_option maxRecDepth 100000 in
theorem mv_cd_79 : mv_cdP 79 := rfl
set_option maxRecDepth 100000 in
theorem mv_cd_80 : mv_cdP 80 := rfl
set_option maxRecDepth 100000 in
theorem mv_cd_81 : mv_cdP 81 := rfl
set_option maxRecDepth 100000 in
theorem mv_cd_82 : mv_cdP 82 := rfl
set_option maxRecDepth 100000 in
theorem mv_cd_83 : mv_cdP 83 := rfl
set_option maxRecDepth 100000 in
theorem mv_cd_84 : mv_cdP 84 := rfl
set_option maxRecDepth 100000 in
theorem mv_cd_85 : mv_cdP 85 := rfl
set_option maxRecDepth 100000 in
theorem mv_cd_86 : mv_cdP 86 := rfl
set_option maxRecDepth 100000 in
theorem mv_cd_87 : mv_cdP 87 := rfl
set_option maxRecDepth 100000 in
theorem mv_cd_88 : mv_cdP 88 := rfl
set_option maxRecDepth 100000 in
theorem mv_cd_89 : mv_cdP 89 := rfl
set_option maxRecDepth 100000 in
theorem mv_cd_90 : mv_cdP 90 := rfl
set_option maxRecDepth 100000 in
theorem mv_cd_91 : mv_cdP 91 := rfl
set_option maxRecDepth 100000 in
theorem mv_cd_92 : mv_cdP 92 := rfl
set_option maxRecDepth 100000 in
theorem mv_cd_93 : mv_cdP 93 := rfl
set_option maxRecDepth 100000 in
theorem mv_cd_94 : mv_cdP 94 := rfl
set_option maxRecDepth 100000 in
theorem mv_cd_95 : mv_cdP 95 := rfl
set_option maxRecDepth 100000 in
theorem mv_cd_96 : mv_cdP 96 := rfl
set_option maxRecDepth 100000 in
theorem mv_cd_97 : mv_cdP 97 := rfl
set_option maxRecDepth 100000 in
theorem mv_cd_98 : mv_cdP 98 := rfl
set_option maxRecDepth 100000 in
theorem mv_cd_99 : mv_cdP 99 := rfl
set_option maxRecDepth 100000 in
theorem mv_cd_100 : mv_cdP 100 := rfl
set_option maxRecDepth 100000 in
theorem mv_cd_101 : mv_cdP 101 := rfl
set_option maxRecDepth 100000 in
theorem mv_cd_102 : mv_cdP 102 := rfl
set_option maxRecDepth 100000 in
theorem mv_cd_103 : mv_cdP 103 := rfl
set_option maxRecDepth 100000 in
theorem mv_cd_104 : mv_cdP 104 := rfl
set_option maxRecDepth 100000 in
theorem mv_cd_105 : mv_cdP 105 := rfl
set_option maxRecDepth 100000 in
theorem mv_cd_106 : mv_cdP 106 := rfl
set_option maxRecDepth 100000 in
theorem mv_cd_107 : mv_cdP 107 := rfl
set_option maxRecDepth 100000 in
theorem mv_cd_108 : mv_cdP 108 := rfl
set_option maxRecDepth 100000 in
theorem mv_cd_109 : mv_cdP 109 := rfl
set_option maxRecDepth 100000 in
theorem mv_cd_110 : mv_cdP 110 := rfl
set_option maxRecDepth 100000 in
theorem mv_cd_111 : mv_cdP 111 := rfl
set_option maxRecDepth 100000 in
theorem mv_cd_112 : mv_cdP 112 := rfl
set_option maxRecDepth 100000 in
theorem mv_cd_113 : mv_cdP 113 := rfl
set_option maxRecDepth 100000 in
theorem mv_cd_114 : mv_cdP 114 := rfl
set_option maxRecDepth 100000 in
theorem mv_cd_115 : mv_cdP 115 := rfl
set_option maxRecDepth 100000 in
theorem mv_cd_116 : mv_cdP 116 := rfl
set_option maxRecDepth 100000 in
theorem mv_cd_117 : mv_cdP 117 := rfl
set_option maxRecDepth 100000 in
theorem mv_cd_118 : mv_cdP 118 := rfl
set_option maxRecDepth 100000 in
theorem mv_cd_119 : mv_cdP 119 := rfl
set_option maxRecDepth 100000 in
theorem mv_cd_120 : mv_cdP 120 := rfl
set_option maxRecDepth 100000 in
theorem mv_cd_121 : mv_cdP 121 := rfl
set_option maxRecDepth 100000 in
theorem mv_cd_122 : mv_cdP 122 := rfl
set_option maxRecDepth 100000 in
theorem mv_cd_123 : mv_cdP 123 := rfl
set_option maxRecDepth 100000 in
theorem mv_cd_124 : mv_cdP 124 := rfl
set_option maxRecDepth 100000 in
theorem mv_cd_125 : mv_cdP 125 := rfl
set_option maxRecDepth 100000 in
theorem mv_cd_126 : mv_cdP 126 := rfl
set_option maxRecDepth 100000 in
theorem mv_cd_127 : mv_cdP 127 := rfl
set_option maxRecDepth 100000 in
theorem mv_cd_128 : mv_cdP 128 := rfl
set_option maxRecDepth 100000 in
theorem mv_cd_129 : mv_cdP 129 := rfl
set_option maxRecDepth 100000 in
theorem mv_cd_130 : mv_cdP 130 := rfl
set_option maxRecDepth 100000 in
theorem mv_cd_131 : mv_cdP 131 := rfl
set_option maxRecDepth 100000 in
theorem mv_cd_132 : mv_cdP 132 := rfl
set_option maxRecDepth 100000 in
theorem mv_cd_133 : mv_cdP 133 := rfl
set_option maxRecDepth 100000 in
theorem mv_cd_134 : mv_cdP 134 := rfl
set_option maxRecDepth 100000 in
theorem mv_cd_135 : mv_cdP 135 := rfl
set_option maxRecDepth 100000 in
theorem mv_cd_136 : mv_cdP 136 := rfl
set_option maxRecDepth 100000 in
theorem mv_cd_137 : mv_cdP 137 := rfl
set_option maxRecDepth 100000 in
theorem mv_cd_138 : mv_cdP 138 := rfl
set_option maxRecDepth 100000 in
theorem mv_cd_139 : mv_cdP 139 := rfl
set_option maxRecDepth 100000 in
theorem mv_cd_140 : mv_cdP 140 := rfl
set_option maxRecDepth 100000 in
theorem mv_cd_141 : mv_cdP 141 := rfl
set_option maxRecDepth 100000 in
theorem mv_cd_142 : mv_cdP 142 := rfl
set_option maxRecDepth 100000 in
theorem mv_cd_143 : mv_cdP 143 := rfl
set_option maxRecDepth 100000 in
theorem mv_cd_144 : mv_cdP 144 := rfl
set_option maxRecDepth 100000 in
theorem mv_cd_145 : mv_cdP 145 := rfl
set_option maxRecDepth 100000 in
theorem mv_cd_146 : mv_cdP 146 := rfl
set_option maxRecDepth 100000 in
theorem mv_cd_147 : mv_cdP 147 := rfl
set_option maxRecDepth 100000 in
theorem mv_cd_148 : mv_cdP 148 := rfl
set_option maxRecDepth 100000 in
theorem mv_cd_149 : mv_cdP 149 := rfl
set_option maxRecDepth 100000 in
theorem mv_cd_150 : mv_cdP 150 := rfl
set_option maxRecDepth 100000 in
theorem mv_cd_151 : mv_cdP 151 := rfl
set_option maxRecDepth 100000 in
theorem mv_cd_152 : mv_cdP 152 := rfl
set_option maxRecDepth 100000 in
theorem mv_cd_153 : mv_cdP 153 := rfl
set_option maxRecDepth 100000 in
theorem mv_cd_154 : mv_cdP 154 := rfl
set_option maxRecDepth 100000 in
theorem mv_cd_155 : mv_cdP 155 := rfl
set_option maxRecDepth 100000 in
theorem mv_cd_156 : mv_cdP 156 := rfl
set_option maxRecDepth 100000 in
theorem mv_cd_157 : mv_cdP 157 := rfl
set_option maxRecDepth 100000 in
theorem mv_cd_158 : mv_cdP 158 := rfl
set_option maxRecDepth 100000 in
theorem mv_cd_159 : mv_cdP 159 := rfl
set_option maxRecDepth 100000 in
theorem mv_cd_160 : mv_cdP 160 := rfl
set_option maxRecDepth 100000 in
theorem mv_cd_161 : mv_cdP 161 := rfl
set_option maxRecDepth 100000 in
theorem mv_cd_162 : mv_cdP 162 := rfl
set_option maxRecDepth 100000 in
theorem mv_cd_163 : mv_cdP 163 := rfl
set_option maxRecDepth 100000 in
theorem mv_cd_164 : mv_cdP 164 := rfl
set_option maxRecDepth 100000 in
theorem mv_cd_165 : mv_cdP 165 := rfl
set_option maxRecDepth 100000 in
theorem mv_cd_166 : mv_cdP 166 := rfl
set_option maxRecDepth 100000 in
theorem mv_cd_167 : mv_cdP 167 := rfl
set_option maxRecDepth 100000 in
theorem mv_cd_168 : mv_cdP 168 := rfl
set_option maxRecDepth 100000 in
theorem mv_cd_169 : mv_cdP 169 := rfl
set_option maxRecDepth 100000 in
theorem mv_cd_170 : mv_cdP 170 := rfl
set_option maxRecDepth 100000 in
theorem mv_cd : ∀ k, k < 171 → mv_cdP k := by
  have h : ∀ k ∈ List.range 171, mv_cdP k := by
    show ∀ k ∈ [0, 1, 2, 3, 4, 5, 6, 7, 8, 9, 10, 11, 12, 13, 14, 15, 16, 17, 18, 19, 20, 21, 22, 23, 24, 25, 26, 27, 28, 29, 30, 31, 32, 33, 34, 35, 36, 37, 38, 39, 40, 41, 42, 43, 44, 45, 46, 47, 48, 49, 50, 51, 52, 53, 54, 55, 56, 57, 58, 59, 60, 61, 62, 63, 64, 65, 66, 67, 68, 69, 70, 71, 72, 73, 74, 75, 76, 77, 78, 79, 80, 81, 82, 83, 84, 85, 86, 87, 88, 89, 90, 91, 92, 93, 94, 95, 96, 97, 98, 99, 100, 101, 102, 103, 104, 105, 106, 107, 108, 109, 110, 111, 112, 113, 114, 115, 116, 117, 118, 119, 120, 121, 122, 123, 124, 125, 126, 127, 128, 129, 130, 131, 132, 133, 134, 135, 136, 137, 138, 139, 140, 141, 142, 143, 144, 145, 146, 147, 148, 149, 150, 151, 152, 153, 154, 155, 156, 157, 158, 159, 160, 161, 162, 163, 164, 165, 166, 167, 168, 169, 170], mv_cdP k
    exact List.forall_mem_cons.mpr ⟨mv_cd_0, List.forall_mem_cons.mpr ⟨mv_cd_1, List.forall_mem_cons.mpr ⟨mv_cd_2, List.forall_mem_cons.mpr ⟨mv_cd_3, List.forall_mem_cons.mpr ⟨mv_cd_4, List.forall_mem_cons.mpr ⟨mv_cd_5, List.forall_mem_cons.mpr ⟨mv_cd_6, List.forall_mem_cons.mpr ⟨mv_cd_7, List.forall_mem_cons.mpr ⟨mv_cd_8, List.forall_mem_cons.mpr ⟨mv_cd_9, List.forall_mem_cons.mpr ⟨mv_cd_10, List.forall_mem_cons.mpr ⟨mv_cd_11, List.forall_mem_cons.mpr ⟨mv_cd_12, List.forall_mem_cons.mpr ⟨mv_cd_13, List.forall_mem_cons.mpr ⟨mv_cd_14, List.forall_mem_cons.mpr ⟨mv_cd_15, List.forall_mem_cons.mpr ⟨mv_cd_16, List.forall_mem_cons.mpr ⟨mv_cd_17, List.forall_mem_cons.mpr ⟨mv_cd_18, List.forall_mem_cons.mpr ⟨mv_cd_19, List.forall_mem_cons.mpr ⟨mv_cd_20, List.forall_mem_cons.mpr ⟨mv_cd_21, List.forall_mem_cons.mpr ⟨mv_cd_22, List.forall_mem_cons.mpr ⟨mv_cd_23, List.forall_mem_cons.mpr ⟨mv_cd_24, List.forall_mem_cons.mpr ⟨mv_cd_25, List.forall_mem_cons.mpr ⟨mv_cd_26, List.forall_mem_cons.mpr ⟨mv_cd_27, List.forall_mem_cons.mpr ⟨mv_cd_28, List.forall_mem_cons.mpr ⟨mv_cd_29, List.forall_mem_cons.mpr ⟨mv_cd_30, List.forall_mem_cons.mpr ⟨mv_cd_31, List.forall_mem_cons.mpr ⟨mv_cd_32, List.forall_mem_cons.mpr ⟨mv_cd_33, List.forall_mem_cons.mpr ⟨mv_cd_34, List.forall_mem_cons.mpr ⟨mv_cd_35, List.forall_mem_cons.mpr ⟨mv_cd_36, List.forall_mem_cons.mpr ⟨mv_cd_37, List.forall_mem_cons.mpr ⟨mv_cd_38, List.forall_mem_cons.mpr ⟨mv_cd_39, List.forall_mem_cons.mpr ⟨mv_cd_40, List.forall_mem_cons.mpr ⟨mv_cd_41, List.forall_mem_cons.mpr ⟨mv_cd_42, List.forall_mem_cons.mpr ⟨mv_cd_43, List.forall_mem_cons.mpr ⟨mv_cd_44, List.forall_mem_cons.mpr ⟨mv_cd_45, List.forall_mem_cons.mpr ⟨mv_cd_46, List.forall_mem_cons.mpr ⟨mv_cd_47, List.forall_mem_cons.mpr ⟨mv_cd_48, List.forall_mem_cons.mpr ⟨mv_cd_49, List.forall_mem_cons.mpr ⟨mv_cd_50, List.forall_mem_cons.mpr ⟨mv_cd_51, List.forall_mem_cons.mpr ⟨mv_cd_52, List.forall_mem_cons.mpr ⟨mv_cd_53, List.forall_mem_cons.mpr ⟨mv_cd_54, List.forall_mem_cons.mpr ⟨mv_cd_55, List.forall_mem_cons.mpr ⟨mv_cd_56, List.forall_mem_cons.mpr ⟨mv_cd_57, List.forall_mem_cons.mpr ⟨mv_cd_58, List.forall_mem_cons.mpr ⟨mv_cd_59, List.forall_mem_cons.mpr ⟨mv_cd_60, List.forall_mem_cons.mpr ⟨mv_cd_61, List.forall_mem_cons.mpr ⟨mv_cd_62, List.forall_mem_cons.mpr ⟨mv_cd_63, List.forall_mem_cons.mpr ⟨mv_cd_64, List.forall_mem_cons.mpr ⟨mv_cd_65, List.forall_mem_cons.mpr ⟨mv_cd_66, List.forall_mem_cons.mpr ⟨mv_cd_67, List.forall_mem_cons.mpr ⟨mv_cd_68, List.forall_mem_cons.mpr ⟨mv_cd_69, List.forall_mem_cons.mpr ⟨mv_cd_70, List.forall_mem_cons.mpr ⟨mv_cd_71, List.forall_mem_cons.mpr ⟨mv_cd_72, List.forall_mem_cons.mpr ⟨mv_cd_73, List.forall_mem_cons.mpr ⟨mv_cd_74, List.forall_mem_cons.mpr ⟨mv_cd_75, List.forall_mem_cons.mpr ⟨mv_cd_76, List.forall_mem_cons.mpr ⟨mv_cd_77, List.forall_mem_cons.mpr ⟨mv_cd_78, List.forall_mem_cons.mpr ⟨mv_cd_79, List.forall_mem_cons.mpr ⟨mv_cd_80, List.forall_mem_cons.mpr ⟨mv_cd_81, List.forall_mem_cons.mpr ⟨mv_cd_82, List.forall_mem_cons.mpr ⟨mv_cd_83, List.forall_mem_cons.mpr ⟨mv_cd_84, List.forall_mem_cons.mpr ⟨mv_cd_85, List.forall_mem_cons.mpr ⟨mv_cd_86, List.forall_mem_cons.mpr ⟨mv_cd_87, List.forall_mem_cons.mpr ⟨mv_cd_88, List.forall_mem_cons.mpr ⟨mv_cd_89, List.forall_mem_cons.mpr ⟨mv_cd_90, List.forall_mem_cons.mpr ⟨mv_cd_91, List.forall_mem_cons.mpr ⟨mv_cd_92, List.forall_mem_cons.mpr ⟨mv_cd_93, List.forall_mem_cons.mpr ⟨mv_cd_94, List.forall_mem_cons.mpr ⟨mv_cd_95, List.forall_mem_cons.mpr ⟨mv_cd_96, List.forall_mem_cons.mpr ⟨mv_cd_97, List.forall_mem_cons.mpr ⟨mv_cd_98, List.forall_mem_cons.mpr ⟨mv_cd_99, List.forall_mem_cons.mpr ⟨mv_cd_100, List.forall_mem_cons.mpr ⟨mv_cd_101, List.forall_mem_cons.mpr ⟨mv_cd_102, List.forall_mem_cons.mpr ⟨mv_cd_103, List.forall_mem_cons.mpr ⟨mv_cd_104, List.forall_mem_cons.mpr ⟨mv_cd_105, List.forall_mem_cons.mpr ⟨mv_cd_106, List.forall_mem_cons.mpr ⟨mv_cd_107, List.forall_mem_cons.mpr ⟨mv_cd_108, List.forall_mem_cons.mpr ⟨mv_cd_109, List.forall_mem_cons.mpr ⟨mv_cd_110, List.forall_mem_cons.mpr ⟨mv_cd_111, List.forall_mem_cons.mpr ⟨mv_cd_112, List.forall_mem_cons.mpr ⟨mv_cd_113, List.forall_mem_cons.mpr ⟨mv_cd_114, List.forall_mem_cons.mpr ⟨mv_cd_115, List.forall_mem_cons.mpr ⟨mv_cd_116, List.forall_mem_cons.mpr ⟨mv_cd_117, List.forall_mem_cons.mpr ⟨mv_cd_118, List.forall_mem_cons.mpr ⟨mv_cd_119, List.forall_mem_cons.mpr ⟨mv_cd_120, List.forall_mem_cons.mpr ⟨mv_cd_121, List.forall_mem_cons.mpr ⟨mv_cd_122, List.forall_mem_cons.mpr ⟨mv_cd_123, List.forall_mem_cons.mpr ⟨mv_cd_124, List.forall_mem_cons.mpr ⟨mv_cd_125, List.forall_mem_cons.mpr ⟨mv_cd_126, List.forall_mem_cons.mpr ⟨mv_cd_127, List.forall_mem_cons.mpr ⟨mv_cd_128, List.forall_mem_cons.mpr ⟨mv_cd_129, List.forall_mem_cons.mpr ⟨mv_cd_130, List.forall_mem_cons.mpr ⟨mv_cd_131, List.forall_mem_cons.mpr ⟨mv_cd_132, List.forall_mem_cons.mpr ⟨mv_cd_133, List.forall_mem_cons.mpr ⟨mv_cd_134, List.forall_mem_cons.mpr ⟨mv_cd_135, List.forall_mem_cons.mpr ⟨mv_cd_136, List.forall_mem_cons.mpr ⟨mv_cd_137, List.forall_mem_cons.mpr ⟨mv_cd_138, List.forall_mem_cons.mpr ⟨mv_cd_139, List.forall_mem_cons.mpr ⟨mv_cd_140, List.forall_mem_cons.mpr ⟨mv_cd_141, List.forall_mem_cons.mpr ⟨mv_cd_142, List.forall_mem_cons.mpr ⟨mv_cd_143, List.forall_mem_cons.mpr ⟨mv_cd_144, List.forall_mem_cons.mpr ⟨mv_cd_145, List.forall_mem_cons.mpr ⟨mv_cd_146, List.forall_mem_cons.mpr ⟨mv_cd_147, List.forall_mem_cons.mpr ⟨mv_cd_148, List.forall_mem_cons.mpr ⟨mv_cd_149, List.forall_mem_cons.mpr ⟨mv_cd_150, List.forall_mem_cons.mpr ⟨mv_cd_151, List.forall_mem_cons.mpr ⟨mv_cd_152, List.forall_mem_cons.mpr ⟨mv_cd_153, List.forall_mem_cons.mpr ⟨mv_cd_154, List.forall_mem_cons.mpr ⟨mv_cd_155, List.forall_mem_cons.mpr ⟨mv_cd_156, List.forall_mem_cons.mpr ⟨mv_cd_157, List.forall_mem_cons.mpr ⟨mv_cd_158, List.forall_mem_cons.mpr ⟨mv_cd_159, List.forall_mem_cons.mpr ⟨mv_cd_160, List.forall_mem_cons.mpr ⟨mv_cd_161, List.forall_mem_cons.mpr ⟨mv_cd_162, List.forall_mem_cons.mpr ⟨mv_cd_163, List.forall_mem_cons.mpr ⟨mv_cd_164, List.forall_mem_cons.mpr ⟨mv_cd_165, List.forall_mem_cons.mpr ⟨mv_cd_166, List.forall_mem_cons.mpr ⟨mv_cd_167, List.forall_mem_cons.mpr ⟨mv_cd_168, List.forall_mem_cons.mpr ⟨mv_cd_169, List.forall_mem_cons.mpr ⟨mv_cd_170, fun _ h => absurd h List.not_mem_nil⟩⟩⟩⟩⟩⟩⟩⟩⟩⟩⟩⟩⟩⟩⟩⟩⟩⟩⟩⟩⟩⟩⟩⟩⟩⟩⟩⟩⟩⟩⟩⟩⟩⟩⟩⟩⟩⟩⟩⟩⟩⟩⟩⟩⟩⟩⟩⟩⟩⟩⟩⟩⟩⟩⟩⟩⟩⟩⟩⟩⟩⟩⟩⟩⟩⟩⟩⟩⟩⟩⟩⟩⟩⟩⟩⟩⟩⟩⟩⟩⟩⟩⟩⟩⟩⟩⟩⟩⟩⟩⟩⟩⟩⟩⟩⟩⟩⟩⟩⟩⟩⟩⟩⟩⟩⟩⟩⟩⟩⟩⟩⟩⟩⟩⟩⟩⟩⟩⟩⟩⟩⟩⟩⟩⟩⟩⟩⟩⟩⟩⟩⟩⟩⟩⟩⟩⟩⟩⟩⟩⟩⟩⟩⟩⟩⟩⟩⟩⟩⟩⟩⟩⟩⟩⟩⟩⟩⟩⟩⟩⟩⟩⟩⟩⟩⟩⟩⟩⟩⟩⟩
  exact fun k hk => h k (List.mem_range.mpr hk)
theorem ok_X0_init : mv_ok 0 true cX0_init pX0_init = true := by decide +kernel
theorem ok_X0_read : mv_ok 0 false cX0_read pX0_read = true := by decide +kernel
theorem ok_X0_takes : mv_ok 0 false cX0_takes pX0_takes = true := by decide +kernel
theorem ok_X0_takesLetter : mv_ok 0 false cX0_takesLetter pX0_takesLetter = true := by decide +kernel
theorem ok_X0_takesComparison : mv_ok 0 false cX0_takesComparison pX0_takesComparison = true := by decide +kernel
theorem ok_X0_takesInNumber : mv_ok 0 false cX0_takesInNumber pX0_takesInNumber = true := by decide +kernel
theorem ok_X0_takesInWeight : mv_ok 0 false cX0_takesInWeight pX0_takesInWeight = true := by decide +kernel
theorem ok_X0_isDigit : mv_ok 0 false cX0_isDigit pX0_isDigit = true := by decide +kernel
theorem ok_X0_isFor : mv_ok 0 false cX0_isFor pX0_isFor = true := by decide +kernel
theorem ok_X0_isSo : mv_ok 0 false cX0_isSo pX0_isSo = true := by decide +kernel
theorem ok_X1_init : mv_ok 1 true cX1_init pX1_init = true := by decide +kernel
theorem ok_X1_mayBe : mv_ok 1 false cX1_mayBe pX1_mayBe = true := by decide +kernel
theorem ok_X1_mayHaveBeen : mv_ok 1 false cX1_mayHaveBeen pX1_mayHaveBeen = true := by decide +kernel
theorem ok_X1_firstHour : mv_ok 1 false cX1_firstHour pX1_firstHour = true := by decide +kernel
theorem ok_X1_someAgrees : mv_ok 1 false cX1_someAgrees pX1_someAgrees = true := by decide +kernel
theorem ok_X1_menders : mv_ok 1 false cX1_menders pX1_menders = true := by decide +kernel
theorem ok_X1_mends : mv_ok 1 false cX1_mends pX1_mends = true := by decide +kernel
theorem ok_X1_isUnderWay : mv_ok 1 false cX1_isUnderWay pX1_isUnderWay = true := by decide +kernel
theorem ok_X1_heed : mv_ok 1 false cX1_heed pX1_heed = true := by decide +kernel
theorem ok_X1_heedOne : mv_ok 1 false cX1_heedOne pX1_heedOne = true := by decide +kernel
theorem ok_X1_spread : mv_ok 1 false cX1_spread pX1_spread = true := by decide +kernel
theorem ok_X1_cameAt : mv_ok 1 false cX1_cameAt pX1_cameAt = true := by decide +kernel
theorem ok_X1_arrivalsBy : mv_ok 1 false cX1_arrivalsBy pX1_arrivalsBy = true := by decide +kernel
theorem ok_X1_lookOnward : mv_ok 1 false cX1_lookOnward pX1_lookOnward = true := by decide +kernel
theorem ok_X1_goesOnAt : mv_ok 1 false cX1_goesOnAt pX1_goesOnAt = true := by decide +kernel
theorem ok_X1_departuresBy : mv_ok 1 false cX1_departuresBy pX1_departuresBy = true := by decide +kernel
theorem ok_X1_isClear : mv_ok 1 false cX1_isClear pX1_isClear = true := by decide +kernel
theorem ok_X1_cameBy : mv_ok 1 false cX1_cameBy pX1_cameBy = true := by decide +kernel
theorem ok_X1_tellWay : mv_ok 1 false cX1_tellWay pX1_tellWay = true := by decide +kernel
theorem ok_X1_wayBits : mv_ok 1 false cX1_wayBits pX1_wayBits = true := by decide +kernel
theorem ok_X2_init : mv_ok 2 true cX2_init pX2_init = true := by decide +kernel
theorem ok_X2_enact : mv_ok 2 false cX2_enact pX2_enact = true := by decide +kernel
theorem ok_X2_lodge : mv_ok 2 false cX2_lodge pX2_lodge = true := by decide +kernel
theorem ok_X2_weigh : mv_ok 2 false cX2_weigh pX2_weigh = true := by decide +kernel
theorem ok_X2_share : mv_ok 2 false cX2_share pX2_share = true := by decide +kernel
theorem ok_X3_init : mv_ok 3 true cX3_init pX3_init = true := by decide +kernel
theorem ok_X3_add : mv_ok 3 false cX3_add pX3_add = true := by decide +kernel
theorem ok_X3_misfit : mv_ok 3 false cX3_misfit pX3_misfit = true := by decide +kernel
theorem ok_X3_fittingOf : mv_ok 3 false cX3_fittingOf pX3_fittingOf = true := by decide +kernel
theorem ok_X4_init : mv_ok 4 true cX4_init pX4_init = true := by decide +kernel
theorem ok_X4_set : mv_ok 4 false cX4_set pX4_set = true := by decide +kernel
theorem ok_X4_tellOn : mv_ok 4 false cX4_tellOn pX4_tellOn = true := by decide +kernel
theorem ok_X4_agrees : mv_ok 4 false cX4_agrees pX4_agrees = true := by decide +kernel
theorem ok_X5_init : mv_ok 5 true cX5_init pX5_init = true := by decide +kernel
theorem ok_X5_add : mv_ok 5 false cX5_add pX5_add = true := by decide +kernel
theorem ok_X5_standing : mv_ok 5 false cX5_standing pX5_standing = true := by decide +kernel
theorem ok_X6_init : mv_ok 6 true cX6_init pX6_init = true := by decide +kernel
theorem ok_X6_hasParish : mv_ok 6 false cX6_hasParish pX6_hasParish = true := by decide +kernel
theorem ok_X6_hasRoad : mv_ok 6 false cX6_hasRoad pX6_hasRoad = true := by decide +kernel
theorem ok_X6_addParish : mv_ok 6 false cX6_addParish pX6_addParish = true := by decide +kernel
theorem ok_X6_addRoad : mv_ok 6 false cX6_addRoad pX6_addRoad = true := by decide +kernel
theorem ok_X6_parishesOf : mv_ok 6 false cX6_parishesOf pX6_parishesOf = true := by decide +kernel
theorem ok_X6_startBit : mv_ok 6 false cX6_startBit pX6_startBit = true := by decide +kernel
theorem ok_X6_across : mv_ok 6 false cX6_across pX6_across = true := by decide +kernel
theorem ok_X6_otherEnd : mv_ok 6 false cX6_otherEnd pX6_otherEnd = true := by decide +kernel
theorem ok_X6_shortest : mv_ok 6 false cX6_shortest pX6_shortest = true := by decide +kernel
theorem ok_X6_shorten : mv_ok 6 false cX6_shorten pX6_shorten = true := by decide +kernel
theorem ok_X7_init : mv_ok 7 true cX7_init pX7_init = true := by decide +kernel
theorem ok_X7_fewest : mv_ok 7 false cX7_fewest pX7_fewest = true := by decide +kernel
theorem ok_X7_tellPicks : mv_ok 7 false cX7_tellPicks pX7_tellPicks = true := by decide +kernel
theorem ok_X7_pickLowest : mv_ok 7 false cX7_pickLowest pX7_pickLowest = true := by decide +kernel
theorem ok_X7_pickNext : mv_ok 7 false cX7_pickNext pX7_pickNext = true := by decide +kernel
theorem ok_X7_picked : mv_ok 7 false cX7_picked pX7_picked = true := by decide +kernel
theorem ok_X7_misses : mv_ok 7 false cX7_misses pX7_misses = true := by decide +kernel
theorem ok_X7_escapes : mv_ok 7 false cX7_escapes pX7_escapes = true := by decide +kernel
theorem ok_X8_init : mv_ok 8 true cX8_init pX8_init = true := by decide +kernel
theorem ok_X8_add : mv_ok 8 false cX8_add pX8_add = true := by decide +kernel
theorem ok_X8_turnRound : mv_ok 8 false cX8_turnRound pX8_turnRound = true := by decide +kernel
theorem ok_X9_init : mv_ok 9 true cX9_init pX9_init = true := by decide +kernel
theorem ok_X9_addFour : mv_ok 9 false cX9_addFour pX9_addFour = true := by decide +kernel
theorem ok_X9_cut : mv_ok 9 false cX9_cut pX9_cut = true := by decide +kernel
theorem ok_X10_init : mv_ok 10 true cX10_init pX10_init = true := by decide +kernel
theorem ok_X10_parish : mv_ok 10 false cX10_parish pX10_parish = true := by decide +kernel
theorem ok_X10_road : mv_ok 10 false cX10_road pX10_road = true := by decide +kernel
theorem ok_X10_shut : mv_ok 10 false cX10_shut pX10_shut = true := by decide +kernel
theorem ok_X10_exit : mv_ok 10 false cX10_exit pX10_exit = true := by decide +kernel
theorem ok_X10_begin : mv_ok 10 false cX10_begin pX10_begin = true := by decide +kernel
theorem ok_X10_count : mv_ok 10 false cX10_count pX10_count = true := by decide +kernel
theorem ok_X10_far : mv_ok 10 false cX10_far pX10_far = true := by decide +kernel
theorem ok_X10_seen : mv_ok 10 false cX10_seen pX10_seen = true := by decide +kernel
theorem ok_X10_vain : mv_ok 10 false cX10_vain pX10_vain = true := by decide +kernel
theorem ok_X10_guarded : mv_ok 10 false cX10_guarded pX10_guarded = true := by decide +kernel
theorem ok_X10_strike : mv_ok 10 false cX10_strike pX10_strike = true := by decide +kernel
theorem ok_X10_may : mv_ok 10 false cX10_may pX10_may = true := by decide +kernel
theorem ok_X10_was : mv_ok 10 false cX10_was pX10_was = true := by decide +kernel
theorem ok_X10_places : mv_ok 10 false cX10_places pX10_places = true := by decide +kernel
theorem ok_X10_first : mv_ok 10 false cX10_first pX10_first = true := by decide +kernel
theorem ok_X10_trail : mv_ok 10 false cX10_trail pX10_trail = true := by decide +kernel
theorem ok_X10_quarrel : mv_ok 10 false cX10_quarrel pX10_quarrel = true := by decide +kernel
theorem ok_X10_watch : mv_ok 10 false cX10_watch pX10_watch = true := by decide +kernel
theorem ok_X10_trait : mv_ok 10 false cX10_trait pX10_trait = true := by decide +kernel
theorem ok_X10_telling : mv_ok 10 false cX10_telling pX10_telling = true := by decide +kernel
theorem ok_X10_person : mv_ok 10 false cX10_person pX10_person = true := by decide +kernel
theorem ok_X10_fits : mv_ok 10 false cX10_fits pX10_fits = true := by decide +kernel
theorem ok_X10_many : mv_ok 10 false cX10_many pX10_many = true := by decide +kernel
theorem ok_X10_suspects : mv_ok 10 false cX10_suspects pX10_suspects = true := by decide +kernel
theorem ok_X10_sign : mv_ok 10 false cX10_sign pX10_sign = true := by decide +kernel
theorem ok_X10_end : mv_ok 10 false cX10_end pX10_end = true := by decide +kernel
theorem ok_X10_act : mv_ok 10 false cX10_act pX10_act = true := by decide +kernel
theorem ok_X10_repeal : mv_ok 10 false cX10_repeal pX10_repeal = true := by decide +kernel
theorem ok_X10_claim : mv_ok 10 false cX10_claim pX10_claim = true := by decide +kernel
theorem ok_X10_weight : mv_ok 10 false cX10_weight pX10_weight = true := by decide +kernel
theorem ok_X10_reward : mv_ok 10 false cX10_reward pX10_reward = true := by decide +kernel
theorem ok_X10_waive : mv_ok 10 false cX10_waive pX10_waive = true := by decide +kernel
theorem ok_X10_canAsk : mv_ok 10 false cX10_canAsk pX10_canAsk = true := by decide +kernel
theorem ok_X10_isHour : mv_ok 10 false cX10_isHour pX10_isHour = true := by decide +kernel
theorem ok_X10_isCounty : mv_ok 10 false cX10_isCounty pX10_isCounty = true := by decide +kernel
theorem ok_X10_isNumber : mv_ok 10 false cX10_isNumber pX10_isNumber = true := by decide +kernel
theorem ok_X10_bit : mv_ok 10 false cX10_bit pX10_bit = true := by decide +kernel
theorem ok_X10_has : mv_ok 10 false cX10_has pX10_has = true := by decide +kernel
theorem ok_X11_init : mv_ok 11 true cX11_init pX11_init = true := by decide +kernel
theorem ok_X11_thrown : mv_ok 11 false cX11_thrown pX11_thrown = true := by decide +kernel
theorem ok_X11_in : mv_ok 11 false cX11_in pX11_in = true := by decide +kernel
theorem ok_X11_refuse : mv_ok 11 false cX11_refuse pX11_refuse = true := by decide +kernel
theorem ok_X11_isParish : mv_ok 11 false cX11_isParish pX11_isParish = true := by decide +kernel
theorem ok_X11_isHour : mv_ok 11 false cX11_isHour pX11_isHour = true := by decide +kernel
theorem ok_X11_parish : mv_ok 11 false cX11_parish pX11_parish = true := by decide +kernel
theorem ok_X11_road : mv_ok 11 false cX11_road pX11_road = true := by decide +kernel
theorem ok_X11_shut : mv_ok 11 false cX11_shut pX11_shut = true := by decide +kernel
theorem ok_X11_exit : mv_ok 11 false cX11_exit pX11_exit = true := by decide +kernel
theorem ok_X11_begin : mv_ok 11 false cX11_begin pX11_begin = true := by decide +kernel
theorem ok_X11_count : mv_ok 11 false cX11_count pX11_count = true := by decide +kernel
theorem ok_X11_far : mv_ok 11 false cX11_far pX11_far = true := by decide +kernel
theorem ok_X11_fact : mv_ok 11 false cX11_fact pX11_fact = true := by decide +kernel
theorem ok_X11_seen : mv_ok 11 false cX11_seen pX11_seen = true := by decide +kernel
theorem ok_X11_vain : mv_ok 11 false cX11_vain pX11_vain = true := by decide +kernel
theorem ok_X11_guarded : mv_ok 11 false cX11_guarded pX11_guarded = true := by decide +kernel
theorem ok_X11_strike : mv_ok 11 false cX11_strike pX11_strike = true := by decide +kernel
theorem ok_X11_letsIn : mv_ok 11 false cX11_letsIn pX11_letsIn = true := by decide +kernel
theorem ok_X11_isClear : mv_ok 11 false cX11_isClear pX11_isClear = true := by decide +kernel
theorem ok_X11_cell : mv_ok 11 false cX11_cell pX11_cell = true := by decide +kernel
theorem ok_X11_other : mv_ok 11 false cX11_other pX11_other = true := by decide +kernel
theorem ok_X11_mayCome : mv_ok 11 false cX11_mayCome pX11_mayCome = true := by decide +kernel
theorem ok_X11_walks : mv_ok 11 false cX11_walks pX11_walks = true := by decide +kernel
theorem ok_X11_walksOn : mv_ok 11 false cX11_walksOn pX11_walksOn = true := by decide +kernel
theorem ok_X11_mayGo : mv_ok 11 false cX11_mayGo pX11_mayGo = true := by decide +kernel
theorem ok_X11_isAsked : mv_ok 11 false cX11_isAsked pX11_isAsked = true := by decide +kernel
theorem ok_X11_may : mv_ok 11 false cX11_may pX11_may = true := by decide +kernel
theorem ok_X11_was : mv_ok 11 false cX11_was pX11_was = true := by decide +kernel
theorem ok_X11_places : mv_ok 11 false cX11_places pX11_places = true := by decide +kernel
theorem ok_X11_first : mv_ok 11 false cX11_first pX11_first = true := by decide +kernel
theorem ok_X11_trail : mv_ok 11 false cX11_trail pX11_trail = true := by decide +kernel
theorem ok_X11_agrees : mv_ok 11 false cX11_agrees pX11_agrees = true := by decide +kernel
theorem ok_X11_quarrel : mv_ok 11 false cX11_quarrel pX11_quarrel = true := by decide +kernel
theorem ok_X11_getsOut : mv_ok 11 false cX11_getsOut pX11_getsOut = true := by decide +kernel
theorem ok_X11_watchers : mv_ok 11 false cX11_watchers pX11_watchers = true := by decide +kernel
theorem ok_X11_watch : mv_ok 11 false cX11_watch pX11_watch = true := by decide +kernel
theorem ok_X11_trait : mv_ok 11 false cX11_trait pX11_trait = true := by decide +kernel
theorem ok_X11_telling : mv_ok 11 false cX11_telling pX11_telling = true := by decide +kernel
theorem ok_X11_person : mv_ok 11 false cX11_person pX11_person = true := by decide +kernel
theorem ok_X11_unfit : mv_ok 11 false cX11_unfit pX11_unfit = true := by decide +kernel
theorem ok_X11_fits : mv_ok 11 false cX11_fits pX11_fits = true := by decide +kernel
theorem ok_X11_many : mv_ok 11 false cX11_many pX11_many = true := by decide +kernel
theorem ok_X11_suspects : mv_ok 11 false cX11_suspects pX11_suspects = true := by decide +kernel
theorem ok_X11_sign : mv_ok 11 false cX11_sign pX11_sign = true := by decide +kernel
theorem ok_X11_end : mv_ok 11 false cX11_end pX11_end = true := by decide +kernel
theorem ok_X11_isSign : mv_ok 11 false cX11_isSign pX11_isSign = true := by decide +kernel
theorem ok_X11_digits : mv_ok 11 false cX11_digits pX11_digits = true := by decide +kernel
theorem ok_X11_ask : mv_ok 11 false cX11_ask pX11_ask = true := by decide +kernel
theorem ok_X11_reads : mv_ok 11 false cX11_reads pX11_reads = true := by decide +kernel
theorem ok_X11_act : mv_ok 11 false cX11_act pX11_act = true := by decide +kernel
theorem ok_X11_repeal : mv_ok 11 false cX11_repeal pX11_repeal = true := by decide +kernel
theorem ok_X11_claim : mv_ok 11 false cX11_claim pX11_claim = true := by decide +kernel
theorem ok_X11_holds : mv_ok 11 false cX11_holds pX11_holds = true := by decide +kernel
theorem ok_X11_weightOf : mv_ok 11 false cX11_weightOf pX11_weightOf = true := by decide +kernel
theorem ok_X11_weight : mv_ok 11 false cX11_weight pX11_weight = true := by decide +kernel
theorem ok_X11_reward : mv_ok 11 false cX11_reward pX11_reward = true := by decide +kernel
theorem ok_X11_waive : mv_ok 11 false cX11_waive pX11_waive = true := by decide +kernel
theorem ok_X11_row : mv_ok 11 false cX11_row pX11_row = true := by decide +kernel
theorem ok_J6_numberOfTrailingZeros_0f7a4 : mv_ok 13 false cJ6_numberOfTrailingZeros_0f7a4 pJ6_numberOfTrailingZeros_0f7a4 = true := by decide +kernel
end
section
def mv_R_iload_n (P : List (Nat × mv_I)) (rt : Option FieldType) (Rn : Nat → List Value → mv_S → Option Value → mv_S → Prop) (nM sM : Nat) (r0 : Option Value) (S0 : mv_S) (V : Nat → mv_L → List Value → mv_S → Prop) : Prop := ∀ (pc nx a b : Nat) (v : Value) (ls : mv_L) (st : List Value) (S : mv_S) (k : Fin 4) (x : Int32), mv_at P pc = some (.iload_n k, nx, a, b, v) → ls[k.val]? = some (some (.int x)) → V nx ls (.int x :: st) S → V pc ls st S
def mv_R_iload (P : List (Nat × mv_I)) (rt : Option FieldType) (Rn : Nat → List Value → mv_S → Option Value → mv_S → Prop) (nM sM : Nat) (r0 : Option Value) (S0 : mv_S) (V : Nat → mv_L → List Value → mv_S → Prop) : Prop := ∀ (pc nx a b : Nat) (v : Value) (ls : mv_L) (st : List Value) (S : mv_S) (k : Nat) (x : Int32), mv_at P pc = some (.iload k, nx, a, b, v) → ls[k]? = some (some (.int x)) → V nx ls (.int x :: st) S → V pc ls st S
def mv_R_aload_n (P : List (Nat × mv_I)) (rt : Option FieldType) (Rn : Nat → List Value → mv_S → Option Value → mv_S → Prop) (nM sM : Nat) (r0 : Option Value) (S0 : mv_S) (V : Nat → mv_L → List Value → mv_S → Prop) : Prop := ∀ (pc nx a b : Nat) (v : Value) (ls : mv_L) (st : List Value) (S : mv_S) (k : Fin 4) (x : Nat), mv_at P pc = some (.aload_n k, nx, a, b, v) → ls[k.val]? = some (some (.ref x)) → V nx ls (.ref x :: st) S → V pc ls st S
def mv_R_aload (P : List (Nat × mv_I)) (rt : Option FieldType) (Rn : Nat → List Value → mv_S → Option Value → mv_S → Prop) (nM sM : Nat) (r0 : Option Value) (S0 : mv_S) (V : Nat → mv_L → List Value → mv_S → Prop) : Prop := ∀ (pc nx a b : Nat) (v : Value) (ls : mv_L) (st : List Value) (S : mv_S) (k : Nat) (x : Nat), mv_at P pc = some (.aload k, nx, a, b, v) → ls[k]? = some (some (.ref x)) → V nx ls (.ref x :: st) S → V pc ls st S
def mv_R_lload_n (P : List (Nat × mv_I)) (rt : Option FieldType) (Rn : Nat → List Value → mv_S → Option Value → mv_S → Prop) (nM sM : Nat) (r0 : Option Value) (S0 : mv_S) (V : Nat → mv_L → List Value → mv_S → Prop) : Prop := ∀ (pc nx a b : Nat) (v : Value) (ls : mv_L) (st : List Value) (S : mv_S) (k : Fin 4) (x : Int64), mv_at P pc = some (.lload_n k, nx, a, b, v) → ls[k.val]? = some (some (.long x)) → V nx ls (.long x :: st) S → V pc ls st S
def mv_R_lload (P : List (Nat × mv_I)) (rt : Option FieldType) (Rn : Nat → List Value → mv_S → Option Value → mv_S → Prop) (nM sM : Nat) (r0 : Option Value) (S0 : mv_S) (V : Nat → mv_L → List Value → mv_S → Prop) : Prop := ∀ (pc nx a b : Nat) (v : Value) (ls : mv_L) (st : List Value) (S : mv_S) (k : Nat) (x : Int64), mv_at P pc = some (.lload k, nx, a, b, v) → ls[k]? = some (some (.long x)) → V nx ls (.long x :: st) S → V pc ls st S
def mv_R_istore_n (P : List (Nat × mv_I)) (rt : Option FieldType) (Rn : Nat → List Value → mv_S → Option Value → mv_S → Prop) (nM sM : Nat) (r0 : Option Value) (S0 : mv_S) (V : Nat → mv_L → List Value → mv_S → Prop) : Prop := ∀ (pc nx a b : Nat) (v : Value) (ls : mv_L) (st : List Value) (S : mv_S) (k : Fin 4) (x : Int32), mv_at P pc = some (.istore_n k, nx, a, b, v) → mv_pre ls k.val = true → V nx (ls.set k.val (some (.int x))) st S → V pc ls (.int x :: st) S
def mv_R_istore (P : List (Nat × mv_I)) (rt : Option FieldType) (Rn : Nat → List Value → mv_S → Option Value → mv_S → Prop) (nM sM : Nat) (r0 : Option Value) (S0 : mv_S) (V : Nat → mv_L → List Value → mv_S → Prop) : Prop := ∀ (pc nx a b : Nat) (v : Value) (ls : mv_L) (st : List Value) (S : mv_S) (k : Nat) (x : Int32), mv_at P pc = some (.istore k, nx, a, b, v) → mv_pre ls k = true → V nx (ls.set k (some (.int x))) st S → V pc ls (.int x :: st) S
def mv_R_astore_n (P : List (Nat × mv_I)) (rt : Option FieldType) (Rn : Nat → List Value → mv_S → Option Value → mv_S → Prop) (nM sM : Nat) (r0 : Option Value) (S0 : mv_S) (V : Nat → mv_L → List Value → mv_S → Prop) : Prop := ∀ (pc nx a b : Nat) (v : Value) (ls : mv_L) (st : List Value) (S : mv_S) (k : Fin 4) (x : Nat), mv_at P pc = some (.astore_n k, nx, a, b, v) → mv_pre ls k.val = true → V nx (ls.set k.val (some (.ref x))) st S → V pc ls (.ref x :: st) S
def mv_R_astore (P : List (Nat × mv_I)) (rt : Option FieldType) (Rn : Nat → List Value → mv_S → Option Value → mv_S → Prop) (nM sM : Nat) (r0 : Option Value) (S0 : mv_S) (V : Nat → mv_L → List Value → mv_S → Prop) : Prop := ∀ (pc nx a b : Nat) (v : Value) (ls : mv_L) (st : List Value) (S : mv_S) (k : Nat) (x : Nat), mv_at P pc = some (.astore k, nx, a, b, v) → mv_pre ls k = true → V nx (ls.set k (some (.ref x))) st S → V pc ls (.ref x :: st) S
def mv_R_lstore_n (P : List (Nat × mv_I)) (rt : Option FieldType) (Rn : Nat → List Value → mv_S → Option Value → mv_S → Prop) (nM sM : Nat) (r0 : Option Value) (S0 : mv_S) (V : Nat → mv_L → List Value → mv_S → Prop) : Prop := ∀ (pc nx a b : Nat) (v : Value) (ls : mv_L) (st : List Value) (S : mv_S) (k : Fin 4) (x : Int64), mv_at P pc = some (.lstore_n k, nx, a, b, v) → mv_pre ls k.val = true → k.val + 1 < ls.length → V nx ((ls.set k.val (some (.long x))).set (k.val + 1) none) st S → V pc ls (.long x :: st) S
def mv_R_lstore (P : List (Nat × mv_I)) (rt : Option FieldType) (Rn : Nat → List Value → mv_S → Option Value → mv_S → Prop) (nM sM : Nat) (r0 : Option Value) (S0 : mv_S) (V : Nat → mv_L → List Value → mv_S → Prop) : Prop := ∀ (pc nx a b : Nat) (v : Value) (ls : mv_L) (st : List Value) (S : mv_S) (k : Nat) (x : Int64), mv_at P pc = some (.lstore k, nx, a, b, v) → mv_pre ls k = true → k + 1 < ls.length → V nx ((ls.set k (some (.long x))).set (k + 1) none) st S → V pc ls (.long x :: st) S
def mv_R_iinc (P : List (Nat × mv_I)) (rt : Option FieldType) (Rn : Nat → List Value → mv_S → Option Value → mv_S → Prop) (nM sM : Nat) (r0 : Option Value) (S0 : mv_S) (V : Nat → mv_L → List Value → mv_S → Prop) : Prop := ∀ (pc nx a b : Nat) (ls : mv_L) (st : List Value) (S : mv_S) (k : Nat) (n : Int) (x y : Int32), mv_at P pc = some (.iinc k n, nx, a, b, .int y) → ls[k]? = some (some (.int x)) → mv_pre ls k = true → V nx (ls.set k (some (.int (x + y)))) st S → V pc ls st S
def mv_R_iconst (P : List (Nat × mv_I)) (rt : Option FieldType) (Rn : Nat → List Value → mv_S → Option Value → mv_S → Prop) (nM sM : Nat) (r0 : Option Value) (S0 : mv_S) (V : Nat → mv_L → List Value → mv_S → Prop) : Prop := ∀ (pc nx a b : Nat) (v : Value) (ls : mv_L) (st : List Value) (S : mv_S) (n : Int), mv_at P pc = some (.iconst n, nx, a, b, v) → V nx ls (v :: st) S → V pc ls st S
def mv_R_bipush (P : List (Nat × mv_I)) (rt : Option FieldType) (Rn : Nat → List Value → mv_S → Option Value → mv_S → Prop) (nM sM : Nat) (r0 : Option Value) (S0 : mv_S) (V : Nat → mv_L → List Value → mv_S → Prop) : Prop := ∀ (pc nx a b : Nat) (v : Value) (ls : mv_L) (st : List Value) (S : mv_S) (n : Int), mv_at P pc = some (.bipush n, nx, a, b, v) → V nx ls (v :: st) S → V pc ls st S
def mv_R_sipush (P : List (Nat × mv_I)) (rt : Option FieldType) (Rn : Nat → List Value → mv_S → Option Value → mv_S → Prop) (nM sM : Nat) (r0 : Option Value) (S0 : mv_S) (V : Nat → mv_L → List Value → mv_S → Prop) : Prop := ∀ (pc nx a b : Nat) (v : Value) (ls : mv_L) (st : List Value) (S : mv_S) (n : Int), mv_at P pc = some (.sipush n, nx, a, b, v) → V nx ls (v :: st) S → V pc ls st S
def mv_R_ldc (P : List (Nat × mv_I)) (rt : Option FieldType) (Rn : Nat → List Value → mv_S → Option Value → mv_S → Prop) (nM sM : Nat) (r0 : Option Value) (S0 : mv_S) (V : Nat → mv_L → List Value → mv_S → Prop) : Prop := ∀ (pc nx a b : Nat) (v : Value) (ls : mv_L) (st : List Value) (S : mv_S) (n : Nat), mv_at P pc = some (.ldc n, nx, a, b, v) → V nx ls (v :: st) S → V pc ls st S
def mv_R_ldc_w (P : List (Nat × mv_I)) (rt : Option FieldType) (Rn : Nat → List Value → mv_S → Option Value → mv_S → Prop) (nM sM : Nat) (r0 : Option Value) (S0 : mv_S) (V : Nat → mv_L → List Value → mv_S → Prop) : Prop := ∀ (pc nx a b : Nat) (v : Value) (ls : mv_L) (st : List Value) (S : mv_S) (n : Nat), mv_at P pc = some (.ldc_w n, nx, a, b, v) → V nx ls (v :: st) S → V pc ls st S
def mv_R_lconst (P : List (Nat × mv_I)) (rt : Option FieldType) (Rn : Nat → List Value → mv_S → Option Value → mv_S → Prop) (nM sM : Nat) (r0 : Option Value) (S0 : mv_S) (V : Nat → mv_L → List Value → mv_S → Prop) : Prop := ∀ (pc nx a b : Nat) (v : Value) (ls : mv_L) (st : List Value) (S : mv_S) (n : Fin 2), mv_at P pc = some (.lconst n, nx, a, b, v) → V nx ls (v :: st) S → V pc ls st S
def mv_R_ldc2_w (P : List (Nat × mv_I)) (rt : Option FieldType) (Rn : Nat → List Value → mv_S → Option Value → mv_S → Prop) (nM sM : Nat) (r0 : Option Value) (S0 : mv_S) (V : Nat → mv_L → List Value → mv_S → Prop) : Prop := ∀ (pc nx a b : Nat) (v : Value) (ls : mv_L) (st : List Value) (S : mv_S) (n : Nat), mv_at P pc = some (.ldc2_w n, nx, a, b, v) → V nx ls (v :: st) S → V pc ls st S
def mv_R_iadd (P : List (Nat × mv_I)) (rt : Option FieldType) (Rn : Nat → List Value → mv_S → Option Value → mv_S → Prop) (nM sM : Nat) (r0 : Option Value) (S0 : mv_S) (V : Nat → mv_L → List Value → mv_S → Prop) : Prop := ∀ (pc nx a b : Nat) (v : Value) (ls : mv_L) (st : List Value) (S : mv_S) (x y : Int32), mv_at P pc = some (.iadd, nx, a, b, v) → V nx ls (.int (x + y) :: st) S → V pc ls (.int y :: .int x :: st) S
def mv_R_isub (P : List (Nat × mv_I)) (rt : Option FieldType) (Rn : Nat → List Value → mv_S → Option Value → mv_S → Prop) (nM sM : Nat) (r0 : Option Value) (S0 : mv_S) (V : Nat → mv_L → List Value → mv_S → Prop) : Prop := ∀ (pc nx a b : Nat) (v : Value) (ls : mv_L) (st : List Value) (S : mv_S) (x y : Int32), mv_at P pc = some (.isub, nx, a, b, v) → V nx ls (.int (x - y) :: st) S → V pc ls (.int y :: .int x :: st) S
def mv_R_imul (P : List (Nat × mv_I)) (rt : Option FieldType) (Rn : Nat → List Value → mv_S → Option Value → mv_S → Prop) (nM sM : Nat) (r0 : Option Value) (S0 : mv_S) (V : Nat → mv_L → List Value → mv_S → Prop) : Prop := ∀ (pc nx a b : Nat) (v : Value) (ls : mv_L) (st : List Value) (S : mv_S) (x y : Int32), mv_at P pc = some (.imul, nx, a, b, v) → V nx ls (.int (x * y) :: st) S → V pc ls (.int y :: .int x :: st) S
def mv_R_iand (P : List (Nat × mv_I)) (rt : Option FieldType) (Rn : Nat → List Value → mv_S → Option Value → mv_S → Prop) (nM sM : Nat) (r0 : Option Value) (S0 : mv_S) (V : Nat → mv_L → List Value → mv_S → Prop) : Prop := ∀ (pc nx a b : Nat) (v : Value) (ls : mv_L) (st : List Value) (S : mv_S) (x y : Int32), mv_at P pc = some (.iand, nx, a, b, v) → V nx ls (.int (x &&& y) :: st) S → V pc ls (.int y :: .int x :: st) S
def mv_R_ior (P : List (Nat × mv_I)) (rt : Option FieldType) (Rn : Nat → List Value → mv_S → Option Value → mv_S → Prop) (nM sM : Nat) (r0 : Option Value) (S0 : mv_S) (V : Nat → mv_L → List Value → mv_S → Prop) : Prop := ∀ (pc nx a b : Nat) (v : Value) (ls : mv_L) (st : List Value) (S : mv_S) (x y : Int32), mv_at P pc = some (.ior, nx, a, b, v) → V nx ls (.int (x ||| y) :: st) S → V pc ls (.int y :: .int x :: st) S
def mv_R_ixor (P : List (Nat × mv_I)) (rt : Option FieldType) (Rn : Nat → List Value → mv_S → Option Value → mv_S → Prop) (nM sM : Nat) (r0 : Option Value) (S0 : mv_S) (V : Nat → mv_L → List Value → mv_S → Prop) : Prop := ∀ (pc nx a b : Nat) (v : Value) (ls : mv_L) (st : List Value) (S : mv_S) (x y : Int32), mv_at P pc = some (.ixor, nx, a, b, v) → V nx ls (.int (x ^^^ y) :: st) S → V pc ls (.int y :: .int x :: st) S
def mv_R_ishl (P : List (Nat × mv_I)) (rt : Option FieldType) (Rn : Nat → List Value → mv_S → Option Value → mv_S → Prop) (nM sM : Nat) (r0 : Option Value) (S0 : mv_S) (V : Nat → mv_L → List Value → mv_S → Prop) : Prop := ∀ (pc nx a b : Nat) (v : Value) (ls : mv_L) (st : List Value) (S : mv_S) (x y : Int32), mv_at P pc = some (.ishl, nx, a, b, v) → V nx ls (.int (x <<< (y &&& 31)) :: st) S → V pc ls (.int y :: .int x :: st) S
def mv_R_ishr (P : List (Nat × mv_I)) (rt : Option FieldType) (Rn : Nat → List Value → mv_S → Option Value → mv_S → Prop) (nM sM : Nat) (r0 : Option Value) (S0 : mv_S) (V : Nat → mv_L → List Value → mv_S → Prop) : Prop := ∀ (pc nx a b : Nat) (v : Value) (ls : mv_L) (st : List Value) (S : mv_S) (x y : Int32), mv_at P pc = some (.ishr, nx, a, b, v) → V nx ls (.int (x >>> (y &&& 31)) :: st) S → V pc ls (.int y :: .int x :: st) S
def mv_R_iushr (P : List (Nat × mv_I)) (rt : Option FieldType) (Rn : Nat → List Value → mv_S → Option Value → mv_S → Prop) (nM sM : Nat) (r0 : Option Value) (S0 : mv_S) (V : Nat → mv_L → List Value → mv_S → Prop) : Prop := ∀ (pc nx a b : Nat) (v : Value) (ls : mv_L) (st : List Value) (S : mv_S) (x y : Int32), mv_at P pc = some (.iushr, nx, a, b, v) → V nx ls (.int ((x.toUInt32 >>> (y.toUInt32 &&& Int32.toUInt32 31)).toInt32) :: st) S → V pc ls (.int y :: .int x :: st) S
def mv_R_idiv (P : List (Nat × mv_I)) (rt : Option FieldType) (Rn : Nat → List Value → mv_S → Option Value → mv_S → Prop) (nM sM : Nat) (r0 : Option Value) (S0 : mv_S) (V : Nat → mv_L → List Value → mv_S → Prop) : Prop := ∀ (pc nx a b : Nat) (v : Value) (ls : mv_L) (st : List Value) (S : mv_S) (x y : Int32), mv_at P pc = some (.idiv, nx, a, b, v) → ¬ y = 0 → V nx ls (.int (x / y) :: st) S → V pc ls (.int y :: .int x :: st) S
def mv_R_irem (P : List (Nat × mv_I)) (rt : Option FieldType) (Rn : Nat → List Value → mv_S → Option Value → mv_S → Prop) (nM sM : Nat) (r0 : Option Value) (S0 : mv_S) (V : Nat → mv_L → List Value → mv_S → Prop) : Prop := ∀ (pc nx a b : Nat) (v : Value) (ls : mv_L) (st : List Value) (S : mv_S) (x y : Int32), mv_at P pc = some (.irem, nx, a, b, v) → ¬ y = 0 → V nx ls (.int (x - x / y * y) :: st) S → V pc ls (.int y :: .int x :: st) S
def mv_R_ladd (P : List (Nat × mv_I)) (rt : Option FieldType) (Rn : Nat → List Value → mv_S → Option Value → mv_S → Prop) (nM sM : Nat) (r0 : Option Value) (S0 : mv_S) (V : Nat → mv_L → List Value → mv_S → Prop) : Prop := ∀ (pc nx a b : Nat) (v : Value) (ls : mv_L) (st : List Value) (S : mv_S) (x y : Int64), mv_at P pc = some (.ladd, nx, a, b, v) → V nx ls (.long (x + y) :: st) S → V pc ls (.long y :: .long x :: st) S
def mv_R_lsub (P : List (Nat × mv_I)) (rt : Option FieldType) (Rn : Nat → List Value → mv_S → Option Value → mv_S → Prop) (nM sM : Nat) (r0 : Option Value) (S0 : mv_S) (V : Nat → mv_L → List Value → mv_S → Prop) : Prop := ∀ (pc nx a b : Nat) (v : Value) (ls : mv_L) (st : List Value) (S : mv_S) (x y : Int64), mv_at P pc = some (.lsub, nx, a, b, v) → V nx ls (.long (x - y) :: st) S → V pc ls (.long y :: .long x :: st) S
def mv_R_lmul (P : List (Nat × mv_I)) (rt : Option FieldType) (Rn : Nat → List Value → mv_S → Option Value → mv_S → Prop) (nM sM : Nat) (r0 : Option Value) (S0 : mv_S) (V : Nat → mv_L → List Value → mv_S → Prop) : Prop := ∀ (pc nx a b : Nat) (v : Value) (ls : mv_L) (st : List Value) (S : mv_S) (x y : Int64), mv_at P pc = some (.lmul, nx, a, b, v) → V nx ls (.long (x * y) :: st) S → V pc ls (.long y :: .long x :: st) S
def mv_R_land (P : List (Nat × mv_I)) (rt : Option FieldType) (Rn : Nat → List Value → mv_S → Option Value → mv_S → Prop) (nM sM : Nat) (r0 : Option Value) (S0 : mv_S) (V : Nat → mv_L → List Value → mv_S → Prop) : Prop := ∀ (pc nx a b : Nat) (v : Value) (ls : mv_L) (st : List Value) (S : mv_S) (x y : Int64), mv_at P pc = some (.land, nx, a, b, v) → V nx ls (.long (x &&& y) :: st) S → V pc ls (.long y :: .long x :: st) S
def mv_R_lor (P : List (Nat × mv_I)) (rt : Option FieldType) (Rn : Nat → List Value → mv_S → Option Value → mv_S → Prop) (nM sM : Nat) (r0 : Option Value) (S0 : mv_S) (V : Nat → mv_L → List Value → mv_S → Prop) : Prop := ∀ (pc nx a b : Nat) (v : Value) (ls : mv_L) (st : List Value) (S : mv_S) (x y : Int64), mv_at P pc = some (.lor, nx, a, b, v) → V nx ls (.long (x ||| y) :: st) S → V pc ls (.long y :: .long x :: st) S
def mv_R_ldiv (P : List (Nat × mv_I)) (rt : Option FieldType) (Rn : Nat → List Value → mv_S → Option Value → mv_S → Prop) (nM sM : Nat) (r0 : Option Value) (S0 : mv_S) (V : Nat → mv_L → List Value → mv_S → Prop) : Prop := ∀ (pc nx a b : Nat) (v : Value) (ls : mv_L) (st : List Value) (S : mv_S) (x y : Int64), mv_at P pc = some (.ldiv, nx, a, b, v) → ¬ y = 0 → V nx ls (.long (x / y) :: st) S → V pc ls (.long y :: .long x :: st) S
def mv_R_lshl (P : List (Nat × mv_I)) (rt : Option FieldType) (Rn : Nat → List Value → mv_S → Option Value → mv_S → Prop) (nM sM : Nat) (r0 : Option Value) (S0 : mv_S) (V : Nat → mv_L → List Value → mv_S → Prop) : Prop := ∀ (pc nx a b : Nat) (v : Value) (ls : mv_L) (st : List Value) (S : mv_S) (x : Int64) (y : Int32), mv_at P pc = some (.lshl, nx, a, b, v) → V nx ls (.long (x <<< (y.toInt64 &&& 63)) :: st) S → V pc ls (.int y :: .long x :: st) S
def mv_R_lcmp (P : List (Nat × mv_I)) (rt : Option FieldType) (Rn : Nat → List Value → mv_S → Option Value → mv_S → Prop) (nM sM : Nat) (r0 : Option Value) (S0 : mv_S) (V : Nat → mv_L → List Value → mv_S → Prop) : Prop := ∀ (pc nx a b : Nat) (v : Value) (ls : mv_L) (st : List Value) (S : mv_S) (x y : Int64), mv_at P pc = some (.lcmp, nx, a, b, v) → V nx ls (.int (lg_cmp x y) :: st) S → V pc ls (.long y :: .long x :: st) S
def mv_R_i2l (P : List (Nat × mv_I)) (rt : Option FieldType) (Rn : Nat → List Value → mv_S → Option Value → mv_S → Prop) (nM sM : Nat) (r0 : Option Value) (S0 : mv_S) (V : Nat → mv_L → List Value → mv_S → Prop) : Prop := ∀ (pc nx a b : Nat) (v : Value) (ls : mv_L) (st : List Value) (S : mv_S) (x : Int32), mv_at P pc = some (.i2l, nx, a, b, v) → V nx ls (.long x.toInt64 :: st) S → V pc ls (.int x :: st) S
def mv_R_l2i (P : List (Nat × mv_I)) (rt : Option FieldType) (Rn : Nat → List Value → mv_S → Option Value → mv_S → Prop) (nM sM : Nat) (r0 : Option Value) (S0 : mv_S) (V : Nat → mv_L → List Value → mv_S → Prop) : Prop := ∀ (pc nx a b : Nat) (v : Value) (ls : mv_L) (st : List Value) (S : mv_S) (x : Int64), mv_at P pc = some (.l2i, nx, a, b, v) → V nx ls (.int x.toInt32 :: st) S → V pc ls (.long x :: st) S
def mv_R_ineg (P : List (Nat × mv_I)) (rt : Option FieldType) (Rn : Nat → List Value → mv_S → Option Value → mv_S → Prop) (nM sM : Nat) (r0 : Option Value) (S0 : mv_S) (V : Nat → mv_L → List Value → mv_S → Prop) : Prop := ∀ (pc nx a b : Nat) (v : Value) (ls : mv_L) (st : List Value) (S : mv_S) (x : Int32), mv_at P pc = some (.ineg, nx, a, b, v) → V nx ls (.int (-x) :: st) S → V pc ls (.int x :: st) S
def mv_R_dup (P : List (Nat × mv_I)) (rt : Option FieldType) (Rn : Nat → List Value → mv_S → Option Value → mv_S → Prop) (nM sM : Nat) (r0 : Option Value) (S0 : mv_S) (V : Nat → mv_L → List Value → mv_S → Prop) : Prop := ∀ (pc nx a b : Nat) (v : Value) (ls : mv_L) (st : List Value) (S : mv_S) (x : Value), mv_at P pc = some (.dup, nx, a, b, v) → x.category = 1 → V nx ls (x :: x :: st) S → V pc ls (x :: st) S
def mv_R_dup2 (P : List (Nat × mv_I)) (rt : Option FieldType) (Rn : Nat → List Value → mv_S → Option Value → mv_S → Prop) (nM sM : Nat) (r0 : Option Value) (S0 : mv_S) (V : Nat → mv_L → List Value → mv_S → Prop) : Prop := ∀ (pc nx a b : Nat) (v : Value) (ls : mv_L) (st : List Value) (S : mv_S) (x y : Value), mv_at P pc = some (.dup2, nx, a, b, v) → x.category = 1 → y.category = 1 → V nx ls (x :: y :: x :: y :: st) S → V pc ls (x :: y :: st) S
def mv_R_pop (P : List (Nat × mv_I)) (rt : Option FieldType) (Rn : Nat → List Value → mv_S → Option Value → mv_S → Prop) (nM sM : Nat) (r0 : Option Value) (S0 : mv_S) (V : Nat → mv_L → List Value → mv_S → Prop) : Prop := ∀ (pc nx a b : Nat) (v : Value) (ls : mv_L) (st : List Value) (S : mv_S) (x : Value), mv_at P pc = some (.pop, nx, a, b, v) → x.category = 1 → V nx ls st S → V pc ls (x :: st) S
def mv_R_goto (P : List (Nat × mv_I)) (rt : Option FieldType) (Rn : Nat → List Value → mv_S → Option Value → mv_S → Prop) (nM sM : Nat) (r0 : Option Value) (S0 : mv_S) (V : Nat → mv_L → List Value → mv_S → Prop) : Prop := ∀ (pc nx a b : Nat) (v : Value) (ls : mv_L) (st : List Value) (S : mv_S) (o : Int), mv_at P pc = some (.goto o, nx, a, b, v) → V a ls st S → V pc ls st S
def mv_R_if_eq (P : List (Nat × mv_I)) (rt : Option FieldType) (Rn : Nat → List Value → mv_S → Option Value → mv_S → Prop) (nM sM : Nat) (r0 : Option Value) (S0 : mv_S) (V : Nat → mv_L → List Value → mv_S → Prop) : Prop := ∀ (pc nx a b : Nat) (v : Value) (ls : mv_L) (st : List Value) (S : mv_S) (o : Int) (x : Int32), mv_at P pc = some (.ifCond .eq o, nx, a, b, v) → (x = 0 → V a ls st S) → (¬ (x = 0) → V nx ls st S) → V pc ls (.int x :: st) S
def mv_R_if_ne (P : List (Nat × mv_I)) (rt : Option FieldType) (Rn : Nat → List Value → mv_S → Option Value → mv_S → Prop) (nM sM : Nat) (r0 : Option Value) (S0 : mv_S) (V : Nat → mv_L → List Value → mv_S → Prop) : Prop := ∀ (pc nx a b : Nat) (v : Value) (ls : mv_L) (st : List Value) (S : mv_S) (o : Int) (x : Int32), mv_at P pc = some (.ifCond .ne o, nx, a, b, v) → (¬ x = 0 → V a ls st S) → (x = 0 → V nx ls st S) → V pc ls (.int x :: st) S
def mv_R_if_lt (P : List (Nat × mv_I)) (rt : Option FieldType) (Rn : Nat → List Value → mv_S → Option Value → mv_S → Prop) (nM sM : Nat) (r0 : Option Value) (S0 : mv_S) (V : Nat → mv_L → List Value → mv_S → Prop) : Prop := ∀ (pc nx a b : Nat) (v : Value) (ls : mv_L) (st : List Value) (S : mv_S) (o : Int) (x : Int32), mv_at P pc = some (.ifCond .lt o, nx, a, b, v) → (x < 0 → V a ls st S) → (¬ (x < 0) → V nx ls st S) → V pc ls (.int x :: st) S
def mv_R_if_ge (P : List (Nat × mv_I)) (rt : Option FieldType) (Rn : Nat → List Value → mv_S → Option Value → mv_S → Prop) (nM sM : Nat) (r0 : Option Value) (S0 : mv_S) (V : Nat → mv_L → List Value → mv_S → Prop) : Prop := ∀ (pc nx a b : Nat) (v : Value) (ls : mv_L) (st : List Value) (S : mv_S) (o : Int) (x : Int32), mv_at P pc = some (.ifCond .ge o, nx, a, b, v) → (0 ≤ x → V a ls st S) → (¬ (0 ≤ x) → V nx ls st S) → V pc ls (.int x :: st) S
def mv_R_if_gt (P : List (Nat × mv_I)) (rt : Option FieldType) (Rn : Nat → List Value → mv_S → Option Value → mv_S → Prop) (nM sM : Nat) (r0 : Option Value) (S0 : mv_S) (V : Nat → mv_L → List Value → mv_S → Prop) : Prop := ∀ (pc nx a b : Nat) (v : Value) (ls : mv_L) (st : List Value) (S : mv_S) (o : Int) (x : Int32), mv_at P pc = some (.ifCond .gt o, nx, a, b, v) → (0 < x → V a ls st S) → (¬ (0 < x) → V nx ls st S) → V pc ls (.int x :: st) S
def mv_R_if_le (P : List (Nat × mv_I)) (rt : Option FieldType) (Rn : Nat → List Value → mv_S → Option Value → mv_S → Prop) (nM sM : Nat) (r0 : Option Value) (S0 : mv_S) (V : Nat → mv_L → List Value → mv_S → Prop) : Prop := ∀ (pc nx a b : Nat) (v : Value) (ls : mv_L) (st : List Value) (S : mv_S) (o : Int) (x : Int32), mv_at P pc = some (.ifCond .le o, nx, a, b, v) → (x ≤ 0 → V a ls st S) → (¬ (x ≤ 0) → V nx ls st S) → V pc ls (.int x :: st) S
def mv_R_icmp_eq (P : List (Nat × mv_I)) (rt : Option FieldType) (Rn : Nat → List Value → mv_S → Option Value → mv_S → Prop) (nM sM : Nat) (r0 : Option Value) (S0 : mv_S) (V : Nat → mv_L → List Value → mv_S → Prop) : Prop := ∀ (pc nx a b : Nat) (v : Value) (ls : mv_L) (st : List Value) (S : mv_S) (o : Int) (x y : Int32), mv_at P pc = some (.if_icmp .eq o, nx, a, b, v) → (x = y → V a ls st S) → (¬ (x = y) → V nx ls st S) → V pc ls (.int y :: .int x :: st) S
def mv_R_icmp_ne (P : List (Nat × mv_I)) (rt : Option FieldType) (Rn : Nat → List Value → mv_S → Option Value → mv_S → Prop) (nM sM : Nat) (r0 : Option Value) (S0 : mv_S) (V : Nat → mv_L → List Value → mv_S → Prop) : Prop := ∀ (pc nx a b : Nat) (v : Value) (ls : mv_L) (st : List Value) (S : mv_S) (o : Int) (x y : Int32), mv_at P pc = some (.if_icmp .ne o, nx, a, b, v) → (¬ x = y → V a ls st S) → (x = y → V nx ls st S) → V pc ls (.int y :: .int x :: st) S
def mv_R_icmp_lt (P : List (Nat × mv_I)) (rt : Option FieldType) (Rn : Nat → List Value → mv_S → Option Value → mv_S → Prop) (nM sM : Nat) (r0 : Option Value) (S0 : mv_S) (V : Nat → mv_L → List Value → mv_S → Prop) : Prop := ∀ (pc nx a b : Nat) (v : Value) (ls : mv_L) (st : List Value) (S : mv_S) (o : Int) (x y : Int32), mv_at P pc = some (.if_icmp .lt o, nx, a, b, v) → (x < y → V a ls st S) → (¬ (x < y) → V nx ls st S) → V pc ls (.int y :: .int x :: st) S
def mv_R_icmp_ge (P : List (Nat × mv_I)) (rt : Option FieldType) (Rn : Nat → List Value → mv_S → Option Value → mv_S → Prop) (nM sM : Nat) (r0 : Option Value) (S0 : mv_S) (V : Nat → mv_L → List Value → mv_S → Prop) : Prop := ∀ (pc nx a b : Nat) (v : Value) (ls : mv_L) (st : List Value) (S : mv_S) (o : Int) (x y : Int32), mv_at P pc = some (.if_icmp .ge o, nx, a, b, v) → (y ≤ x → V a ls st S) → (¬ (y ≤ x) → V nx ls st S) → V pc ls (.int y :: .int x :: st) S
def mv_R_icmp_gt (P : List (Nat × mv_I)) (rt : Option FieldType) (Rn : Nat → List Value → mv_S → Option Value → mv_S → Prop) (nM sM : Nat) (r0 : Option Value) (S0 : mv_S) (V : Nat → mv_L → List Value → mv_S → Prop) : Prop := ∀ (pc nx a b : Nat) (v : Value) (ls : mv_L) (st : List Value) (S : mv_S) (o : Int) (x y : Int32), mv_at P pc = some (.if_icmp .gt o, nx, a, b, v) → (y < x → V a ls st S) → (¬ (y < x) → V nx ls st S) → V pc ls (.int y :: .int x :: st) S
def mv_R_icmp_le (P : List (Nat × mv_I)) (rt : Option FieldType) (Rn : Nat → List Value → mv_S → Option Value → mv_S → Prop) (nM sM : Nat) (r0 : Option Value) (S0 : mv_S) (V : Nat → mv_L → List Value → mv_S → Prop) : Prop := ∀ (pc nx a b : Nat) (v : Value) (ls : mv_L) (st : List Value) (S : mv_S) (o : Int) (x y : Int32), mv_at P pc = some (.if_icmp .le o, nx, a, b, v) → (x ≤ y → V a ls st S) → (¬ (x ≤ y) → V nx ls st S) → V pc ls (.int y :: .int x :: st) S
def mv_R_tsw_out (P : List (Nat × mv_I)) (rt : Option FieldType) (Rn : Nat → List Value → mv_S → Option Value → mv_S → Prop) (nM sM : Nat) (r0 : Option Value) (S0 : mv_S) (V : Nat → mv_L → List Value → mv_S → Prop) : Prop := ∀ (pc nx a b : Nat) (v : Value) (ls : mv_L) (st : List Value) (S : mv_S) (d lo hi : Int) (os : Array Int) (x : Int32) (t : Nat), mv_at P pc = some (.tableswitch d lo hi os, nx, a, b, v) → x.toInt < lo ∨ hi < x.toInt → (b : Int) + d = (t : Int) → V t ls st S → V pc ls (.int x :: st) S
def mv_R_tsw_in (P : List (Nat × mv_I)) (rt : Option FieldType) (Rn : Nat → List Value → mv_S → Option Value → mv_S → Prop) (nM sM : Nat) (r0 : Option Value) (S0 : mv_S) (V : Nat → mv_L → List Value → mv_S → Prop) : Prop := ∀ (pc nx a b : Nat) (v : Value) (ls : mv_L) (st : List Value) (S : mv_S) (d lo hi : Int) (os : Array Int) (x : Int32) (o : Int) (t : Nat), mv_at P pc = some (.tableswitch d lo hi os, nx, a, b, v) → ¬ x.toInt < lo → ¬ hi < x.toInt → os[(x.toInt - lo).toNat]? = some o → (b : Int) + o = (t : Int) → V t ls st S → V pc ls (.int x :: st) S
def mv_R_lsw (P : List (Nat × mv_I)) (rt : Option FieldType) (Rn : Nat → List Value → mv_S → Option Value → mv_S → Prop) (nM sM : Nat) (r0 : Option Value) (S0 : mv_S) (V : Nat → mv_L → List Value → mv_S → Prop) : Prop := ∀ (pc nx a b : Nat) (v : Value) (ls : mv_L) (st : List Value) (S : mv_S) (d : Int) (ps : Array (Int × Int)) (x : Int32) (o : Int) (t : Nat), mv_at P pc = some (.lookupswitch d ps, nx, a, b, v) → Op.lookupswitch.offset ps.toList d x.toInt = o → (b : Int) + o = (t : Int) → V t ls st S → V pc ls (.int x :: st) S
def mv_R_getfield (P : List (Nat × mv_I)) (rt : Option FieldType) (Rn : Nat → List Value → mv_S → Option Value → mv_S → Prop) (nM sM : Nat) (r0 : Option Value) (S0 : mv_S) (V : Nat → mv_L → List Value → mv_S → Prop) : Prop := ∀ (pc nx a b : Nat) (v : Value) (ls : mv_L) (st : List Value) (S : mv_S) (n q : Nat) (fs : List Value) (x : Value), mv_at P pc = some (.getfield n, nx, a, b, v) → q < S.1 → S.2.2 q = .inr (a, fs) → fs[b]? = some x → V nx ls (x :: st) S → V pc ls (.ref q :: st) S
def mv_R_putfield (P : List (Nat × mv_I)) (rt : Option FieldType) (Rn : Nat → List Value → mv_S → Option Value → mv_S → Prop) (nM sM : Nat) (r0 : Option Value) (S0 : mv_S) (V : Nat → mv_L → List Value → mv_S → Prop) : Prop := ∀ (pc nx a b : Nat) (v : Value) (ls : mv_L) (st : List Value) (S : mv_S) (n q : Nat) (fs : List Value) (x : Value), mv_at P pc = some (.putfield n, nx, a, b, v) → q < S.1 → S.2.2 q = .inr (a, fs) → b < fs.length → mv_vok a b x = true → V nx ls st (S.1, S.2.1, va_up S.2.2 q (.inr (a, fs.set b x))) → V pc ls (x :: .ref q :: st) S
def mv_R_iaload (P : List (Nat × mv_I)) (rt : Option FieldType) (Rn : Nat → List Value → mv_S → Option Value → mv_S → Prop) (nM sM : Nat) (r0 : Option Value) (S0 : mv_S) (V : Nat → mv_L → List Value → mv_S → Prop) : Prop := ∀ (pc nx a b : Nat) (v : Value) (ls : mv_L) (st : List Value) (S : mv_S) (q len : Nat) (f : Nat → Int32) (x : Int32), mv_at P pc = some (.iaload, nx, a, b, v) → q < S.1 → S.2.2 q = .inl (0, len, .inl f) → vp_in x len → V nx ls (.int (f x.toNatClampNeg) :: st) S → V pc ls (.int x :: .ref q :: st) S
def mv_R_baload (P : List (Nat × mv_I)) (rt : Option FieldType) (Rn : Nat → List Value → mv_S → Option Value → mv_S → Prop) (nM sM : Nat) (r0 : Option Value) (S0 : mv_S) (V : Nat → mv_L → List Value → mv_S → Prop) : Prop := ∀ (pc nx a b : Nat) (v : Value) (ls : mv_L) (st : List Value) (S : mv_S) (q len : Nat) (f : Nat → Int32) (x : Int32), mv_at P pc = some (.baload, nx, a, b, v) → q < S.1 → S.2.2 q = .inl (1, len, .inl f) → vp_in x len → V nx ls (.int (f x.toNatClampNeg) :: st) S → V pc ls (.int x :: .ref q :: st) S
def mv_R_laload (P : List (Nat × mv_I)) (rt : Option FieldType) (Rn : Nat → List Value → mv_S → Option Value → mv_S → Prop) (nM sM : Nat) (r0 : Option Value) (S0 : mv_S) (V : Nat → mv_L → List Value → mv_S → Prop) : Prop := ∀ (pc nx a b : Nat) (v : Value) (ls : mv_L) (st : List Value) (S : mv_S) (q len : Nat) (f : Nat → Int64) (x : Int32), mv_at P pc = some (.laload, nx, a, b, v) → q < S.1 → S.2.2 q = .inl (2, len, .inr (.inl f)) → vp_in x len → V nx ls (.long (f x.toNatClampNeg) :: st) S → V pc ls (.int x :: .ref q :: st) S
def mv_R_aaload (P : List (Nat × mv_I)) (rt : Option FieldType) (Rn : Nat → List Value → mv_S → Option Value → mv_S → Prop) (nM sM : Nat) (r0 : Option Value) (S0 : mv_S) (V : Nat → mv_L → List Value → mv_S → Prop) : Prop := ∀ (pc nx a b : Nat) (v : Value) (ls : mv_L) (st : List Value) (S : mv_S) (q len y : Nat) (f : Nat → Option Nat) (x : Int32), mv_at P pc = some (.aaload, nx, a, b, v) → q < S.1 → S.2.2 q = .inl (3, len, .inr (.inr (.inr (.inr f)))) → vp_in x len → f x.toNatClampNeg = some y → V nx ls (.ref y :: st) S → V pc ls (.int x :: .ref q :: st) S
def mv_R_iastore (P : List (Nat × mv_I)) (rt : Option FieldType) (Rn : Nat → List Value → mv_S → Option Value → mv_S → Prop) (nM sM : Nat) (r0 : Option Value) (S0 : mv_S) (V : Nat → mv_L → List Value → mv_S → Prop) : Prop := ∀ (pc nx a b : Nat) (v : Value) (ls : mv_L) (st : List Value) (S : mv_S) (q len : Nat) (f : Nat → Int32) (x y : Int32), mv_at P pc = some (.iastore, nx, a, b, v) → q < S.1 → S.2.2 q = .inl (0, len, .inl f) → vp_in x len → V nx ls st (S.1, S.2.1, va_up S.2.2 q (.inl (0, len, .inl (upd f x.toNatClampNeg y)))) → V pc ls (.int y :: .int x :: .ref q :: st) S
def mv_R_bastore (P : List (Nat × mv_I)) (rt : Option FieldType) (Rn : Nat → List Value → mv_S → Option Value → mv_S → Prop) (nM sM : Nat) (r0 : Option Value) (S0 : mv_S) (V : Nat → mv_L → List Value → mv_S → Prop) : Prop := ∀ (pc nx a b : Nat) (v : Value) (ls : mv_L) (st : List Value) (S : mv_S) (q len : Nat) (f : Nat → Int32) (x y : Int32), mv_at P pc = some (.bastore, nx, a, b, v) → q < S.1 → S.2.2 q = .inl (1, len, .inl f) → vp_in x len → y = 0 ∨ y = 1 → V nx ls st (S.1, S.2.1, va_up S.2.2 q (.inl (1, len, .inl (upd f x.toNatClampNeg y)))) → V pc ls (.int y :: .int x :: .ref q :: st) S
def mv_R_lastore (P : List (Nat × mv_I)) (rt : Option FieldType) (Rn : Nat → List Value → mv_S → Option Value → mv_S → Prop) (nM sM : Nat) (r0 : Option Value) (S0 : mv_S) (V : Nat → mv_L → List Value → mv_S → Prop) : Prop := ∀ (pc nx a b : Nat) (v : Value) (ls : mv_L) (st : List Value) (S : mv_S) (q len : Nat) (f : Nat → Int64) (x : Int32) (y : Int64), mv_at P pc = some (.lastore, nx, a, b, v) → q < S.1 → S.2.2 q = .inl (2, len, .inr (.inl f)) → vp_in x len → V nx ls st (S.1, S.2.1, va_up S.2.2 q (.inl (2, len, .inr (.inl (vp_updL f x.toNatClampNeg y))))) → V pc ls (.long y :: .int x :: .ref q :: st) S
def mv_R_aastore (P : List (Nat × mv_I)) (rt : Option FieldType) (Rn : Nat → List Value → mv_S → Option Value → mv_S → Prop) (nM sM : Nat) (r0 : Option Value) (S0 : mv_S) (V : Nat → mv_L → List Value → mv_S → Prop) : Prop := ∀ (pc nx a b : Nat) (v : Value) (ls : mv_L) (st : List Value) (S : mv_S) (q len y : Nat) (f : Nat → Option Nat) (x : Int32) (fs : List Value), mv_at P pc = some (.aastore, nx, a, b, v) → q < S.1 → S.2.2 q = .inl (3, len, .inr (.inr (.inr (.inr f)))) → vp_in x len → y < S.1 → S.2.2 y = .inr (0, fs) → V nx ls st (S.1, S.2.1, va_up S.2.2 q (.inl (3, len, .inr (.inr (.inr (.inr (va_up f x.toNatClampNeg (some y)))))))) → V pc ls (.ref y :: .int x :: .ref q :: st) S
def mv_R_new (P : List (Nat × mv_I)) (rt : Option FieldType) (Rn : Nat → List Value → mv_S → Option Value → mv_S → Prop) (nM sM : Nat) (r0 : Option Value) (S0 : mv_S) (V : Nat → mv_L → List Value → mv_S → Prop) : Prop := ∀ (pc nx a b : Nat) (v : Value) (ls : mv_L) (st : List Value) (S : mv_S) (n : Nat), mv_at P pc = some (.new n, nx, a, b, v) → S.1 + 1 ≤ nM → S.2.1 + (mv_df a).length ≤ sM → V nx ls (.ref S.1 :: st) (S.1 + 1, S.2.1 + (mv_df a).length, va_up S.2.2 S.1 (.inr (a, mv_df a))) → V pc ls st S
def mv_R_new_int (P : List (Nat × mv_I)) (rt : Option FieldType) (Rn : Nat → List Value → mv_S → Option Value → mv_S → Prop) (nM sM : Nat) (r0 : Option Value) (S0 : mv_S) (V : Nat → mv_L → List Value → mv_S → Prop) : Prop := ∀ (pc nx a b : Nat) (v : Value) (ls : mv_L) (st : List Value) (S : mv_S) (x : Nat), mv_at P pc = some (.newarray .int, nx, a, b, v) → x ≤ 65536 → S.1 + 1 ≤ nM → S.2.1 + x ≤ sM → V nx ls (.ref S.1 :: st) (S.1 + 1, S.2.1 + x, va_up S.2.2 S.1 (.inl (0, x, .inl (fun _ => 0)))) → V pc ls (.int (nI x) :: st) S
def mv_R_new_boolean (P : List (Nat × mv_I)) (rt : Option FieldType) (Rn : Nat → List Value → mv_S → Option Value → mv_S → Prop) (nM sM : Nat) (r0 : Option Value) (S0 : mv_S) (V : Nat → mv_L → List Value → mv_S → Prop) : Prop := ∀ (pc nx a b : Nat) (v : Value) (ls : mv_L) (st : List Value) (S : mv_S) (x : Nat), mv_at P pc = some (.newarray .boolean, nx, a, b, v) → x ≤ 65536 → S.1 + 1 ≤ nM → S.2.1 + x ≤ sM → V nx ls (.ref S.1 :: st) (S.1 + 1, S.2.1 + x, va_up S.2.2 S.1 (.inl (1, x, .inl (fun _ => 0)))) → V pc ls (.int (nI x) :: st) S
def mv_R_new_long (P : List (Nat × mv_I)) (rt : Option FieldType) (Rn : Nat → List Value → mv_S → Option Value → mv_S → Prop) (nM sM : Nat) (r0 : Option Value) (S0 : mv_S) (V : Nat → mv_L → List Value → mv_S → Prop) : Prop := ∀ (pc nx a b : Nat) (v : Value) (ls : mv_L) (st : List Value) (S : mv_S) (x : Nat), mv_at P pc = some (.newarray .long, nx, a, b, v) → x ≤ 65536 → S.1 + 1 ≤ nM → S.2.1 + x ≤ sM → V nx ls (.ref S.1 :: st) (S.1 + 1, S.2.1 + x, va_up S.2.2 S.1 (.inl (2, x, .inr (.inl (fun _ => 0))))) → V pc ls (.int (nI x) :: st) S
def mv_R_anew (P : List (Nat × mv_I)) (rt : Option FieldType) (Rn : Nat → List Value → mv_S → Option Value → mv_S → Prop) (nM sM : Nat) (r0 : Option Value) (S0 : mv_S) (V : Nat → mv_L → List Value → mv_S → Prop) : Prop := ∀ (pc nx a b : Nat) (v : Value) (ls : mv_L) (st : List Value) (S : mv_S) (n : Nat) (x : Nat), mv_at P pc = some (.anewarray n, nx, a, b, v) → x ≤ 65536 → S.1 + 1 ≤ nM → S.2.1 + x ≤ sM → V nx ls (.ref S.1 :: st) (S.1 + 1, S.2.1 + x, va_up S.2.2 S.1 (.inl (3, x, .inr (.inr (.inr (.inr (fun _ => none))))))) → V pc ls (.int (nI x) :: st) S
def mv_R_obj (P : List (Nat × mv_I)) (rt : Option FieldType) (Rn : Nat → List Value → mv_S → Option Value → mv_S → Prop) (nM sM : Nat) (r0 : Option Value) (S0 : mv_S) (V : Nat → mv_L → List Value → mv_S → Prop) : Prop := ∀ (pc nx a b : Nat) (v : Value) (ls : mv_L) (st : List Value) (S : mv_S) (n q : Nat), mv_at P pc = some (.invokespecial n, nx, a, b, v) → b = 999 → mv_wd st ≤ 8 → V nx ls st S → V pc ls (.ref q :: st) S
def mv_R_mmin (P : List (Nat × mv_I)) (rt : Option FieldType) (Rn : Nat → List Value → mv_S → Option Value → mv_S → Prop) (nM sM : Nat) (r0 : Option Value) (S0 : mv_S) (V : Nat → mv_L → List Value → mv_S → Prop) : Prop := ∀ (pc nx a b : Nat) (v : Value) (ls : mv_L) (st : List Value) (S : mv_S) (n : Nat) (x y : Int32), mv_at P pc = some (.invokestatic n, nx, a, b, v) → b = 901 → mv_wd st ≤ 8 → V nx ls (.int (if y < x then y else x) :: st) S → V pc ls (.int y :: .int x :: st) S
def mv_R_mmax (P : List (Nat × mv_I)) (rt : Option FieldType) (Rn : Nat → List Value → mv_S → Option Value → mv_S → Prop) (nM sM : Nat) (r0 : Option Value) (S0 : mv_S) (V : Nat → mv_L → List Value → mv_S → Prop) : Prop := ∀ (pc nx a b : Nat) (v : Value) (ls : mv_L) (st : List Value) (S : mv_S) (n : Nat) (x y : Int32), mv_at P pc = some (.invokestatic n, nx, a, b, v) → b = 902 → mv_wd st ≤ 8 → V nx ls (.int (if x < y then y else x) :: st) S → V pc ls (.int y :: .int x :: st) S
def mv_R_mabs (P : List (Nat × mv_I)) (rt : Option FieldType) (Rn : Nat → List Value → mv_S → Option Value → mv_S → Prop) (nM sM : Nat) (r0 : Option Value) (S0 : mv_S) (V : Nat → mv_L → List Value → mv_S → Prop) : Prop := ∀ (pc nx a b : Nat) (v : Value) (ls : mv_L) (st : List Value) (S : mv_S) (n : Nat) (x : Int32), mv_at P pc = some (.invokestatic n, nx, a, b, v) → b = 903 → mv_wd st ≤ 8 → V nx ls (.int (if 0 ≤ x then x else 0 - x) :: st) S → V pc ls (.int x :: st) S
def mv_R_ixof (P : List (Nat × mv_I)) (rt : Option FieldType) (Rn : Nat → List Value → mv_S → Option Value → mv_S → Prop) (nM sM : Nat) (r0 : Option Value) (S0 : mv_S) (V : Nat → mv_L → List Value → mv_S → Prop) : Prop := ∀ (pc nx a b : Nat) (v : Value) (ls : mv_L) (st : List Value) (S : mv_S) (n j : Nat) (x : Int32), mv_at P pc = some (.invokevirtual n, nx, a, b, v) → b = 904 → 1 ≤ j → j < 6 → mv_wd st ≤ 8 → V nx ls (.int (mv_ix j x) :: st) S → V pc ls (.int x :: .ref (1000 + j) :: st) S
def mv_R_callV (P : List (Nat × mv_I)) (rt : Option FieldType) (Rn : Nat → List Value → mv_S → Option Value → mv_S → Prop) (nM sM : Nat) (r0 : Option Value) (S0 : mv_S) (V : Nat → mv_L → List Value → mv_S → Prop) : Prop := ∀ (pc nx a b : Nat) (v : Value) (ls : mv_L) (st : List Value) (S : mv_S) (n : Nat) (as rest : List Value) (q : Nat) (ci : Nat) (fs : List Value) (r1 : Option Value) (S1 : mv_S), mv_at P pc = some (.invokevirtual n, nx, a, b, v) → b < 900 → (mv_m b).2.2.2.2.1 = as.length → (mv_m b).2.2.2.2.2.1 = ci → q < S.1 → S.2.2 q = .inr (ci, fs) → mv_wd rest ≤ 8 → Rn b (.ref q :: as) S r1 S1 → S1.1 ≤ nM → S1.2.1 ≤ sM → S.1 ≤ S1.1 → S.2.1 ≤ S1.2.1 → V nx ls (r1.toList ++ rest) S1 → V pc ls (as.reverse ++ .ref q :: rest) S
def mv_R_callS (P : List (Nat × mv_I)) (rt : Option FieldType) (Rn : Nat → List Value → mv_S → Option Value → mv_S → Prop) (nM sM : Nat) (r0 : Option Value) (S0 : mv_S) (V : Nat → mv_L → List Value → mv_S → Prop) : Prop := ∀ (pc nx a b : Nat) (v : Value) (ls : mv_L) (st : List Value) (S : mv_S) (n : Nat) (as rest : List Value) (r1 : Option Value) (S1 : mv_S), mv_at P pc = some (.invokestatic n, nx, a, b, v) → b < 900 → (mv_m b).2.2.2.2.1 = as.length → mv_wd rest ≤ 8 → Rn b as S r1 S1 → S1.1 ≤ nM → S1.2.1 ≤ sM → S.1 ≤ S1.1 → S.2.1 ≤ S1.2.1 → V nx ls (r1.toList ++ rest) S1 → V pc ls (as.reverse ++ rest) S
def mv_R_callI (P : List (Nat × mv_I)) (rt : Option FieldType) (Rn : Nat → List Value → mv_S → Option Value → mv_S → Prop) (nM sM : Nat) (r0 : Option Value) (S0 : mv_S) (V : Nat → mv_L → List Value → mv_S → Prop) : Prop := ∀ (pc nx a b : Nat) (v : Value) (ls : mv_L) (st : List Value) (S : mv_S) (n : Nat) (as rest : List Value) (q : Nat) (r1 : Option Value) (S1 : mv_S), mv_at P pc = some (.invokespecial n, nx, a, b, v) → b < 900 → (mv_m b).2.2.2.2.1 = as.length → mv_wd rest ≤ 8 → Rn b (.ref q :: as) S r1 S1 → S1.1 ≤ nM → S1.2.1 ≤ sM → S.1 ≤ S1.1 → S.2.1 ≤ S1.2.1 → V nx ls (r1.toList ++ rest) S1 → V pc ls (as.reverse ++ .ref q :: rest) S
def mv_R_ireturn (P : List (Nat × mv_I)) (rt : Option FieldType) (Rn : Nat → List Value → mv_S → Option Value → mv_S → Prop) (nM sM : Nat) (r0 : Option Value) (S0 : mv_S) (V : Nat → mv_L → List Value → mv_S → Prop) : Prop := ∀ (pc nx a b : Nat) (v : Value) (ls : mv_L) (st : List Value) (S : mv_S) (x : Int32), mv_at P pc = some (.ireturn, nx, a, b, v) → mv_rok rt x → some (Value.int x) = r0 → S = S0 → V pc ls [.int x] S
def mv_R_lreturn (P : List (Nat × mv_I)) (rt : Option FieldType) (Rn : Nat → List Value → mv_S → Option Value → mv_S → Prop) (nM sM : Nat) (r0 : Option Value) (S0 : mv_S) (V : Nat → mv_L → List Value → mv_S → Prop) : Prop := ∀ (pc nx a b : Nat) (v : Value) (ls : mv_L) (st : List Value) (S : mv_S) (x : Int64), mv_at P pc = some (.lreturn, nx, a, b, v) → rt = some .long → some (Value.long x) = r0 → S = S0 → V pc ls [.long x] S
def mv_R_return_ (P : List (Nat × mv_I)) (rt : Option FieldType) (Rn : Nat → List Value → mv_S → Option Value → mv_S → Prop) (nM sM : Nat) (r0 : Option Value) (S0 : mv_S) (V : Nat → mv_L → List Value → mv_S → Prop) : Prop := ∀ (pc nx a b : Nat) (v : Value) (ls : mv_L) (st : List Value) (S : mv_S) , mv_at P pc = some (.return_, nx, a, b, v) → rt = none → (none : Option Value) = r0 → S = S0 → V pc ls [] S
def mv_R_forget (P : List (Nat × mv_I)) (rt : Option FieldType) (Rn : Nat → List Value → mv_S → Option Value → mv_S → Prop) (nM sM : Nat) (r0 : Option Value) (S0 : mv_S) (V : Nat → mv_L → List Value → mv_S → Prop) : Prop := ∀ (pc : Nat) (ls ls1 : mv_L) (st : List Value) (S : mv_S), mv_le ls1 ls → V pc ls1 st S → V pc ls st S
def mv_Clo (P : List (Nat × mv_I)) (rt : Option FieldType) (Rn : Nat → List Value → mv_S → Option Value → mv_S → Prop) (nM sM : Nat) (r0 : Option Value) (S0 : mv_S) (V : Nat → mv_L → List Value → mv_S → Prop) : Prop := mv_R_iload_n P rt Rn nM sM r0 S0 V ∧ mv_R_iload P rt Rn nM sM r0 S0 V ∧ mv_R_aload_n P rt Rn nM sM r0 S0 V ∧ mv_R_aload P rt Rn nM sM r0 S0 V ∧ mv_R_lload_n P rt Rn nM sM r0 S0 V ∧ mv_R_lload P rt Rn nM sM r0 S0 V ∧ mv_R_istore_n P rt Rn nM sM r0 S0 V ∧ mv_R_istore P rt Rn nM sM r0 S0 V ∧ mv_R_astore_n P rt Rn nM sM r0 S0 V ∧ mv_R_astore P rt Rn nM sM r0 S0 V ∧ mv_R_lstore_n P rt Rn nM sM r0 S0 V ∧ mv_R_lstore P rt Rn nM sM r0 S0 V ∧ mv_R_iinc P rt Rn nM sM r0 S0 V ∧ mv_R_iconst P rt Rn nM sM r0 S0 V ∧ mv_R_bipush P rt Rn nM sM r0 S0 V ∧ mv_R_sipush P rt Rn nM sM r0 S0 V ∧ mv_R_ldc P rt Rn nM sM r0 S0 V ∧ mv_R_ldc_w P rt Rn nM sM r0 S0 V ∧ mv_R_lconst P rt Rn nM sM r0 S0 V ∧ mv_R_ldc2_w P rt Rn nM sM r0 S0 V ∧ mv_R_iadd P rt Rn nM sM r0 S0 V ∧ mv_R_isub P rt Rn nM sM r0 S0 V ∧ mv_R_imul P rt Rn nM sM r0 S0 V ∧ mv_R_iand P rt Rn nM sM r0 S0 V ∧ mv_R_ior P rt Rn nM sM r0 S0 V ∧ mv_R_ixor P rt Rn nM sM r0 S0 V ∧ mv_R_ishl P rt Rn nM sM r0 S0 V ∧ mv_R_ishr P rt Rn nM sM r0 S0 V ∧ mv_R_iushr P rt Rn nM sM r0 S0 V ∧ mv_R_idiv P rt Rn nM sM r0 S0 V ∧ mv_R_irem P rt Rn nM sM r0 S0 V ∧ mv_R_ladd P rt Rn nM sM r0 S0 V ∧ mv_R_lsub P rt Rn nM sM r0 S0 V ∧ mv_R_lmul P rt Rn nM sM r0 S0 V ∧ mv_R_land P rt Rn nM sM r0 S0 V ∧ mv_R_lor P rt Rn nM sM r0 S0 V ∧ mv_R_ldiv P rt Rn nM sM r0 S0 V ∧ mv_R_lshl P rt Rn nM sM r0 S0 V ∧ mv_R_lcmp P rt Rn nM sM r0 S0 V ∧ mv_R_i2l P rt Rn nM sM r0 S0 V ∧ mv_R_l2i P rt Rn nM sM r0 S0 V ∧ mv_R_ineg P rt Rn nM sM r0 S0 V ∧ mv_R_dup P rt Rn nM sM r0 S0 V ∧ mv_R_dup2 P rt Rn nM sM r0 S0 V ∧ mv_R_pop P rt Rn nM sM r0 S0 V ∧ mv_R_goto P rt Rn nM sM r0 S0 V ∧ mv_R_if_eq P rt Rn nM sM r0 S0 V ∧ mv_R_if_ne P rt Rn nM sM r0 S0 V ∧ mv_R_if_lt P rt Rn nM sM r0 S0 V ∧ mv_R_if_ge P rt Rn nM sM r0 S0 V ∧ mv_R_if_gt P rt Rn nM sM r0 S0 V ∧ mv_R_if_le P rt Rn nM sM r0 S0 V ∧ mv_R_icmp_eq P rt Rn nM sM r0 S0 V ∧ mv_R_icmp_ne P rt Rn nM sM r0 S0 V ∧ mv_R_icmp_lt P rt Rn nM sM r0 S0 V ∧ mv_R_icmp_ge P rt Rn nM sM r0 S0 V ∧ mv_R_icmp_gt P rt Rn nM sM r0 S0 V ∧ mv_R_icmp_le P rt Rn nM sM r0 S0 V ∧ mv_R_tsw_out P rt Rn nM sM r0 S0 V ∧ mv_R_tsw_in P rt Rn nM sM r0 S0 V ∧ mv_R_lsw P rt Rn nM sM r0 S0 V ∧ mv_R_getfield P rt Rn nM sM r0 S0 V ∧ mv_R_putfield P rt Rn nM sM r0 S0 V ∧ mv_R_iaload P rt Rn nM sM r0 S0 V ∧ mv_R_baload P rt Rn nM sM r0 S0 V ∧ mv_R_laload P rt Rn nM sM r0 S0 V ∧ mv_R_aaload P rt Rn nM sM r0 S0 V ∧ mv_R_iastore P rt Rn nM sM r0 S0 V ∧ mv_R_bastore P rt Rn nM sM r0 S0 V ∧ mv_R_lastore P rt Rn nM sM r0 S0 V ∧ mv_R_aastore P rt Rn nM sM r0 S0 V ∧ mv_R_new P rt Rn nM sM r0 S0 V ∧ mv_R_new_int P rt Rn nM sM r0 S0 V ∧ mv_R_new_boolean P rt Rn nM sM r0 S0 V ∧ mv_R_new_long P rt Rn nM sM r0 S0 V ∧ mv_R_anew P rt Rn nM sM r0 S0 V ∧ mv_R_obj P rt Rn nM sM r0 S0 V ∧ mv_R_mmin P rt Rn nM sM r0 S0 V ∧ mv_R_mmax P rt Rn nM sM r0 S0 V ∧ mv_R_mabs P rt Rn nM sM r0 S0 V ∧ mv_R_ixof P rt Rn nM sM r0 S0 V ∧ mv_R_callV P rt Rn nM sM r0 S0 V ∧ mv_R_callS P rt Rn nM sM r0 S0 V ∧ mv_R_callI P rt Rn nM sM r0 S0 V ∧ mv_R_ireturn P rt Rn nM sM r0 S0 V ∧ mv_R_lreturn P rt Rn nM sM r0 S0 V ∧ mv_R_return_ P rt Rn nM sM r0 S0 V ∧ mv_R_forget P rt Rn nM sM r0 S0 V
theorem mv_iload_n {P : List (Nat × mv_I)} {rt : Option FieldType} {Rn : Nat → List Value → mv_S → Option Value → mv_S → Prop} {nM sM : Nat} {r0 : Option Value} {S0 : mv_S} {V : Nat → mv_L → List Value → mv_S → Prop} (C : mv_Clo P rt Rn nM sM r0 S0 V) {pc nx a b : Nat} {v : Value} {ls : mv_L} {st : List Value} {S : mv_S} {k : Fin 4} {x : Int32} (h : mv_at P pc = some (.iload_n k, nx, a, b, v)) (h0 : ls[k.val]? = some (some (.int x))) (kk : V nx ls (.int x :: st) S) : V pc ls st S := C.1 _ _ _ _ _ _ _ _ _ _ h h0 kk
theorem mv_iload {P : List (Nat × mv_I)} {rt : Option FieldType} {Rn : Nat → List Value → mv_S → Option Value → mv_S → Prop} {nM sM : Nat} {r0 : Option Value} {S0 : mv_S} {V : Nat → mv_L → List Value → mv_S → Prop} (C : mv_Clo P rt Rn nM sM r0 S0 V) {pc nx a b : Nat} {v : Value} {ls : mv_L} {st : List Value} {S : mv_S} {k : Nat} {x : Int32} (h : mv_at P pc = some (.iload k, nx, a, b, v)) (h0 : ls[k]? = some (some (.int x))) (kk : V nx ls (.int x :: st) S) : V pc ls st S := C.2.1 _ _ _ _ _ _ _ _ _ _ h h0 kk
theorem mv_aload_n {P : List (Nat × mv_I)} {rt : Option FieldType} {Rn : Nat → List Value → mv_S → Option Value → mv_S → Prop} {nM sM : Nat} {r0 : Option Value} {S0 : mv_S} {V : Nat → mv_L → List Value → mv_S → Prop} (C : mv_Clo P rt Rn nM sM r0 S0 V) {pc nx a b : Nat} {v : Value} {ls : mv_L} {st : List Value} {S : mv_S} {k : Fin 4} {x : Nat} (h : mv_at P pc = some (.aload_n k, nx, a, b, v)) (h0 : ls[k.val]? = some (some (.ref x))) (kk : V nx ls (.ref x :: st) S) : V pc ls st S := C.2.2.1 _ _ _ _ _ _ _ _ _ _ h h0 kk
theorem mv_aload {P : List (Nat × mv_I)} {rt : Option FieldType} {Rn : Nat → List Value → mv_S → Option Value → mv_S → Prop} {nM sM : Nat} {r0 : Option Value} {S0 : mv_S} {V : Nat → mv_L → List Value → mv_S → Prop} (C : mv_Clo P rt Rn nM sM r0 S0 V) {pc nx a b : Nat} {v : Value} {ls : mv_L} {st : List Value} {S : mv_S} {k : Nat} {x : Nat} (h : mv_at P pc = some (.aload k, nx, a, b, v)) (h0 : ls[k]? = some (some (.ref x))) (kk : V nx ls (.ref x :: st) S) : V pc ls st S := C.2.2.2.1 _ _ _ _ _ _ _ _ _ _ h h0 kk
theorem mv_lload_n {P : List (Nat × mv_I)} {rt : Option FieldType} {Rn : Nat → List Value → mv_S → Option Value → mv_S → Prop} {nM sM : Nat} {r0 : Option Value} {S0 : mv_S} {V : Nat → mv_L → List Value → mv_S → Prop} (C : mv_Clo P rt Rn nM sM r0 S0 V) {pc nx a b : Nat} {v : Value} {ls : mv_L} {st : List Value} {S : mv_S} {k : Fin 4} {x : Int64} (h : mv_at P pc = some (.lload_n k, nx, a, b, v)) (h0 : ls[k.val]? = some (some (.long x))) (kk : V nx ls (.long x :: st) S) : V pc ls st S := C.2.2.2.2.1 _ _ _ _ _ _ _ _ _ _ h h0 kk
theorem mv_lload {P : List (Nat × mv_I)} {rt : Option FieldType} {Rn : Nat → List Value → mv_S → Option Value → mv_S → Prop} {nM sM : Nat} {r0 : Option Value} {S0 : mv_S} {V : Nat → mv_L → List Value → mv_S → Prop} (C : mv_Clo P rt Rn nM sM r0 S0 V) {pc nx a b : Nat} {v : Value} {ls : mv_L} {st : List Value} {S : mv_S} {k : Nat} {x : Int64} (h : mv_at P pc = some (.lload k, nx, a, b, v)) (h0 : ls[k]? = some (some (.long x))) (kk : V nx ls (.long x :: st) S) : V pc ls st S := C.2.2.2.2.2.1 _ _ _ _ _ _ _ _ _ _ h h0 kk
theorem mv_istore_n {P : List (Nat × mv_I)} {rt : Option FieldType} {Rn : Nat → List Value → mv_S → Option Value → mv_S → Prop} {nM sM : Nat} {r0 : Option Value} {S0 : mv_S} {V : Nat → mv_L → List Value → mv_S → Prop} (C : mv_Clo P rt Rn nM sM r0 S0 V) {pc nx a b : Nat} {v : Value} {ls : mv_L} {st : List Value} {S : mv_S} {k : Fin 4} {x : Int32} (h : mv_at P pc = some (.istore_n k, nx, a, b, v)) (h0 : mv_pre ls k.val = true) (kk : V nx (ls.set k.val (some (.int x))) st S) : V pc ls (.int x :: st) S := C.2.2.2.2.2.2.1 _ _ _ _ _ _ _ _ _ _ h h0 kk
theorem mv_istore {P : List (Nat × mv_I)} {rt : Option FieldType} {Rn : Nat → List Value → mv_S → Option Value → mv_S → Prop} {nM sM : Nat} {r0 : Option Value} {S0 : mv_S} {V : Nat → mv_L → List Value → mv_S → Prop} (C : mv_Clo P rt Rn nM sM r0 S0 V) {pc nx a b : Nat} {v : Value} {ls : mv_L} {st : List Value} {S : mv_S} {k : Nat} {x : Int32} (h : mv_at P pc = some (.istore k, nx, a, b, v)) (h0 : mv_pre ls k = true) (kk : V nx (ls.set k (some (.int x))) st S) : V pc ls (.int x :: st) S := C.2.2.2.2.2.2.2.1 _ _ _ _ _ _ _ _ _ _ h h0 kk
theorem mv_astore_n {P : List (Nat × mv_I)} {rt : Option FieldType} {Rn : Nat → List Value → mv_S → Option Value → mv_S → Prop} {nM sM : Nat} {r0 : Option Value} {S0 : mv_S} {V : Nat → mv_L → List Value → mv_S → Prop} (C : mv_Clo P rt Rn nM sM r0 S0 V) {pc nx a b : Nat} {v : Value} {ls : mv_L} {st : List Value} {S : mv_S} {k : Fin 4} {x : Nat} (h : mv_at P pc = some (.astore_n k, nx, a, b, v)) (h0 : mv_pre ls k.val = true) (kk : V nx (ls.set k.val (some (.ref x))) st S) : V pc ls (.ref x :: st) S := C.2.2.2.2.2.2.2.2.1 _ _ _ _ _ _ _ _ _ _ h h0 kk
theorem mv_astore {P : List (Nat × mv_I)} {rt : Option FieldType} {Rn : Nat → List Value → mv_S → Option Value → mv_S → Prop} {nM sM : Nat} {r0 : Option Value} {S0 : mv_S} {V : Nat → mv_L → List Value → mv_S → Prop} (C : mv_Clo P rt Rn nM sM r0 S0 V) {pc nx a b : Nat} {v : Value} {ls : mv_L} {st : List Value} {S : mv_S} {k : Nat} {x : Nat} (h : mv_at P pc = some (.astore k, nx, a, b, v)) (h0 : mv_pre ls k = true) (kk : V nx (ls.set k (some (.ref x))) st S) : V pc ls (.ref x :: st) S := C.2.2.2.2.2.2.2.2.2.1 _ _ _ _ _ _ _ _ _ _ h h0 kk
theorem mv_lstore_n {P : List (Nat × mv_I)} {rt : Option FieldType} {Rn : Nat → List Value → mv_S → Option Value → mv_S → Prop} {nM sM : Nat} {r0 : Option Value} {S0 : mv_S} {V : Nat → mv_L → List Value → mv_S → Prop} (C : mv_Clo P rt Rn nM sM r0 S0 V) {pc nx a b : Nat} {v : Value} {ls : mv_L} {st : List Value} {S : mv_S} {k : Fin 4} {x : Int64} (h : mv_at P pc = some (.lstore_n k, nx, a, b, v)) (h0 : mv_pre ls k.val = true) (h1 : k.val + 1 < ls.length) (kk : V nx ((ls.set k.val (some (.long x))).set (k.val + 1) none) st S) : V pc ls (.long x :: st) S := C.2.2.2.2.2.2.2.2.2.2.1 _ _ _ _ _ _ _ _ _ _ h h0 h1 kk
theorem mv_lstore {P : List (Nat × mv_I)} {rt : Option FieldType} {Rn : Nat → List Value → mv_S → Option Value → mv_S → Prop} {nM sM : Nat} {r0 : Option Value} {S0 : mv_S} {V : Nat → mv_L → List Value → mv_S → Prop} (C : mv_Clo P rt Rn nM sM r0 S0 V) {pc nx a b : Nat} {v : Value} {ls : mv_L} {st : List Value} {S : mv_S} {k : Nat} {x : Int64} (h : mv_at P pc = some (.lstore k, nx, a, b, v)) (h0 : mv_pre ls k = true) (h1 : k + 1 < ls.length) (kk : V nx ((ls.set k (some (.long x))).set (k + 1) none) st S) : V pc ls (.long x :: st) S := C.2.2.2.2.2.2.2.2.2.2.2.1 _ _ _ _ _ _ _ _ _ _ h h0 h1 kk
theorem mv_iinc {P : List (Nat × mv_I)} {rt : Option FieldType} {Rn : Nat → List Value → mv_S → Option Value → mv_S → Prop} {nM sM : Nat} {r0 : Option Value} {S0 : mv_S} {V : Nat → mv_L → List Value → mv_S → Prop} (C : mv_Clo P rt Rn nM sM r0 S0 V) {pc nx a b : Nat} {ls : mv_L} {st : List Value} {S : mv_S} {k : Nat} {n : Int} {x y : Int32} (h : mv_at P pc = some (.iinc k n, nx, a, b, .int y)) (h0 : ls[k]? = some (some (.int x))) (h1 : mv_pre ls k = true) (kk : V nx (ls.set k (some (.int (x + y)))) st S) : V pc ls st S := C.2.2.2.2.2.2.2.2.2.2.2.2.1 _ _ _ _ _ _ _ _ _ _ _ h h0 h1 kk
theorem mv_iconst {P : List (Nat × mv_I)} {rt : Option FieldType} {Rn : Nat → List Value → mv_S → Option Value → mv_S → Prop} {nM sM : Nat} {r0 : Option Value} {S0 : mv_S} {V : Nat → mv_L → List Value → mv_S → Prop} (C : mv_Clo P rt Rn nM sM r0 S0 V) {pc nx a b : Nat} {v : Value} {ls : mv_L} {st : List Value} {S : mv_S} {n : Int} (h : mv_at P pc = some (.iconst n, nx, a, b, v)) (kk : V nx ls (v :: st) S) : V pc ls st S := C.2.2.2.2.2.2.2.2.2.2.2.2.2.1 _ _ _ _ _ _ _ _ _ h kk
theorem mv_bipush {P : List (Nat × mv_I)} {rt : Option FieldType} {Rn : Nat → List Value → mv_S → Option Value → mv_S → Prop} {nM sM : Nat} {r0 : Option Value} {S0 : mv_S} {V : Nat → mv_L → List Value → mv_S → Prop} (C : mv_Clo P rt Rn nM sM r0 S0 V) {pc nx a b : Nat} {v : Value} {ls : mv_L} {st : List Value} {S : mv_S} {n : Int} (h : mv_at P pc = some (.bipush n, nx, a, b, v)) (kk : V nx ls (v :: st) S) : V pc ls st S := C.2.2.2.2.2.2.2.2.2.2.2.2.2.2.1 _ _ _ _ _ _ _ _ _ h kk
theorem mv_sipush {P : List (Nat × mv_I)} {rt : Option FieldType} {Rn : Nat → List Value → mv_S → Option Value → mv_S → Prop} {nM sM : Nat} {r0 : Option Value} {S0 : mv_S} {V : Nat → mv_L → List Value → mv_S → Prop} (C : mv_Clo P rt Rn nM sM r0 S0 V) {pc nx a b : Nat} {v : Value} {ls : mv_L} {st : List Value} {S : mv_S} {n : Int} (h : mv_at P pc = some (.sipush n, nx, a, b, v)) (kk : V nx ls (v :: st) S) : V pc ls st S := C.2.2.2.2.2.2.2.2.2.2.2.2.2.2.2.1 _ _ _ _ _ _ _ _ _ h kk
theorem mv_ldc {P : List (Nat × mv_I)} {rt : Option FieldType} {Rn : Nat → List Value → mv_S → Option Value → mv_S → Prop} {nM sM : Nat} {r0 : Option Value} {S0 : mv_S} {V : Nat → mv_L → List Value → mv_S → Prop} (C : mv_Clo P rt Rn nM sM r0 S0 V) {pc nx a b : Nat} {v : Value} {ls : mv_L} {st : List Value} {S : mv_S} {n : Nat} (h : mv_at P pc = some (.ldc n, nx, a, b, v)) (kk : V nx ls (v :: st) S) : V pc ls st S := C.2.2.2.2.2.2.2.2.2.2.2.2.2.2.2.2.1 _ _ _ _ _ _ _ _ _ h kk
theorem mv_ldc_w {P : List (Nat × mv_I)} {rt : Option FieldType} {Rn : Nat → List Value → mv_S → Option Value → mv_S → Prop} {nM sM : Nat} {r0 : Option Value} {S0 : mv_S} {V : Nat → mv_L → List Value → mv_S → Prop} (C : mv_Clo P rt Rn nM sM r0 S0 V) {pc nx a b : Nat} {v : Value} {ls : mv_L} {st : List Value} {S : mv_S} {n : Nat} (h : mv_at P pc = some (.ldc_w n, nx, a, b, v)) (kk : V nx ls (v :: st) S) : V pc ls st S := C.2.2.2.2.2.2.2.2.2.2.2.2.2.2.2.2.2.1 _ _ _ _ _ _ _ _ _ h kk
theorem mv_lconst {P : List (Nat × mv_I)} {rt : Option FieldType} {Rn : Nat → List Value → mv_S → Option Value → mv_S → Prop} {nM sM : Nat} {r0 : Option Value} {S0 : mv_S} {V : Nat → mv_L → List Value → mv_S → Prop} (C : mv_Clo P rt Rn nM sM r0 S0 V) {pc nx a b : Nat} {v : Value} {ls : mv_L} {st : List Value} {S : mv_S} {n : Fin 2} (h : mv_at P pc = some (.lconst n, nx, a, b, v)) (kk : V nx ls (v :: st) S) : V pc ls st S := C.2.2.2.2.2.2.2.2.2.2.2.2.2.2.2.2.2.2.1 _ _ _ _ _ _ _ _ _ h kk
theorem mv_ldc2_w {P : List (Nat × mv_I)} {rt : Option FieldType} {Rn : Nat → List Value → mv_S → Option Value → mv_S → Prop} {nM sM : Nat} {r0 : Option Value} {S0 : mv_S} {V : Nat → mv_L → List Value → mv_S → Prop} (C : mv_Clo P rt Rn nM sM r0 S0 V) {pc nx a b : Nat} {v : Value} {ls : mv_L} {st : List Value} {S : mv_S} {n : Nat} (h : mv_at P pc = some (.ldc2_w n, nx, a, b, v)) (kk : V nx ls (v :: st) S) : V pc ls st S := C.2.2.2.2.2.2.2.2.2.2.2.2.2.2.2.2.2.2.2.1 _ _ _ _ _ _ _ _ _ h kk
theorem mv_iadd {P : List (Nat × mv_I)} {rt : Option FieldType} {Rn : Nat → List Value → mv_S → Option Value → mv_S → Prop} {nM sM : Nat} {r0 : Option Value} {S0 : mv_S} {V : Nat → mv_L → List Value → mv_S → Prop} (C : mv_Clo P rt Rn nM sM r0 S0 V) {pc nx a b : Nat} {v : Value} {ls : mv_L} {st : List Value} {S : mv_S} {x y : Int32} (h : mv_at P pc = some (.iadd, nx, a, b, v)) (kk : V nx ls (.int (x + y) :: st) S) : V pc ls (.int y :: .int x :: st) S := C.2.2.2.2.2.2.2.2.2.2.2.2.2.2.2.2.2.2.2.2.1 _ _ _ _ _ _ _ _ _ _ h kk
theorem mv_isub {P : List (Nat × mv_I)} {rt : Option FieldType} {Rn : Nat → List Value → mv_S → Option Value → mv_S → Prop} {nM sM : Nat} {r0 : Option Value} {S0 : mv_S} {V : Nat → mv_L → List Value → mv_S → Prop} (C : mv_Clo P rt Rn nM sM r0 S0 V) {pc nx a b : Nat} {v : Value} {ls : mv_L} {st : List Value} {S : mv_S} {x y : Int32} (h : mv_at P pc = some (.isub, nx, a, b, v)) (kk : V nx ls (.int (x - y) :: st) S) : V pc ls (.int y :: .int x :: st) S := C.2.2.2.2.2.2.2.2.2.2.2.2.2.2.2.2.2.2.2.2.2.1 _ _ _ _ _ _ _ _ _ _ h kk
theorem mv_imul {P : List (Nat × mv_I)} {rt : Option FieldType} {Rn : Nat → List Value → mv_S → Option Value → mv_S → Prop} {nM sM : Nat} {r0 : Option Value} {S0 : mv_S} {V : Nat → mv_L → List Value → mv_S → Prop} (C : mv_Clo P rt Rn nM sM r0 S0 V) {pc nx a b : Nat} {v : Value} {ls : mv_L} {st : List Value} {S : mv_S} {x y : Int32} (h : mv_at P pc = some (.imul, nx, a, b, v)) (kk : V nx ls (.int (x * y) :: st) S) : V pc ls (.int y :: .int x :: st) S := C.2.2.2.2.2.2.2.2.2.2.2.2.2.2.2.2.2.2.2.2.2.2.1 _ _ _ _ _ _ _ _ _ _ h kk
theorem mv_iand {P : List (Nat × mv_I)} {rt : Option FieldType} {Rn : Nat → List Value → mv_S → Option Value → mv_S → Prop} {nM sM : Nat} {r0 : Option Value} {S0 : mv_S} {V : Nat → mv_L → List Value → mv_S → Prop} (C : mv_Clo P rt Rn nM sM r0 S0 V) {pc nx a b : Nat} {v : Value} {ls : mv_L} {st : List Value} {S : mv_S} {x y : Int32} (h : mv_at P pc = some (.iand, nx, a, b, v)) (kk : V nx ls (.int (x &&& y) :: st) S) : V pc ls (.int y :: .int x :: st) S := C.2.2.2.2.2.2.2.2.2.2.2.2.2.2.2.2.2.2.2.2.2.2.2.1 _ _ _ _ _ _ _ _ _ _ h kk
theorem mv_ior {P : List (Nat × mv_I)} {rt : Option FieldType} {Rn : Nat → List Value → mv_S → Option Value → mv_S → Prop} {nM sM : Nat} {r0 : Option Value} {S0 : mv_S} {V : Nat → mv_L → List Value → mv_S → Prop} (C : mv_Clo P rt Rn nM sM r0 S0 V) {pc nx a b : Nat} {v : Value} {ls : mv_L} {st : List Value} {S : mv_S} {x y : Int32} (h : mv_at P pc = some (.ior, nx, a, b, v)) (kk : V nx ls (.int (x ||| y) :: st) S) : V pc ls (.int y :: .int x :: st) S := C.2.2.2.2.2.2.2.2.2.2.2.2.2.2.2.2.2.2.2.2.2.2.2.2.1 _ _ _ _ _ _ _ _ _ _ h kk
theorem mv_ixor {P : List (Nat × mv_I)} {rt : Option FieldType} {Rn : Nat → List Value → mv_S → Option Value → mv_S → Prop} {nM sM : Nat} {r0 : Option Value} {S0 : mv_S} {V : Nat → mv_L → List Value → mv_S → Prop} (C : mv_Clo P rt Rn nM sM r0 S0 V) {pc nx a b : Nat} {v : Value} {ls : mv_L} {st : List Value} {S : mv_S} {x y : Int32} (h : mv_at P pc = some (.ixor, nx, a, b, v)) (kk : V nx ls (.int (x ^^^ y) :: st) S) : V pc ls (.int y :: .int x :: st) S := C.2.2.2.2.2.2.2.2.2.2.2.2.2.2.2.2.2.2.2.2.2.2.2.2.2.1 _ _ _ _ _ _ _ _ _ _ h kk
theorem mv_ishl {P : List (Nat × mv_I)} {rt : Option FieldType} {Rn : Nat → List Value → mv_S → Option Value → mv_S → Prop} {nM sM : Nat} {r0 : Option Value} {S0 : mv_S} {V : Nat → mv_L → List Value → mv_S → Prop} (C : mv_Clo P rt Rn nM sM r0 S0 V) {pc nx a b : Nat} {v : Value} {ls : mv_L} {st : List Value} {S : mv_S} {x y : Int32} (h : mv_at P pc = some (.ishl, nx, a, b, v)) (kk : V nx ls (.int (x <<< (y &&& 31)) :: st) S) : V pc ls (.int y :: .int x :: st) S := C.2.2.2.2.2.2.2.2.2.2.2.2.2.2.2.2.2.2.2.2.2.2.2.2.2.2.1 _ _ _ _ _ _ _ _ _ _ h kk
theorem mv_ishr {P : List (Nat × mv_I)} {rt : Option FieldType} {Rn : Nat → List Value → mv_S → Option Value → mv_S → Prop} {nM sM : Nat} {r0 : Option Value} {S0 : mv_S} {V : Nat → mv_L → List Value → mv_S → Prop} (C : mv_Clo P rt Rn nM sM r0 S0 V) {pc nx a b : Nat} {v : Value} {ls : mv_L} {st : List Value} {S : mv_S} {x y : Int32} (h : mv_at P pc = some (.ishr, nx, a, b, v)) (kk : V nx ls (.int (x >>> (y &&& 31)) :: st) S) : V pc ls (.int y :: .int x :: st) S := C.2.2.2.2.2.2.2.2.2.2.2.2.2.2.2.2.2.2.2.2.2.2.2.2.2.2.2.1 _ _ _ _ _ _ _ _ _ _ h kk
theorem mv_iushr {P : List (Nat × mv_I)} {rt : Option FieldType} {Rn : Nat → List Value → mv_S → Option Value → mv_S → Prop} {nM sM : Nat} {r0 : Option Value} {S0 : mv_S} {V : Nat → mv_L → List Value → mv_S → Prop} (C : mv_Clo P rt Rn nM sM r0 S0 V) {pc nx a b : Nat} {v : Value} {ls : mv_L} {st : List Value} {S : mv_S} {x y : Int32} (h : mv_at P pc = some (.iushr, nx, a, b, v)) (kk : V nx ls (.int ((x.toUInt32 >>> (y.toUInt32 &&& Int32.toUInt32 31)).toInt32) :: st) S) : V pc ls (.int y :: .int x :: st) S := C.2.2.2.2.2.2.2.2.2.2.2.2.2.2.2.2.2.2.2.2.2.2.2.2.2.2.2.2.1 _ _ _ _ _ _ _ _ _ _ h kk
theorem mv_idiv {P : List (Nat × mv_I)} {rt : Option FieldType} {Rn : Nat → List Value → mv_S → Option Value → mv_S → Prop} {nM sM : Nat} {r0 : Option Value} {S0 : mv_S} {V : Nat → mv_L → List Value → mv_S → Prop} (C : mv_Clo P rt Rn nM sM r0 S0 V) {pc nx a b : Nat} {v : Value} {ls : mv_L} {st : List Value} {S : mv_S} {x y : Int32} (h : mv_at P pc = some (.idiv, nx, a, b, v)) (h0 : ¬ y = 0) (kk : V nx ls (.int (x / y) :: st) S) : V pc ls (.int y :: .int x :: st) S := C.2.2.2.2.2.2.2.2.2.2.2.2.2.2.2.2.2.2.2.2.2.2.2.2.2.2.2.2.2.1 _ _ _ _ _ _ _ _ _ _ h h0 kk
theorem mv_irem {P : List (Nat × mv_I)} {rt : Option FieldType} {Rn : Nat → List Value → mv_S → Option Value → mv_S → Prop} {nM sM : Nat} {r0 : Option Value} {S0 : mv_S} {V : Nat → mv_L → List Value → mv_S → Prop} (C : mv_Clo P rt Rn nM sM r0 S0 V) {pc nx a b : Nat} {v : Value} {ls : mv_L} {st : List Value} {S : mv_S} {x y : Int32} (h : mv_at P pc = some (.irem, nx, a, b, v)) (h0 : ¬ y = 0) (kk : V nx ls (.int (x - x / y * y) :: st) S) : V pc ls (.int y :: .int x :: st) S := C.2.2.2.2.2.2.2.2.2.2.2.2.2.2.2.2.2.2.2.2.2.2.2.2.2.2.2.2.2.2.1 _ _ _ _ _ _ _ _ _ _ h h0 kk
theorem mv_ladd {P : List (Nat × mv_I)} {rt : Option FieldType} {Rn : Nat → List Value → mv_S → Option Value → mv_S → Prop} {nM sM : Nat} {r0 : Option Value} {S0 : mv_S} {V : Nat → mv_L → List Value → mv_S → Prop} (C : mv_Clo P rt Rn nM sM r0 S0 V) {pc nx a b : Nat} {v : Value} {ls : mv_L} {st : List Value} {S : mv_S} {x y : Int64} (h : mv_at P pc = some (.ladd, nx, a, b, v)) (kk : V nx ls (.long (x + y) :: st) S) : V pc ls (.long y :: .long x :: st) S := C.2.2.2.2.2.2.2.2.2.2.2.2.2.2.2.2.2.2.2.2.2.2.2.2.2.2.2.2.2.2.2.1 _ _ _ _ _ _ _ _ _ _ h kk
theorem mv_lsub {P : List (Nat × mv_I)} {rt : Option FieldType} {Rn : Nat → List Value → mv_S → Option Value → mv_S → Prop} {nM sM : Nat} {r0 : Option Value} {S0 : mv_S} {V : Nat → mv_L → List Value → mv_S → Prop} (C : mv_Clo P rt Rn nM sM r0 S0 V) {pc nx a b : Nat} {v : Value} {ls : mv_L} {st : List Value} {S : mv_S} {x y : Int64} (h : mv_at P pc = some (.lsub, nx, a, b, v)) (kk : V nx ls (.long (x - y) :: st) S) : V pc ls (.long y :: .long x :: st) S := C.2.2.2.2.2.2.2.2.2.2.2.2.2.2.2.2.2.2.2.2.2.2.2.2.2.2.2.2.2.2.2.2.1 _ _ _ _ _ _ _ _ _ _ h kk
theorem mv_lmul {P : List (Nat × mv_I)} {rt : Option FieldType} {Rn : Nat → List Value → mv_S → Option Value → mv_S → Prop} {nM sM : Nat} {r0 : Option Value} {S0 : mv_S} {V : Nat → mv_L → List Value → mv_S → Prop} (C : mv_Clo P rt Rn nM sM r0 S0 V) {pc nx a b : Nat} {v : Value} {ls : mv_L} {st : List Value} {S : mv_S} {x y : Int64} (h : mv_at P pc = some (.lmul, nx, a, b, v)) (kk : V nx ls (.long (x * y) :: st) S) : V pc ls (.long y :: .long x :: st) S := C.2.2.2.2.2.2.2.2.2.2.2.2.2.2.2.2.2.2.2.2.2.2.2.2.2.2.2.2.2.2.2.2.2.1 _ _ _ _ _ _ _ _ _ _ h kk
theorem mv_land {P : List (Nat × mv_I)} {rt : Option FieldType} {Rn : Nat → List Value → mv_S → Option Value → mv_S → Prop} {nM sM : Nat} {r0 : Option Value} {S0 : mv_S} {V : Nat → mv_L → List Value → mv_S → Prop} (C : mv_Clo P rt Rn nM sM r0 S0 V) {pc nx a b : Nat} {v : Value} {ls : mv_L} {st : List Value} {S : mv_S} {x y : Int64} (h : mv_at P pc = some (.land, nx, a, b, v)) (kk : V nx ls (.long (x &&& y) :: st) S) : V pc ls (.long y :: .long x :: st) S := C.2.2.2.2.2.2.2.2.2.2.2.2.2.2.2.2.2.2.2.2.2.2.2.2.2.2.2.2.2.2.2.2.2.2.1 _ _ _ _ _ _ _ _ _ _ h kk
theorem mv_lor {P : List (Nat × mv_I)} {rt : Option FieldType} {Rn : Nat → List Value → mv_S → Option Value → mv_S → Prop} {nM sM : Nat} {r0 : Option Value} {S0 : mv_S} {V : Nat → mv_L → List Value → mv_S → Prop} (C : mv_Clo P rt Rn nM sM r0 S0 V) {pc nx a b : Nat} {v : Value} {ls : mv_L} {st : List Value} {S : mv_S} {x y : Int64} (h : mv_at P pc = some (.lor, nx, a, b, v)) (kk : V nx ls (.long (x ||| y) :: st) S) : V pc ls (.long y :: .long x :: st) S := C.2.2.2.2.2.2.2.2.2.2.2.2.2.2.2.2.2.2.2.2.2.2.2.2.2.2.2.2.2.2.2.2.2.2.2.1 _ _ _ _ _ _ _ _ _ _ h kk
theorem mv_ldiv {P : List (Nat × mv_I)} {rt : Option FieldType} {Rn : Nat → List Value → mv_S → Option Value → mv_S → Prop} {nM sM : Nat} {r0 : Option Value} {S0 : mv_S} {V : Nat → mv_L → List Value → mv_S → Prop} (C : mv_Clo P rt Rn nM sM r0 S0 V) {pc nx a b : Nat} {v : Value} {ls : mv_L} {st : List Value} {S : mv_S} {x y : Int64} (h : mv_at P pc = some (.ldiv, nx, a, b, v)) (h0 : ¬ y = 0) (kk : V nx ls (.long (x / y) :: st) S) : V pc ls (.long y :: .long x :: st) S := C.2.2.2.2.2.2.2.2.2.2.2.2.2.2.2.2.2.2.2.2.2.2.2.2.2.2.2.2.2.2.2.2.2.2.2.2.1 _ _ _ _ _ _ _ _ _ _ h h0 kk
theorem mv_lshl {P : List (Nat × mv_I)} {rt : Option FieldType} {Rn : Nat → List Value → mv_S → Option Value → mv_S → Prop} {nM sM : Nat} {r0 : Option Value} {S0 : mv_S} {V : Nat → mv_L → List Value → mv_S → Prop} (C : mv_Clo P rt Rn nM sM r0 S0 V) {pc nx a b : Nat} {v : Value} {ls : mv_L} {st : List Value} {S : mv_S} {x : Int64} {y : Int32} (h : mv_at P pc = some (.lshl, nx, a, b, v)) (kk : V nx ls (.long (x <<< (y.toInt64 &&& 63)) :: st) S) : V pc ls (.int y :: .long x :: st) S := C.2.2.2.2.2.2.2.2.2.2.2.2.2.2.2.2.2.2.2.2.2.2.2.2.2.2.2.2.2.2.2.2.2.2.2.2.2.1 _ _ _ _ _ _ _ _ _ _ h kk
theorem mv_lcmp {P : List (Nat × mv_I)} {rt : Option FieldType} {Rn : Nat → List Value → mv_S → Option Value → mv_S → Prop} {nM sM : Nat} {r0 : Option Value} {S0 : mv_S} {V : Nat → mv_L → List Value → mv_S → Prop} (C : mv_Clo P rt Rn nM sM r0 S0 V) {pc nx a b : Nat} {v : Value} {ls : mv_L} {st : List Value} {S : mv_S} {x y : Int64} (h : mv_at P pc = some (.lcmp, nx, a, b, v)) (kk : V nx ls (.int (lg_cmp x y) :: st) S) : V pc ls (.long y :: .long x :: st) S := C.2.2.2.2.2.2.2.2.2.2.2.2.2.2.2.2.2.2.2.2.2.2.2.2.2.2.2.2.2.2.2.2.2.2.2.2.2.2.1 _ _ _ _ _ _ _ _ _ _ h kk
theorem mv_i2l {P : List (Nat × mv_I)} {rt : Option FieldType} {Rn : Nat → List Value → mv_S → Option Value → mv_S → Prop} {nM sM : Nat} {r0 : Option Value} {S0 : mv_S} {V : Nat → mv_L → List Value → mv_S → Prop} (C : mv_Clo P rt Rn nM sM r0 S0 V) {pc nx a b : Nat} {v : Value} {ls : mv_L} {st : List Value} {S : mv_S} {x : Int32} (h : mv_at P pc = some (.i2l, nx, a, b, v)) (kk : V nx ls (.long x.toInt64 :: st) S) : V pc ls (.int x :: st) S := C.2.2.2.2.2.2.2.2.2.2.2.2.2.2.2.2.2.2.2.2.2.2.2.2.2.2.2.2.2.2.2.2.2.2.2.2.2.2.2.1 _ _ _ _ _ _ _ _ _ h kk
theorem mv_l2i {P : List (Nat × mv_I)} {rt : Option FieldType} {Rn : Nat → List Value → mv_S → Option Value → mv_S → Prop} {nM sM : Nat} {r0 : Option Value} {S0 : mv_S} {V : Nat → mv_L → List Value → mv_S → Prop} (C : mv_Clo P rt Rn nM sM r0 S0 V) {pc nx a b : Nat} {v : Value} {ls : mv_L} {st : List Value} {S : mv_S} {x : Int64} (h : mv_at P pc = some (.l2i, nx, a, b, v)) (kk : V nx ls (.int x.toInt32 :: st) S) : V pc ls (.long x :: st) S := C.2.2.2.2.2.2.2.2.2.2.2.2.2.2.2.2.2.2.2.2.2.2.2.2.2.2.2.2.2.2.2.2.2.2.2.2.2.2.2.2.1 _ _ _ _ _ _ _ _ _ h kk
theorem mv_ineg {P : List (Nat × mv_I)} {rt : Option FieldType} {Rn : Nat → List Value → mv_S → Option Value → mv_S → Prop} {nM sM : Nat} {r0 : Option Value} {S0 : mv_S} {V : Nat → mv_L → List Value → mv_S → Prop} (C : mv_Clo P rt Rn nM sM r0 S0 V) {pc nx a b : Nat} {v : Value} {ls : mv_L} {st : List Value} {S : mv_S} {x : Int32} (h : mv_at P pc = some (.ineg, nx, a, b, v)) (kk : V nx ls (.int (-x) :: st) S) : V pc ls (.int x :: st) S := C.2.2.2.2.2.2.2.2.2.2.2.2.2.2.2.2.2.2.2.2.2.2.2.2.2.2.2.2.2.2.2.2.2.2.2.2.2.2.2.2.2.1 _ _ _ _ _ _ _ _ _ h kk
theorem mv_dup {P : List (Nat × mv_I)} {rt : Option FieldType} {Rn : Nat → List Value → mv_S → Option Value → mv_S → Prop} {nM sM : Nat} {r0 : Option Value} {S0 : mv_S} {V : Nat → mv_L → List Value → mv_S → Prop} (C : mv_Clo P rt Rn nM sM r0 S0 V) {pc nx a b : Nat} {v : Value} {ls : mv_L} {st : List Value} {S : mv_S} {x : Value} (h : mv_at P pc = some (.dup, nx, a, b, v)) (h0 : x.category = 1) (kk : V nx ls (x :: x :: st) S) : V pc ls (x :: st) S := C.2.2.2.2.2.2.2.2.2.2.2.2.2.2.2.2.2.2.2.2.2.2.2.2.2.2.2.2.2.2.2.2.2.2.2.2.2.2.2.2.2.2.1 _ _ _ _ _ _ _ _ _ h h0 kk
theorem mv_dup2 {P : List (Nat × mv_I)} {rt : Option FieldType} {Rn : Nat → List Value → mv_S → Option Value → mv_S → Prop} {nM sM : Nat} {r0 : Option Value} {S0 : mv_S} {V : Nat → mv_L → List Value → mv_S → Prop} (C : mv_Clo P rt Rn nM sM r0 S0 V) {pc nx a b : Nat} {v : Value} {ls : mv_L} {st : List Value} {S : mv_S} {x y : Value} (h : mv_at P pc = some (.dup2, nx, a, b, v)) (h0 : x.category = 1) (h1 : y.category = 1) (kk : V nx ls (x :: y :: x :: y :: st) S) : V pc ls (x :: y :: st) S := C.2.2.2.2.2.2.2.2.2.2.2.2.2.2.2.2.2.2.2.2.2.2.2.2.2.2.2.2.2.2.2.2.2.2.2.2.2.2.2.2.2.2.2.1 _ _ _ _ _ _ _ _ _ _ h h0 h1 kk
theorem mv_pop {P : List (Nat × mv_I)} {rt : Option FieldType} {Rn : Nat → List Value → mv_S → Option Value → mv_S → Prop} {nM sM : Nat} {r0 : Option Value} {S0 : mv_S} {V : Nat → mv_L → List Value → mv_S → Prop} (C : mv_Clo P rt Rn nM sM r0 S0 V) {pc nx a b : Nat} {v : Value} {ls : mv_L} {st : List Value} {S : mv_S} {x : Value} (h : mv_at P pc = some (.pop, nx, a, b, v)) (h0 : x.category = 1) (kk : V nx ls st S) : V pc ls (x :: st) S := C.2.2.2.2.2.2.2.2.2.2.2.2.2.2.2.2.2.2.2.2.2.2.2.2.2.2.2.2.2.2.2.2.2.2.2.2.2.2.2.2.2.2.2.2.1 _ _ _ _ _ _ _ _ _ h h0 kk
theorem mv_goto {P : List (Nat × mv_I)} {rt : Option FieldType} {Rn : Nat → List Value → mv_S → Option Value → mv_S → Prop} {nM sM : Nat} {r0 : Option Value} {S0 : mv_S} {V : Nat → mv_L → List Value → mv_S → Prop} (C : mv_Clo P rt Rn nM sM r0 S0 V) {pc nx a b : Nat} {v : Value} {ls : mv_L} {st : List Value} {S : mv_S} {o : Int} (h : mv_at P pc = some (.goto o, nx, a, b, v)) (kk : V a ls st S) : V pc ls st S := C.2.2.2.2.2.2.2.2.2.2.2.2.2.2.2.2.2.2.2.2.2.2.2.2.2.2.2.2.2.2.2.2.2.2.2.2.2.2.2.2.2.2.2.2.2.1 _ _ _ _ _ _ _ _ _ h kk
theorem mv_if_eq {P : List (Nat × mv_I)} {rt : Option FieldType} {Rn : Nat → List Value → mv_S → Option Value → mv_S → Prop} {nM sM : Nat} {r0 : Option Value} {S0 : mv_S} {V : Nat → mv_L → List Value → mv_S → Prop} (C : mv_Clo P rt Rn nM sM r0 S0 V) {pc nx a b : Nat} {v : Value} {ls : mv_L} {st : List Value} {S : mv_S} {o : Int} {x : Int32} (h : mv_at P pc = some (.ifCond .eq o, nx, a, b, v)) (h0 : (x = 0 → V a ls st S)) (h1 : (¬ (x = 0) → V nx ls st S)) : V pc ls (.int x :: st) S := C.2.2.2.2.2.2.2.2.2.2.2.2.2.2.2.2.2.2.2.2.2.2.2.2.2.2.2.2.2.2.2.2.2.2.2.2.2.2.2.2.2.2.2.2.2.2.1 _ _ _ _ _ _ _ _ _ _ h h0 h1
theorem mv_if_ne {P : List (Nat × mv_I)} {rt : Option FieldType} {Rn : Nat → List Value → mv_S → Option Value → mv_S → Prop} {nM sM : Nat} {r0 : Option Value} {S0 : mv_S} {V : Nat → mv_L → List Value → mv_S → Prop} (C : mv_Clo P rt Rn nM sM r0 S0 V) {pc nx a b : Nat} {v : Value} {ls : mv_L} {st : List Value} {S : mv_S} {o : Int} {x : Int32} (h : mv_at P pc = some (.ifCond .ne o, nx, a, b, v)) (h0 : (¬ x = 0 → V a ls st S)) (h1 : (x = 0 → V nx ls st S)) : V pc ls (.int x :: st) S := C.2.2.2.2.2.2.2.2.2.2.2.2.2.2.2.2.2.2.2.2.2.2.2.2.2.2.2.2.2.2.2.2.2.2.2.2.2.2.2.2.2.2.2.2.2.2.2.1 _ _ _ _ _ _ _ _ _ _ h h0 h1
theorem mv_if_lt {P : List (Nat × mv_I)} {rt : Option FieldType} {Rn : Nat → List Value → mv_S → Option Value → mv_S → Prop} {nM sM : Nat} {r0 : Option Value} {S0 : mv_S} {V : Nat → mv_L → List Value → mv_S → Prop} (C : mv_Clo P rt Rn nM sM r0 S0 V) {pc nx a b : Nat} {v : Value} {ls : mv_L} {st : List Value} {S : mv_S} {o : Int} {x : Int32} (h : mv_at P pc = some (.ifCond .lt o, nx, a, b, v)) (h0 : (x < 0 → V a ls st S)) (h1 : (¬ (x < 0) → V nx ls st S)) : V pc ls (.int x :: st) S := C.2.2.2.2.2.2.2.2.2.2.2.2.2.2.2.2.2.2.2.2.2.2.2.2.2.2.2.2.2.2.2.2.2.2.2.2.2.2.2.2.2.2.2.2.2.2.2.2.1 _ _ _ _ _ _ _ _ _ _ h h0 h1
theorem mv_if_ge {P : List (Nat × mv_I)} {rt : Option FieldType} {Rn : Nat → List Value → mv_S → Option Value → mv_S → Prop} {nM sM : Nat} {r0 : Option Value} {S0 : mv_S} {V : Nat → mv_L → List Value → mv_S → Prop} (C : mv_Clo P rt Rn nM sM r0 S0 V) {pc nx a b : Nat} {v : Value} {ls : mv_L} {st : List Value} {S : mv_S} {o : Int} {x : Int32} (h : mv_at P pc = some (.ifCond .ge o, nx, a, b, v)) (h0 : (0 ≤ x → V a ls st S)) (h1 : (¬ (0 ≤ x) → V nx ls st S)) : V pc ls (.int x :: st) S := C.2.2.2.2.2.2.2.2.2.2.2.2.2.2.2.2.2.2.2.2.2.2.2.2.2.2.2.2.2.2.2.2.2.2.2.2.2.2.2.2.2.2.2.2.2.2.2.2.2.1 _ _ _ _ _ _ _ _ _ _ h h0 h1
theorem mv_if_gt {P : List (Nat × mv_I)} {rt : Option FieldType} {Rn : Nat → List Value → mv_S → Option Value → mv_S → Prop} {nM sM : Nat} {r0 : Option Value} {S0 : mv_S} {V : Nat → mv_L → List Value → mv_S → Prop} (C : mv_Clo P rt Rn nM sM r0 S0 V) {pc nx a b : Nat} {v : Value} {ls : mv_L} {st : List Value} {S : mv_S} {o : Int} {x : Int32} (h : mv_at P pc = some (.ifCond .gt o, nx, a, b, v)) (h0 : (0 < x → V a ls st S)) (h1 : (¬ (0 < x) → V nx ls st S)) : V pc ls (.int x :: st) S := C.2.2.2.2.2.2.2.2.2.2.2.2.2.2.2.2.2.2.2.2.2.2.2.2.2.2.2.2.2.2.2.2.2.2.2.2.2.2.2.2.2.2.2.2.2.2.2.2.2.2.1 _ _ _ _ _ _ _ _ _ _ h h0 h1
theorem mv_if_le {P : List (Nat × mv_I)} {rt : Option FieldType} {Rn : Nat → List Value → mv_S → Option Value → mv_S → Prop} {nM sM : Nat} {r0 : Option Value} {S0 : mv_S} {V : Nat → mv_L → List Value → mv_S → Prop} (C : mv_Clo P rt Rn nM sM r0 S0 V) {pc nx a b : Nat} {v : Value} {ls : mv_L} {st : List Value} {S : mv_S} {o : Int} {x : Int32} (h : mv_at P pc = some (.ifCond .le o, nx, a, b, v)) (h0 : (x ≤ 0 → V a ls st S)) (h1 : (¬ (x ≤ 0) → V nx ls st S)) : V pc ls (.int x :: st) S := C.2.2.2.2.2.2.2.2.2.2.2.2.2.2.2.2.2.2.2.2.2.2.2.2.2.2.2.2.2.2.2.2.2.2.2.2.2.2.2.2.2.2.2.2.2.2.2.2.2.2.2.1 _ _ _ _ _ _ _ _ _ _ h h0 h1
theorem mv_icmp_eq {P : List (Nat × mv_I)} {rt : Option FieldType} {Rn : Nat → List Value → mv_S → Option Value → mv_S → Prop} {nM sM : Nat} {r0 : Option Value} {S0 : mv_S} {V : Nat → mv_L → List Value → mv_S → Prop} (C : mv_Clo P rt Rn nM sM r0 S0 V) {pc nx a b : Nat} {v : Value} {ls : mv_L} {st : List Value} {S : mv_S} {o : Int} {x y : Int32} (h : mv_at P pc = some (.if_icmp .eq o, nx, a, b, v)) (h0 : (x = y → V a ls st S)) (h1 : (¬ (x = y) → V nx ls st S)) : V pc ls (.int y :: .int x :: st) S := C.2.2.2.2.2.2.2.2.2.2.2.2.2.2.2.2.2.2.2.2.2.2.2.2.2.2.2.2.2.2.2.2.2.2.2.2.2.2.2.2.2.2.2.2.2.2.2.2.2.2.2.2.1 _ _ _ _ _ _ _ _ _ _ _ h h0 h1
theorem mv_icmp_ne {P : List (Nat × mv_I)} {rt : Option FieldType} {Rn : Nat → List Value → mv_S → Option Value → mv_S → Prop} {nM sM : Nat} {r0 : Option Value} {S0 : mv_S} {V : Nat → mv_L → List Value → mv_S → Prop} (C : mv_Clo P rt Rn nM sM r0 S0 V) {pc nx a b : Nat} {v : Value} {ls : mv_L} {st : List Value} {S : mv_S} {o : Int} {x y : Int32} (h : mv_at P pc = some (.if_icmp .ne o, nx, a, b, v)) (h0 : (¬ x = y → V a ls st S)) (h1 : (x = y → V nx ls st S)) : V pc ls (.int y :: .int x :: st) S := C.2.2.2.2.2.2.2.2.2.2.2.2.2.2.2.2.2.2.2.2.2.2.2.2.2.2.2.2.2.2.2.2.2.2.2.2.2.2.2.2.2.2.2.2.2.2.2.2.2.2.2.2.2.1 _ _ _ _ _ _ _ _ _ _ _ h h0 h1
theorem mv_icmp_lt {P : List (Nat × mv_I)} {rt : Option FieldType} {Rn : Nat → List Value → mv_S → Option Value → mv_S → Prop} {nM sM : Nat} {r0 : Option Value} {S0 : mv_S} {V : Nat → mv_L → List Value → mv_S → Prop} (C : mv_Clo P rt Rn nM sM r0 S0 V) {pc nx a b : Nat} {v : Value} {ls : mv_L} {st : List Value} {S : mv_S} {o : Int} {x y : Int32} (h : mv_at P pc = some (.if_icmp .lt o, nx, a, b, v)) (h0 : (x < y → V a ls st S)) (h1 : (¬ (x < y) → V nx ls st S)) : V pc ls (.int y :: .int x :: st) S := C.2.2.2.2.2.2.2.2.2.2.2.2.2.2.2.2.2.2.2.2.2.2.2.2.2.2.2.2.2.2.2.2.2.2.2.2.2.2.2.2.2.2.2.2.2.2.2.2.2.2.2.2.2.2.1 _ _ _ _ _ _ _ _ _ _ _ h h0 h1
theorem mv_icmp_ge {P : List (Nat × mv_I)} {rt : Option FieldType} {Rn : Nat → List Value → mv_S → Option Value → mv_S → Prop} {nM sM : Nat} {r0 : Option Value} {S0 : mv_S} {V : Nat → mv_L → List Value → mv_S → Prop} (C : mv_Clo P rt Rn nM sM r0 S0 V) {pc nx a b : Nat} {v : Value} {ls : mv_L} {st : List Value} {S : mv_S} {o : Int} {x y : Int32} (h : mv_at P pc = some (.if_icmp .ge o, nx, a, b, v)) (h0 : (y ≤ x → V a ls st S)) (h1 : (¬ (y ≤ x) → V nx ls st S)) : V pc ls (.int y :: .int x :: st) S := C.2.2.2.2.2.2.2.2.2.2.2.2.2.2.2.2.2.2.2.2.2.2.2.2.2.2.2.2.2.2.2.2.2.2.2.2.2.2.2.2.2.2.2.2.2.2.2.2.2.2.2.2.2.2.2.1 _ _ _ _ _ _ _ _ _ _ _ h h0 h1
theorem mv_icmp_gt {P : List (Nat × mv_I)} {rt : Option FieldType} {Rn : Nat → List Value → mv_S → Option Value → mv_S → Prop} {nM sM : Nat} {r0 : Option Value} {S0 : mv_S} {V : Nat → mv_L → List Value → mv_S → Prop} (C : mv_Clo P rt Rn nM sM r0 S0 V) {pc nx a b : Nat} {v : Value} {ls : mv_L} {st : List Value} {S : mv_S} {o : Int} {x y : Int32} (h : mv_at P pc = some (.if_icmp .gt o, nx, a, b, v)) (h0 : (y < x → V a ls st S)) (h1 : (¬ (y < x) → V nx ls st S)) : V pc ls (.int y :: .int x :: st) S := C.2.2.2.2.2.2.2.2.2.2.2.2.2.2.2.2.2.2.2.2.2.2.2.2.2.2.2.2.2.2.2.2.2.2.2.2.2.2.2.2.2.2.2.2.2.2.2.2.2.2.2.2.2.2.2.2.1 _ _ _ _ _ _ _ _ _ _ _ h h0 h1
theorem mv_icmp_le {P : List (Nat × mv_I)} {rt : Option FieldType} {Rn : Nat → List Value → mv_S → Option Value → mv_S → Prop} {nM sM : Nat} {r0 : Option Value} {S0 : mv_S} {V : Nat → mv_L → List Value → mv_S → Prop} (C : mv_Clo P rt Rn nM sM r0 S0 V) {pc nx a b : Nat} {v : Value} {ls : mv_L} {st : List Value} {S : mv_S} {o : Int} {x y : Int32} (h : mv_at P pc = some (.if_icmp .le o, nx, a, b, v)) (h0 : (x ≤ y → V a ls st S)) (h1 : (¬ (x ≤ y) → V nx ls st S)) : V pc ls (.int y :: .int x :: st) S := C.2.2.2.2.2.2.2.2.2.2.2.2.2.2.2.2.2.2.2.2.2.2.2.2.2.2.2.2.2.2.2.2.2.2.2.2.2.2.2.2.2.2.2.2.2.2.2.2.2.2.2.2.2.2.2.2.2.1 _ _ _ _ _ _ _ _ _ _ _ h h0 h1
theorem mv_tsw_out {P : List (Nat × mv_I)} {rt : Option FieldType} {Rn : Nat → List Value → mv_S → Option Value → mv_S → Prop} {nM sM : Nat} {r0 : Option Value} {S0 : mv_S} {V : Nat → mv_L → List Value → mv_S → Prop} (C : mv_Clo P rt Rn nM sM r0 S0 V) {pc nx a b : Nat} {v : Value} {ls : mv_L} {st : List Value} {S : mv_S} {d lo hi : Int} {os : Array Int} {x : Int32} {t : Nat} (h : mv_at P pc = some (.tableswitch d lo hi os, nx, a, b, v)) (h0 : x.toInt < lo ∨ hi < x.toInt) (h1 : (b : Int) + d = (t : Int)) (kk : V t ls st S) : V pc ls (.int x :: st) S := C.2.2.2.2.2.2.2.2.2.2.2.2.2.2.2.2.2.2.2.2.2.2.2.2.2.2.2.2.2.2.2.2.2.2.2.2.2.2.2.2.2.2.2.2.2.2.2.2.2.2.2.2.2.2.2.2.2.2.1 _ _ _ _ _ _ _ _ _ _ _ _ _ _ h h0 h1 kk
theorem mv_tsw_in {P : List (Nat × mv_I)} {rt : Option FieldType} {Rn : Nat → List Value → mv_S → Option Value → mv_S → Prop} {nM sM : Nat} {r0 : Option Value} {S0 : mv_S} {V : Nat → mv_L → List Value → mv_S → Prop} (C : mv_Clo P rt Rn nM sM r0 S0 V) {pc nx a b : Nat} {v : Value} {ls : mv_L} {st : List Value} {S : mv_S} {d lo hi : Int} {os : Array Int} {x : Int32} {o : Int} {t : Nat} (h : mv_at P pc = some (.tableswitch d lo hi os, nx, a, b, v)) (h0 : ¬ x.toInt < lo) (h1 : ¬ hi < x.toInt) (h2 : os[(x.toInt - lo).toNat]? = some o) (h3 : (b : Int) + o = (t : Int)) (kk : V t ls st S) : V pc ls (.int x :: st) S := C.2.2.2.2.2.2.2.2.2.2.2.2.2.2.2.2.2.2.2.2.2.2.2.2.2.2.2.2.2.2.2.2.2.2.2.2.2.2.2.2.2.2.2.2.2.2.2.2.2.2.2.2.2.2.2.2.2.2.2.1 _ _ _ _ _ _ _ _ _ _ _ _ _ _ _ h h0 h1 h2 h3 kk
theorem mv_lsw {P : List (Nat × mv_I)} {rt : Option FieldType} {Rn : Nat → List Value → mv_S → Option Value → mv_S → Prop} {nM sM : Nat} {r0 : Option Value} {S0 : mv_S} {V : Nat → mv_L → List Value → mv_S → Prop} (C : mv_Clo P rt Rn nM sM r0 S0 V) {pc nx a b : Nat} {v : Value} {ls : mv_L} {st : List Value} {S : mv_S} {d : Int} {ps : Array (Int × Int)} {x : Int32} {o : Int} {t : Nat} (h : mv_at P pc = some (.lookupswitch d ps, nx, a, b, v)) (h0 : Op.lookupswitch.offset ps.toList d x.toInt = o) (h1 : (b : Int) + o = (t : Int)) (kk : V t ls st S) : V pc ls (.int x :: st) S := C.2.2.2.2.2.2.2.2.2.2.2.2.2.2.2.2.2.2.2.2.2.2.2.2.2.2.2.2.2.2.2.2.2.2.2.2.2.2.2.2.2.2.2.2.2.2.2.2.2.2.2.2.2.2.2.2.2.2.2.2.1 _ _ _ _ _ _ _ _ _ _ _ _ _ h h0 h1 kk
theorem mv_getfield {P : List (Nat × mv_I)} {rt : Option FieldType} {Rn : Nat → List Value → mv_S → Option Value → mv_S → Prop} {nM sM : Nat} {r0 : Option Value} {S0 : mv_S} {V : Nat → mv_L → List Value → mv_S → Prop} (C : mv_Clo P rt Rn nM sM r0 S0 V) {pc nx a b : Nat} {v : Value} {ls : mv_L} {st : List Value} {S : mv_S} {n q : Nat} {fs : List Value} {x : Value} (h : mv_at P pc = some (.getfield n, nx, a, b, v)) (h0 : q < S.1) (h1 : S.2.2 q = .inr (a, fs)) (h2 : fs[b]? = some x) (kk : V nx ls (x :: st) S) : V pc ls (.ref q :: st) S := C.2.2.2.2.2.2.2.2.2.2.2.2.2.2.2.2.2.2.2.2.2.2.2.2.2.2.2.2.2.2.2.2.2.2.2.2.2.2.2.2.2.2.2.2.2.2.2.2.2.2.2.2.2.2.2.2.2.2.2.2.2.1 _ _ _ _ _ _ _ _ _ _ _ _ h h0 h1 h2 kk
theorem mv_putfield {P : List (Nat × mv_I)} {rt : Option FieldType} {Rn : Nat → List Value → mv_S → Option Value → mv_S → Prop} {nM sM : Nat} {r0 : Option Value} {S0 : mv_S} {V : Nat → mv_L → List Value → mv_S → Prop} (C : mv_Clo P rt Rn nM sM r0 S0 V) {pc nx a b : Nat} {v : Value} {ls : mv_L} {st : List Value} {S : mv_S} {n q : Nat} {fs : List Value} {x : Value} (h : mv_at P pc = some (.putfield n, nx, a, b, v)) (h0 : q < S.1) (h1 : S.2.2 q = .inr (a, fs)) (h2 : b < fs.length) (h3 : mv_vok a b x = true) (kk : V nx ls st (S.1, S.2.1, va_up S.2.2 q (.inr (a, fs.set b x)))) : V pc ls (x :: .ref q :: st) S := C.2.2.2.2.2.2.2.2.2.2.2.2.2.2.2.2.2.2.2.2.2.2.2.2.2.2.2.2.2.2.2.2.2.2.2.2.2.2.2.2.2.2.2.2.2.2.2.2.2.2.2.2.2.2.2.2.2.2.2.2.2.2.1 _ _ _ _ _ _ _ _ _ _ _ _ h h0 h1 h2 h3 kk
theorem mv_iaload {P : List (Nat × mv_I)} {rt : Option FieldType} {Rn : Nat → List Value → mv_S → Option Value → mv_S → Prop} {nM sM : Nat} {r0 : Option Value} {S0 : mv_S} {V : Nat → mv_L → List Value → mv_S → Prop} (C : mv_Clo P rt Rn nM sM r0 S0 V) {pc nx a b : Nat} {v : Value} {ls : mv_L} {st : List Value} {S : mv_S} {q len : Nat} {f : Nat → Int32} {x : Int32} (h : mv_at P pc = some (.iaload, nx, a, b, v)) (h0 : q < S.1) (h1 : S.2.2 q = .inl (0, len, .inl f)) (h2 : vp_in x len) (kk : V nx ls (.int (f x.toNatClampNeg) :: st) S) : V pc ls (.int x :: .ref q :: st) S := C.2.2.2.2.2.2.2.2.2.2.2.2.2.2.2.2.2.2.2.2.2.2.2.2.2.2.2.2.2.2.2.2.2.2.2.2.2.2.2.2.2.2.2.2.2.2.2.2.2.2.2.2.2.2.2.2.2.2.2.2.2.2.2.1 _ _ _ _ _ _ _ _ _ _ _ _ h h0 h1 h2 kk
theorem mv_baload {P : List (Nat × mv_I)} {rt : Option FieldType} {Rn : Nat → List Value → mv_S → Option Value → mv_S → Prop} {nM sM : Nat} {r0 : Option Value} {S0 : mv_S} {V : Nat → mv_L → List Value → mv_S → Prop} (C : mv_Clo P rt Rn nM sM r0 S0 V) {pc nx a b : Nat} {v : Value} {ls : mv_L} {st : List Value} {S : mv_S} {q len : Nat} {f : Nat → Int32} {x : Int32} (h : mv_at P pc = some (.baload, nx, a, b, v)) (h0 : q < S.1) (h1 : S.2.2 q = .inl (1, len, .inl f)) (h2 : vp_in x len) (kk : V nx ls (.int (f x.toNatClampNeg) :: st) S) : V pc ls (.int x :: .ref q :: st) S := C.2.2.2.2.2.2.2.2.2.2.2.2.2.2.2.2.2.2.2.2.2.2.2.2.2.2.2.2.2.2.2.2.2.2.2.2.2.2.2.2.2.2.2.2.2.2.2.2.2.2.2.2.2.2.2.2.2.2.2.2.2.2.2.2.1 _ _ _ _ _ _ _ _ _ _ _ _ h h0 h1 h2 kk
theorem mv_laload {P : List (Nat × mv_I)} {rt : Option FieldType} {Rn : Nat → List Value → mv_S → Option Value → mv_S → Prop} {nM sM : Nat} {r0 : Option Value} {S0 : mv_S} {V : Nat → mv_L → List Value → mv_S → Prop} (C : mv_Clo P rt Rn nM sM r0 S0 V) {pc nx a b : Nat} {v : Value} {ls : mv_L} {st : List Value} {S : mv_S} {q len : Nat} {f : Nat → Int64} {x : Int32} (h : mv_at P pc = some (.laload, nx, a, b, v)) (h0 : q < S.1) (h1 : S.2.2 q = .inl (2, len, .inr (.inl f))) (h2 : vp_in x len) (kk : V nx ls (.long (f x.toNatClampNeg) :: st) S) : V pc ls (.int x :: .ref q :: st) S := C.2.2.2.2.2.2.2.2.2.2.2.2.2.2.2.2.2.2.2.2.2.2.2.2.2.2.2.2.2.2.2.2.2.2.2.2.2.2.2.2.2.2.2.2.2.2.2.2.2.2.2.2.2.2.2.2.2.2.2.2.2.2.2.2.2.1 _ _ _ _ _ _ _ _ _ _ _ _ h h0 h1 h2 kk
theorem mv_aaload {P : List (Nat × mv_I)} {rt : Option FieldType} {Rn : Nat → List Value → mv_S → Option Value → mv_S → Prop} {nM sM : Nat} {r0 : Option Value} {S0 : mv_S} {V : Nat → mv_L → List Value → mv_S → Prop} (C : mv_Clo P rt Rn nM sM r0 S0 V) {pc nx a b : Nat} {v : Value} {ls : mv_L} {st : List Value} {S : mv_S} {q len y : Nat} {f : Nat → Option Nat} {x : Int32} (h : mv_at P pc = some (.aaload, nx, a, b, v)) (h0 : q < S.1) (h1 : S.2.2 q = .inl (3, len, .inr (.inr (.inr (.inr f))))) (h2 : vp_in x len) (h3 : f x.toNatClampNeg = some y) (kk : V nx ls (.ref y :: st) S) : V pc ls (.int x :: .ref q :: st) S := C.2.2.2.2.2.2.2.2.2.2.2.2.2.2.2.2.2.2.2.2.2.2.2.2.2.2.2.2.2.2.2.2.2.2.2.2.2.2.2.2.2.2.2.2.2.2.2.2.2.2.2.2.2.2.2.2.2.2.2.2.2.2.2.2.2.2.1 _ _ _ _ _ _ _ _ _ _ _ _ _ h h0 h1 h2 h3 kk
theorem mv_iastore {P : List (Nat × mv_I)} {rt : Option FieldType} {Rn : Nat → List Value → mv_S → Option Value → mv_S → Prop} {nM sM : Nat} {r0 : Option Value} {S0 : mv_S} {V : Nat → mv_L → List Value → mv_S → Prop} (C : mv_Clo P rt Rn nM sM r0 S0 V) {pc nx a b : Nat} {v : Value} {ls : mv_L} {st : List Value} {S : mv_S} {q len : Nat} {f : Nat → Int32} {x y : Int32} (h : mv_at P pc = some (.iastore, nx, a, b, v)) (h0 : q < S.1) (h1 : S.2.2 q = .inl (0, len, .inl f)) (h2 : vp_in x len) (kk : V nx ls st (S.1, S.2.1, va_up S.2.2 q (.inl (0, len, .inl (upd f x.toNatClampNeg y))))) : V pc ls (.int y :: .int x :: .ref q :: st) S := C.2.2.2.2.2.2.2.2.2.2.2.2.2.2.2.2.2.2.2.2.2.2.2.2.2.2.2.2.2.2.2.2.2.2.2.2.2.2.2.2.2.2.2.2.2.2.2.2.2.2.2.2.2.2.2.2.2.2.2.2.2.2.2.2.2.2.2.1 _ _ _ _ _ _ _ _ _ _ _ _ _ h h0 h1 h2 kk
theorem mv_bastore {P : List (Nat × mv_I)} {rt : Option FieldType} {Rn : Nat → List Value → mv_S → Option Value → mv_S → Prop} {nM sM : Nat} {r0 : Option Value} {S0 : mv_S} {V : Nat → mv_L → List Value → mv_S → Prop} (C : mv_Clo P rt Rn nM sM r0 S0 V) {pc nx a b : Nat} {v : Value} {ls : mv_L} {st : List Value} {S : mv_S} {q len : Nat} {f : Nat → Int32} {x y : Int32} (h : mv_at P pc = some (.bastore, nx, a, b, v)) (h0 : q < S.1) (h1 : S.2.2 q = .inl (1, len, .inl f)) (h2 : vp_in x len) (h3 : y = 0 ∨ y = 1) (kk : V nx ls st (S.1, S.2.1, va_up S.2.2 q (.inl (1, len, .inl (upd f x.toNatClampNeg y))))) : V pc ls (.int y :: .int x :: .ref q :: st) S := C.2.2.2.2.2.2.2.2.2.2.2.2.2.2.2.2.2.2.2.2.2.2.2.2.2.2.2.2.2.2.2.2.2.2.2.2.2.2.2.2.2.2.2.2.2.2.2.2.2.2.2.2.2.2.2.2.2.2.2.2.2.2.2.2.2.2.2.2.1 _ _ _ _ _ _ _ _ _ _ _ _ _ h h0 h1 h2 h3 kk
theorem mv_lastore {P : List (Nat × mv_I)} {rt : Option FieldType} {Rn : Nat → List Value → mv_S → Option Value → mv_S → Prop} {nM sM : Nat} {r0 : Option Value} {S0 : mv_S} {V : Nat → mv_L → List Value → mv_S → Prop} (C : mv_Clo P rt Rn nM sM r0 S0 V) {pc nx a b : Nat} {v : Value} {ls : mv_L} {st : List Value} {S : mv_S} {q len : Nat} {f : Nat → Int64} {x : Int32} {y : Int64} (h : mv_at P pc = some (.lastore, nx, a, b, v)) (h0 : q < S.1) (h1 : S.2.2 q = .inl (2, len, .inr (.inl f))) (h2 : vp_in x len) (kk : V nx ls st (S.1, S.2.1, va_up S.2.2 q (.inl (2, len, .inr (.inl (vp_updL f x.toNatClampNeg y)))))) : V pc ls (.long y :: .int x :: .ref q :: st) S := C.2.2.2.2.2.2.2.2.2.2.2.2.2.2.2.2.2.2.2.2.2.2.2.2.2.2.2.2.2.2.2.2.2.2.2.2.2.2.2.2.2.2.2.2.2.2.2.2.2.2.2.2.2.2.2.2.2.2.2.2.2.2.2.2.2.2.2.2.2.1 _ _ _ _ _ _ _ _ _ _ _ _ _ h h0 h1 h2 kk
theorem mv_aastore {P : List (Nat × mv_I)} {rt : Option FieldType} {Rn : Nat → List Value → mv_S → Option Value → mv_S → Prop} {nM sM : Nat} {r0 : Option Value} {S0 : mv_S} {V : Nat → mv_L → List Value → mv_S → Prop} (C : mv_Clo P rt Rn nM sM r0 S0 V) {pc nx a b : Nat} {v : Value} {ls : mv_L} {st : List Value} {S : mv_S} {q len y : Nat} {f : Nat → Option Nat} {x : Int32} {fs : List Value} (h : mv_at P pc = some (.aastore, nx, a, b, v)) (h0 : q < S.1) (h1 : S.2.2 q = .inl (3, len, .inr (.inr (.inr (.inr f))))) (h2 : vp_in x len) (h3 : y < S.1) (h4 : S.2.2 y = .inr (0, fs)) (kk : V nx ls st (S.1, S.2.1, va_up S.2.2 q (.inl (3, len, .inr (.inr (.inr (.inr (va_up f x.toNatClampNeg (some y))))))))) : V pc ls (.ref y :: .int x :: .ref q :: st) S := C.2.2.2.2.2.2.2.2.2.2.2.2.2.2.2.2.2.2.2.2.2.2.2.2.2.2.2.2.2.2.2.2.2.2.2.2.2.2.2.2.2.2.2.2.2.2.2.2.2.2.2.2.2.2.2.2.2.2.2.2.2.2.2.2.2.2.2.2.2.2.1 _ _ _ _ _ _ _ _ _ _ _ _ _ _ h h0 h1 h2 h3 h4 kk
theorem mv_new {P : List (Nat × mv_I)} {rt : Option FieldType} {Rn : Nat → List Value → mv_S → Option Value → mv_S → Prop} {nM sM : Nat} {r0 : Option Value} {S0 : mv_S} {V : Nat → mv_L → List Value → mv_S → Prop} (C : mv_Clo P rt Rn nM sM r0 S0 V) {pc nx a b : Nat} {v : Value} {ls : mv_L} {st : List Value} {S : mv_S} {n : Nat} (h : mv_at P pc = some (.new n, nx, a, b, v)) (h0 : S.1 + 1 ≤ nM) (h1 : S.2.1 + (mv_df a).length ≤ sM) (kk : V nx ls (.ref S.1 :: st) (S.1 + 1, S.2.1 + (mv_df a).length, va_up S.2.2 S.1 (.inr (a, mv_df a)))) : V pc ls st S := C.2.2.2.2.2.2.2.2.2.2.2.2.2.2.2.2.2.2.2.2.2.2.2.2.2.2.2.2.2.2.2.2.2.2.2.2.2.2.2.2.2.2.2.2.2.2.2.2.2.2.2.2.2.2.2.2.2.2.2.2.2.2.2.2.2.2.2.2.2.2.2.1 _ _ _ _ _ _ _ _ _ h h0 h1 kk
theorem mv_new_int {P : List (Nat × mv_I)} {rt : Option FieldType} {Rn : Nat → List Value → mv_S → Option Value → mv_S → Prop} {nM sM : Nat} {r0 : Option Value} {S0 : mv_S} {V : Nat → mv_L → List Value → mv_S → Prop} (C : mv_Clo P rt Rn nM sM r0 S0 V) {pc nx a b : Nat} {v : Value} {ls : mv_L} {st : List Value} {S : mv_S} {x : Nat} (h : mv_at P pc = some (.newarray .int, nx, a, b, v)) (h0 : x ≤ 65536) (h1 : S.1 + 1 ≤ nM) (h2 : S.2.1 + x ≤ sM) (kk : V nx ls (.ref S.1 :: st) (S.1 + 1, S.2.1 + x, va_up S.2.2 S.1 (.inl (0, x, .inl (fun _ => 0))))) : V pc ls (.int (nI x) :: st) S := C.2.2.2.2.2.2.2.2.2.2.2.2.2.2.2.2.2.2.2.2.2.2.2.2.2.2.2.2.2.2.2.2.2.2.2.2.2.2.2.2.2.2.2.2.2.2.2.2.2.2.2.2.2.2.2.2.2.2.2.2.2.2.2.2.2.2.2.2.2.2.2.2.1 _ _ _ _ _ _ _ _ _ h h0 h1 h2 kk
theorem mv_new_boolean {P : List (Nat × mv_I)} {rt : Option FieldType} {Rn : Nat → List Value → mv_S → Option Value → mv_S → Prop} {nM sM : Nat} {r0 : Option Value} {S0 : mv_S} {V : Nat → mv_L → List Value → mv_S → Prop} (C : mv_Clo P rt Rn nM sM r0 S0 V) {pc nx a b : Nat} {v : Value} {ls : mv_L} {st : List Value} {S : mv_S} {x : Nat} (h : mv_at P pc = some (.newarray .boolean, nx, a, b, v)) (h0 : x ≤ 65536) (h1 : S.1 + 1 ≤ nM) (h2 : S.2.1 + x ≤ sM) (kk : V nx ls (.ref S.1 :: st) (S.1 + 1, S.2.1 + x, va_up S.2.2 S.1 (.inl (1, x, .inl (fun _ => 0))))) : V pc ls (.int (nI x) :: st) S := C.2.2.2.2.2.2.2.2.2.2.2.2.2.2.2.2.2.2.2.2.2.2.2.2.2.2.2.2.2.2.2.2.2.2.2.2.2.2.2.2.2.2.2.2.2.2.2.2.2.2.2.2.2.2.2.2.2.2.2.2.2.2.2.2.2.2.2.2.2.2.2.2.2.1 _ _ _ _ _ _ _ _ _ h h0 h1 h2 kk
theorem mv_new_long {P : List (Nat × mv_I)} {rt : Option FieldType} {Rn : Nat → List Value → mv_S → Option Value → mv_S → Prop} {nM sM : Nat} {r0 : Option Value} {S0 : mv_S} {V : Nat → mv_L → List Value → mv_S → Prop} (C : mv_Clo P rt Rn nM sM r0 S0 V) {pc nx a b : Nat} {v : Value} {ls : mv_L} {st : List Value} {S : mv_S} {x : Nat} (h : mv_at P pc = some (.newarray .long, nx, a, b, v)) (h0 : x ≤ 65536) (h1 : S.1 + 1 ≤ nM) (h2 : S.2.1 + x ≤ sM) (kk : V nx ls (.ref S.1 :: st) (S.1 + 1, S.2.1 + x, va_up S.2.2 S.1 (.inl (2, x, .inr (.inl (fun _ => 0)))))) : V pc ls (.int (nI x) :: st) S := C.2.2.2.2.2.2.2.2.2.2.2.2.2.2.2.2.2.2.2.2.2.2.2.2.2.2.2.2.2.2.2.2.2.2.2.2.2.2.2.2.2.2.2.2.2.2.2.2.2.2.2.2.2.2.2.2.2.2.2.2.2.2.2.2.2.2.2.2.2.2.2.2.2.2.1 _ _ _ _ _ _ _ _ _ h h0 h1 h2 kk
theorem mv_anew {P : List (Nat × mv_I)} {rt : Option FieldType} {Rn : Nat → List Value → mv_S → Option Value → mv_S → Prop} {nM sM : Nat} {r0 : Option Value} {S0 : mv_S} {V : Nat → mv_L → List Value → mv_S → Prop} (C : mv_Clo P rt Rn nM sM r0 S0 V) {pc nx a b : Nat} {v : Value} {ls : mv_L} {st : List Value} {S : mv_S} {n : Nat} {x : Nat} (h : mv_at P pc = some (.anewarray n, nx, a, b, v)) (h0 : x ≤ 65536) (h1 : S.1 + 1 ≤ nM) (h2 : S.2.1 + x ≤ sM) (kk : V nx ls (.ref S.1 :: st) (S.1 + 1, S.2.1 + x, va_up S.2.2 S.1 (.inl (3, x, .inr (.inr (.inr (.inr (fun _ => none)))))))) : V pc ls (.int (nI x) :: st) S := C.2.2.2.2.2.2.2.2.2.2.2.2.2.2.2.2.2.2.2.2.2.2.2.2.2.2.2.2.2.2.2.2.2.2.2.2.2.2.2.2.2.2.2.2.2.2.2.2.2.2.2.2.2.2.2.2.2.2.2.2.2.2.2.2.2.2.2.2.2.2.2.2.2.2.2.1 _ _ _ _ _ _ _ _ _ _ h h0 h1 h2 kk
theorem mv_obj {P : List (Nat × mv_I)} {rt : Option FieldType} {Rn : Nat → List Value → mv_S → Option Value → mv_S → Prop} {nM sM : Nat} {r0 : Option Value} {S0 : mv_S} {V : Nat → mv_L → List Value → mv_S → Prop} (C : mv_Clo P rt Rn nM sM r0 S0 V) {pc nx a b : Nat} {v : Value} {ls : mv_L} {st : List Value} {S : mv_S} {n q : Nat} (h : mv_at P pc = some (.invokespecial n, nx, a, b, v)) (h0 : b = 999) (h1 : mv_wd st ≤ 8) (kk : V nx ls st S) : V pc ls (.ref q :: st) S := C.2.2.2.2.2.2.2.2.2.2.2.2.2.2.2.2.2.2.2.2.2.2.2.2.2.2.2.2.2.2.2.2.2.2.2.2.2.2.2.2.2.2.2.2.2.2.2.2.2.2.2.2.2.2.2.2.2.2.2.2.2.2.2.2.2.2.2.2.2.2.2.2.2.2.2.2.1 _ _ _ _ _ _ _ _ _ _ h h0 h1 kk
theorem mv_mmin {P : List (Nat × mv_I)} {rt : Option FieldType} {Rn : Nat → List Value → mv_S → Option Value → mv_S → Prop} {nM sM : Nat} {r0 : Option Value} {S0 : mv_S} {V : Nat → mv_L → List Value → mv_S → Prop} (C : mv_Clo P rt Rn nM sM r0 S0 V) {pc nx a b : Nat} {v : Value} {ls : mv_L} {st : List Value} {S : mv_S} {n : Nat} {x y : Int32} (h : mv_at P pc = some (.invokestatic n, nx, a, b, v)) (h0 : b = 901) (h1 : mv_wd st ≤ 8) (kk : V nx ls (.int (if y < x then y else x) :: st) S) : V pc ls (.int y :: .int x :: st) S := C.2.2.2.2.2.2.2.2.2.2.2.2.2.2.2.2.2.2.2.2.2.2.2.2.2.2.2.2.2.2.2.2.2.2.2.2.2.2.2.2.2.2.2.2.2.2.2.2.2.2.2.2.2.2.2.2.2.2.2.2.2.2.2.2.2.2.2.2.2.2.2.2.2.2.2.2.2.1 _ _ _ _ _ _ _ _ _ _ _ h h0 h1 kk
theorem mv_mmax {P : List (Nat × mv_I)} {rt : Option FieldType} {Rn : Nat → List Value → mv_S → Option Value → mv_S → Prop} {nM sM : Nat} {r0 : Option Value} {S0 : mv_S} {V : Nat → mv_L → List Value → mv_S → Prop} (C : mv_Clo P rt Rn nM sM r0 S0 V) {pc nx a b : Nat} {v : Value} {ls : mv_L} {st : List Value} {S : mv_S} {n : Nat} {x y : Int32} (h : mv_at P pc = some (.invokestatic n, nx, a, b, v)) (h0 : b = 902) (h1 : mv_wd st ≤ 8) (kk : V nx ls (.int (if x < y then y else x) :: st) S) : V pc ls (.int y :: .int x :: st) S := C.2.2.2.2.2.2.2.2.2.2.2.2.2.2.2.2.2.2.2.2.2.2.2.2.2.2.2.2.2.2.2.2.2.2.2.2.2.2.2.2.2.2.2.2.2.2.2.2.2.2.2.2.2.2.2.2.2.2.2.2.2.2.2.2.2.2.2.2.2.2.2.2.2.2.2.2.2.2.1 _ _ _ _ _ _ _ _ _ _ _ h h0 h1 kk
theorem mv_mabs {P : List (Nat × mv_I)} {rt : Option FieldType} {Rn : Nat → List Value → mv_S → Option Value → mv_S → Prop} {nM sM : Nat} {r0 : Option Value} {S0 : mv_S} {V : Nat → mv_L → List Value → mv_S → Prop} (C : mv_Clo P rt Rn nM sM r0 S0 V) {pc nx a b : Nat} {v : Value} {ls : mv_L} {st : List Value} {S : mv_S} {n : Nat} {x : Int32} (h : mv_at P pc = some (.invokestatic n, nx, a, b, v)) (h0 : b = 903) (h1 : mv_wd st ≤ 8) (kk : V nx ls (.int (if 0 ≤ x then x else 0 - x) :: st) S) : V pc ls (.int x :: st) S := C.2.2.2.2.2.2.2.2.2.2.2.2.2.2.2.2.2.2.2.2.2.2.2.2.2.2.2.2.2.2.2.2.2.2.2.2.2.2.2.2.2.2.2.2.2.2.2.2.2.2.2.2.2.2.2.2.2.2.2.2.2.2.2.2.2.2.2.2.2.2.2.2.2.2.2.2.2.2.2.1 _ _ _ _ _ _ _ _ _ _ h h0 h1 kk
theorem mv_ixof {P : List (Nat × mv_I)} {rt : Option FieldType} {Rn : Nat → List Value → mv_S → Option Value → mv_S → Prop} {nM sM : Nat} {r0 : Option Value} {S0 : mv_S} {V : Nat → mv_L → List Value → mv_S → Prop} (C : mv_Clo P rt Rn nM sM r0 S0 V) {pc nx a b : Nat} {v : Value} {ls : mv_L} {st : List Value} {S : mv_S} {n j : Nat} {x : Int32} (h : mv_at P pc = some (.invokevirtual n, nx, a, b, v)) (h0 : b = 904) (h1 : 1 ≤ j) (h2 : j < 6) (h3 : mv_wd st ≤ 8) (kk : V nx ls (.int (mv_ix j x) :: st) S) : V pc ls (.int x :: .ref (1000 + j) :: st) S := C.2.2.2.2.2.2.2.2.2.2.2.2.2.2.2.2.2.2.2.2.2.2.2.2.2.2.2.2.2.2.2.2.2.2.2.2.2.2.2.2.2.2.2.2.2.2.2.2.2.2.2.2.2.2.2.2.2.2.2.2.2.2.2.2.2.2.2.2.2.2.2.2.2.2.2.2.2.2.2.2.1 _ _ _ _ _ _ _ _ _ _ _ h h0 h1 h2 h3 kk
theorem mv_callV {P : List (Nat × mv_I)} {rt : Option FieldType} {Rn : Nat → List Value → mv_S → Option Value → mv_S → Prop} {nM sM : Nat} {r0 : Option Value} {S0 : mv_S} {V : Nat → mv_L → List Value → mv_S → Prop} (C : mv_Clo P rt Rn nM sM r0 S0 V) {pc nx a b : Nat} {v : Value} {ls : mv_L} {S : mv_S} {n : Nat} {as rest : List Value} {q : Nat} {ci : Nat} {fs : List Value} {r1 : Option Value} {S1 : mv_S} (h : mv_at P pc = some (.invokevirtual n, nx, a, b, v)) (h0 : b < 900) (h1 : (mv_m b).2.2.2.2.1 = as.length) (h2 : (mv_m b).2.2.2.2.2.1 = ci) (h3 : q < S.1) (h4 : S.2.2 q = .inr (ci, fs)) (h5 : mv_wd rest ≤ 8) (h6 : Rn b (.ref q :: as) S r1 S1) (h7 : S1.1 ≤ nM) (h8 : S1.2.1 ≤ sM) (h9 : S.1 ≤ S1.1) (h10 : S.2.1 ≤ S1.2.1) (kk : V nx ls (r1.toList ++ rest) S1) : V pc ls (as.reverse ++ .ref q :: rest) S := C.2.2.2.2.2.2.2.2.2.2.2.2.2.2.2.2.2.2.2.2.2.2.2.2.2.2.2.2.2.2.2.2.2.2.2.2.2.2.2.2.2.2.2.2.2.2.2.2.2.2.2.2.2.2.2.2.2.2.2.2.2.2.2.2.2.2.2.2.2.2.2.2.2.2.2.2.2.2.2.2.2.1 _ _ _ _ _ _ ([] : List Value) _ _ _ _ _ _ _ _ _ h h0 h1 h2 h3 h4 h5 h6 h7 h8 h9 h10 kk
theorem mv_callS {P : List (Nat × mv_I)} {rt : Option FieldType} {Rn : Nat → List Value → mv_S → Option Value → mv_S → Prop} {nM sM : Nat} {r0 : Option Value} {S0 : mv_S} {V : Nat → mv_L → List Value → mv_S → Prop} (C : mv_Clo P rt Rn nM sM r0 S0 V) {pc nx a b : Nat} {v : Value} {ls : mv_L} {S : mv_S} {n : Nat} {as rest : List Value} {r1 : Option Value} {S1 : mv_S} (h : mv_at P pc = some (.invokestatic n, nx, a, b, v)) (h0 : b < 900) (h1 : (mv_m b).2.2.2.2.1 = as.length) (h2 : mv_wd rest ≤ 8) (h3 : Rn b as S r1 S1) (h4 : S1.1 ≤ nM) (h5 : S1.2.1 ≤ sM) (h6 : S.1 ≤ S1.1) (h7 : S.2.1 ≤ S1.2.1) (kk : V nx ls (r1.toList ++ rest) S1) : V pc ls (as.reverse ++ rest) S := C.2.2.2.2.2.2.2.2.2.2.2.2.2.2.2.2.2.2.2.2.2.2.2.2.2.2.2.2.2.2.2.2.2.2.2.2.2.2.2.2.2.2.2.2.2.2.2.2.2.2.2.2.2.2.2.2.2.2.2.2.2.2.2.2.2.2.2.2.2.2.2.2.2.2.2.2.2.2.2.2.2.2.1 _ _ _ _ _ _ ([] : List Value) _ _ _ _ _ _ h h0 h1 h2 h3 h4 h5 h6 h7 kk
theorem mv_callI {P : List (Nat × mv_I)} {rt : Option FieldType} {Rn : Nat → List Value → mv_S → Option Value → mv_S → Prop} {nM sM : Nat} {r0 : Option Value} {S0 : mv_S} {V : Nat → mv_L → List Value → mv_S → Prop} (C : mv_Clo P rt Rn nM sM r0 S0 V) {pc nx a b : Nat} {v : Value} {ls : mv_L} {S : mv_S} {n : Nat} {as rest : List Value} {q : Nat} {r1 : Option Value} {S1 : mv_S} (h : mv_at P pc = some (.invokespecial n, nx, a, b, v)) (h0 : b < 900) (h1 : (mv_m b).2.2.2.2.1 = as.length) (h2 : mv_wd rest ≤ 8) (h3 : Rn b (.ref q :: as) S r1 S1) (h4 : S1.1 ≤ nM) (h5 : S1.2.1 ≤ sM) (h6 : S.1 ≤ S1.1) (h7 : S.2.1 ≤ S1.2.1) (kk : V nx ls (r1.toList ++ rest) S1) : V pc ls (as.reverse ++ .ref q :: rest) S := C.2.2.2.2.2.2.2.2.2.2.2.2.2.2.2.2.2.2.2.2.2.2.2.2.2.2.2.2.2.2.2.2.2.2.2.2.2.2.2.2.2.2.2.2.2.2.2.2.2.2.2.2.2.2.2.2.2.2.2.2.2.2.2.2.2.2.2.2.2.2.2.2.2.2.2.2.2.2.2.2.2.2.2.1 _ _ _ _ _ _ ([] : List Value) _ _ _ _ _ _ _ h h0 h1 h2 h3 h4 h5 h6 h7 kk
theorem mv_ireturn {P : List (Nat × mv_I)} {rt : Option FieldType} {Rn : Nat → List Value → mv_S → Option Value → mv_S → Prop} {nM sM : Nat} {r0 : Option Value} {S0 : mv_S} {V : Nat → mv_L → List Value → mv_S → Prop} (C : mv_Clo P rt Rn nM sM r0 S0 V) {pc nx a b : Nat} {v : Value} {ls : mv_L} {S : mv_S} {x : Int32} (h : mv_at P pc = some (.ireturn, nx, a, b, v)) (h0 : mv_rok rt x) (h1 : some (Value.int x) = r0) (h2 : S = S0) : V pc ls [.int x] S := C.2.2.2.2.2.2.2.2.2.2.2.2.2.2.2.2.2.2.2.2.2.2.2.2.2.2.2.2.2.2.2.2.2.2.2.2.2.2.2.2.2.2.2.2.2.2.2.2.2.2.2.2.2.2.2.2.2.2.2.2.2.2.2.2.2.2.2.2.2.2.2.2.2.2.2.2.2.2.2.2.2.2.2.2.1 _ _ _ _ _ _ ([] : List Value) _ _ h h0 h1 h2
theorem mv_lreturn {P : List (Nat × mv_I)} {rt : Option FieldType} {Rn : Nat → List Value → mv_S → Option Value → mv_S → Prop} {nM sM : Nat} {r0 : Option Value} {S0 : mv_S} {V : Nat → mv_L → List Value → mv_S → Prop} (C : mv_Clo P rt Rn nM sM r0 S0 V) {pc nx a b : Nat} {v : Value} {ls : mv_L} {S : mv_S} {x : Int64} (h : mv_at P pc = some (.lreturn, nx, a, b, v)) (h0 : rt = some .long) (h1 : some (Value.long x) = r0) (h2 : S = S0) : V pc ls [.long x] S := C.2.2.2.2.2.2.2.2.2.2.2.2.2.2.2.2.2.2.2.2.2.2.2.2.2.2.2.2.2.2.2.2.2.2.2.2.2.2.2.2.2.2.2.2.2.2.2.2.2.2.2.2.2.2.2.2.2.2.2.2.2.2.2.2.2.2.2.2.2.2.2.2.2.2.2.2.2.2.2.2.2.2.2.2.2.1 _ _ _ _ _ _ ([] : List Value) _ _ h h0 h1 h2
theorem mv_return_ {P : List (Nat × mv_I)} {rt : Option FieldType} {Rn : Nat → List Value → mv_S → Option Value → mv_S → Prop} {nM sM : Nat} {r0 : Option Value} {S0 : mv_S} {V : Nat → mv_L → List Value → mv_S → Prop} (C : mv_Clo P rt Rn nM sM r0 S0 V) {pc nx a b : Nat} {v : Value} {ls : mv_L} {S : mv_S}  (h : mv_at P pc = some (.return_, nx, a, b, v)) (h0 : rt = none) (h1 : (none : Option Value) = r0) (h2 : S = S0) : V pc ls [] S := C.2.2.2.2.2.2.2.2.2.2.2.2.2.2.2.2.2.2.2.2.2.2.2.2.2.2.2.2.2.2.2.2.2.2.2.2.2.2.2.2.2.2.2.2.2.2.2.2.2.2.2.2.2.2.2.2.2.2.2.2.2.2.2.2.2.2.2.2.2.2.2.2.2.2.2.2.2.2.2.2.2.2.2.2.2.2.1 _ _ _ _ _ _ ([] : List Value) _ h h0 h1 h2
theorem mv_forget {P : List (Nat × mv_I)} {rt : Option FieldType} {Rn : Nat → List Value → mv_S → Option Value → mv_S → Prop} {nM sM : Nat} {r0 : Option Value} {S0 : mv_S} {V : Nat → mv_L → List Value → mv_S → Prop} (C : mv_Clo P rt Rn nM sM r0 S0 V) {pc : Nat} {ls : mv_L} {st : List Value} {S : mv_S} (ls1 : mv_L) (h : mv_le ls1 ls) (kk : V pc ls1 st S) : V pc ls st S := C.2.2.2.2.2.2.2.2.2.2.2.2.2.2.2.2.2.2.2.2.2.2.2.2.2.2.2.2.2.2.2.2.2.2.2.2.2.2.2.2.2.2.2.2.2.2.2.2.2.2.2.2.2.2.2.2.2.2.2.2.2.2.2.2.2.2.2.2.2.2.2.2.2.2.2.2.2.2.2.2.2.2.2.2.2.2.2 _ _ _ _ _ h kk


/-- the runs of a method, d calls deep at most -/
def mv_Runs : Nat → Nat → List Value → mv_S → Option Value → mv_S → Prop
  | 0, _, _, _, _, _ => False
  | d + 1, y, as, S, r, S1 => (Nat.blt y 171 && (!Nat.beq y 104 && Nat.ble (mv_sl as).length (mv_m y).2.2.1)) = true ∧ ∀ V : Nat → mv_L → List Value → mv_S → Prop, mv_Clo (mv_m y).2.2.2.2.2.2.2 (mv_m y).2.2.2.1 (mv_Runs d) S1.1 S1.2.1 r S1 V → V 0 (mv_ent (mv_m y).2.2.1 as) [] S

theorem mv_start {d y : Nat} {as : List Value} {S S1 : mv_S} {r : Option Value} (P : List (Nat × mv_I)) (rt : Option FieldType) (ls : mv_L) (hP : (mv_m y).2.2.2.2.2.2.2 = P) (ht : (mv_m y).2.2.2.1 = rt) (hl : mv_ent (mv_m y).2.2.1 as = ls) (ho : (Nat.blt y 171 && (!Nat.beq y 104 && Nat.ble (mv_sl as).length (mv_m y).2.2.1)) = true)
    (k : ∀ V : Nat → mv_L → List Value → mv_S → Prop, mv_Clo P rt (mv_Runs d) S1.1 S1.2.1 r S1 V → V 0 ls [] S) : mv_Runs (d + 1) y as S r S1 := by
  subst hP; subst ht; subst hl
  exact ⟨ho, k⟩
theorem mv_is_n0 {P : List (Nat × mv_I)} {rt : Option FieldType} {Rn : Nat → List Value → mv_S → Option Value → mv_S → Prop} {nM sM : Nat} {r0 : Option Value} {S0 : mv_S} {V : Nat → mv_L → List Value → mv_S → Prop} (C : mv_Clo P rt Rn nM sM r0 S0 V) {pc nx a b : Nat} {v : Value} {y : Option Value} {r : mv_L} {st : List Value} {S : mv_S} {x : Int32} (h : mv_at P pc = some (.istore_n 0, nx, a, b, v))  (kk : V nx (some (.int x) :: r) st S) : V pc (y :: r) (.int x :: st) S := mv_istore_n C h (by simp [mv_pre]) kk
theorem mv_is_n1 {P : List (Nat × mv_I)} {rt : Option FieldType} {Rn : Nat → List Value → mv_S → Option Value → mv_S → Prop} {nM sM : Nat} {r0 : Option Value} {S0 : mv_S} {V : Nat → mv_L → List Value → mv_S → Prop} (C : mv_Clo P rt Rn nM sM r0 S0 V) {pc nx a b : Nat} {v : Value} {x0 y : Option Value} {r : mv_L} {st : List Value} {S : mv_S} {x : Int32} (h : mv_at P pc = some (.istore_n 1, nx, a, b, v)) (hq : mv_isL x0 = false) (kk : V nx (x0 :: some (.int x) :: r) st S) : V pc (x0 :: y :: r) (.int x :: st) S := mv_istore_n C h (by simp [mv_pre, hq]) kk
theorem mv_is_n2 {P : List (Nat × mv_I)} {rt : Option FieldType} {Rn : Nat → List Value → mv_S → Option Value → mv_S → Prop} {nM sM : Nat} {r0 : Option Value} {S0 : mv_S} {V : Nat → mv_L → List Value → mv_S → Prop} (C : mv_Clo P rt Rn nM sM r0 S0 V) {pc nx a b : Nat} {v : Value} {x0 x1 y : Option Value} {r : mv_L} {st : List Value} {S : mv_S} {x : Int32} (h : mv_at P pc = some (.istore_n 2, nx, a, b, v)) (hq : mv_isL x1 = false) (kk : V nx (x0 :: x1 :: some (.int x) :: r) st S) : V pc (x0 :: x1 :: y :: r) (.int x :: st) S := mv_istore_n C h (by simp [mv_pre, hq]) kk
theorem mv_is_n3 {P : List (Nat × mv_I)} {rt : Option FieldType} {Rn : Nat → List Value → mv_S → Option Value → mv_S → Prop} {nM sM : Nat} {r0 : Option Value} {S0 : mv_S} {V : Nat → mv_L → List Value → mv_S → Prop} (C : mv_Clo P rt Rn nM sM r0 S0 V) {pc nx a b : Nat} {v : Value} {x0 x1 x2 y : Option Value} {r : mv_L} {st : List Value} {S : mv_S} {x : Int32} (h : mv_at P pc = some (.istore_n 3, nx, a, b, v)) (hq : mv_isL x2 = false) (kk : V nx (x0 :: x1 :: x2 :: some (.int x) :: r) st S) : V pc (x0 :: x1 :: x2 :: y :: r) (.int x :: st) S := mv_istore_n C h (by simp [mv_pre, hq]) kk
theorem mv_is0 {P : List (Nat × mv_I)} {rt : Option FieldType} {Rn : Nat → List Value → mv_S → Option Value → mv_S → Prop} {nM sM : Nat} {r0 : Option Value} {S0 : mv_S} {V : Nat → mv_L → List Value → mv_S → Prop} (C : mv_Clo P rt Rn nM sM r0 S0 V) {pc nx a b : Nat} {v : Value} {y : Option Value} {r : mv_L} {st : List Value} {S : mv_S} {x : Int32} (h : mv_at P pc = some (.istore 0, nx, a, b, v))  (kk : V nx (some (.int x) :: r) st S) : V pc (y :: r) (.int x :: st) S := mv_istore C h (by simp [mv_pre]) kk
theorem mv_is1 {P : List (Nat × mv_I)} {rt : Option FieldType} {Rn : Nat → List Value → mv_S → Option Value → mv_S → Prop} {nM sM : Nat} {r0 : Option Value} {S0 : mv_S} {V : Nat → mv_L → List Value → mv_S → Prop} (C : mv_Clo P rt Rn nM sM r0 S0 V) {pc nx a b : Nat} {v : Value} {x0 y : Option Value} {r : mv_L} {st : List Value} {S : mv_S} {x : Int32} (h : mv_at P pc = some (.istore 1, nx, a, b, v)) (hq : mv_isL x0 = false) (kk : V nx (x0 :: some (.int x) :: r) st S) : V pc (x0 :: y :: r) (.int x :: st) S := mv_istore C h (by simp [mv_pre, hq]) kk
theorem mv_is2 {P : List (Nat × mv_I)} {rt : Option FieldType} {Rn : Nat → List Value → mv_S → Option Value → mv_S → Prop} {nM sM : Nat} {r0 : Option Value} {S0 : mv_S} {V : Nat → mv_L → List Value → mv_S → Prop} (C : mv_Clo P rt Rn nM sM r0 S0 V) {pc nx a b : Nat} {v : Value} {x0 x1 y : Option Value} {r : mv_L} {st : List Value} {S : mv_S} {x : Int32} (h : mv_at P pc = some (.istore 2, nx, a, b, v)) (hq : mv_isL x1 = false) (kk : V nx (x0 :: x1 :: some (.int x) :: r) st S) : V pc (x0 :: x1 :: y :: r) (.int x :: st) S := mv_istore C h (by simp [mv_pre, hq]) kk
theorem mv_is3 {P : List (Nat × mv_I)} {rt : Option FieldType} {Rn : Nat → List Value → mv_S → Option Value → mv_S → Prop} {nM sM : Nat} {r0 : Option Value} {S0 : mv_S} {V : Nat → mv_L → List Value → mv_S → Prop} (C : mv_Clo P rt Rn nM sM r0 S0 V) {pc nx a b : Nat} {v : Value} {x0 x1 x2 y : Option Value} {r : mv_L} {st : List Value} {S : mv_S} {x : Int32} (h : mv_at P pc = some (.istore 3, nx, a, b, v)) (hq : mv_isL x2 = false) (kk : V nx (x0 :: x1 :: x2 :: some (.int x) :: r) st S) : V pc (x0 :: x1 :: x2 :: y :: r) (.int x :: st) S := mv_istore C h (by simp [mv_pre, hq]) kk
theorem mv_is4 {P : List (Nat × mv_I)} {rt : Option FieldType} {Rn : Nat → List Value → mv_S → Option Value → mv_S → Prop} {nM sM : Nat} {r0 : Option Value} {S0 : mv_S} {V : Nat → mv_L → List Value → mv_S → Prop} (C : mv_Clo P rt Rn nM sM r0 S0 V) {pc nx a b : Nat} {v : Value} {x0 x1 x2 x3 y : Option Value} {r : mv_L} {st : List Value} {S : mv_S} {x : Int32} (h : mv_at P pc = some (.istore 4, nx, a, b, v)) (hq : mv_isL x3 = false) (kk : V nx (x0 :: x1 :: x2 :: x3 :: some (.int x) :: r) st S) : V pc (x0 :: x1 :: x2 :: x3 :: y :: r) (.int x :: st) S := mv_istore C h (by simp [mv_pre, hq]) kk
theorem mv_is5 {P : List (Nat × mv_I)} {rt : Option FieldType} {Rn : Nat → List Value → mv_S → Option Value → mv_S → Prop} {nM sM : Nat} {r0 : Option Value} {S0 : mv_S} {V : Nat → mv_L → List Value → mv_S → Prop} (C : mv_Clo P rt Rn nM sM r0 S0 V) {pc nx a b : Nat} {v : Value} {x0 x1 x2 x3 x4 y : Option Value} {r : mv_L} {st : List Value} {S : mv_S} {x : Int32} (h : mv_at P pc = some (.istore 5, nx, a, b, v)) (hq : mv_isL x4 = false) (kk : V nx (x0 :: x1 :: x2 :: x3 :: x4 :: some (.int x) :: r) st S) : V pc (x0 :: x1 :: x2 :: x3 :: x4 :: y :: r) (.int x :: st) S := mv_istore C h (by simp [mv_pre, hq]) kk
theorem mv_is6 {P : List (Nat × mv_I)} {rt : Option FieldType} {Rn : Nat → List Value → mv_S → Option Value → mv_S → Prop} {nM sM : Nat} {r0 : Option Value} {S0 : mv_S} {V : Nat → mv_L → List Value → mv_S → Prop} (C : mv_Clo P rt Rn nM sM r0 S0 V) {pc nx a b : Nat} {v : Value} {x0 x1 x2 x3 x4 x5 y : Option Value} {r : mv_L} {st : List Value} {S : mv_S} {x : Int32} (h : mv_at P pc = some (.istore 6, nx, a, b, v)) (hq : mv_isL x5 = false) (kk : V nx (x0 :: x1 :: x2 :: x3 :: x4 :: x5 :: some (.int x) :: r) st S) : V pc (x0 :: x1 :: x2 :: x3 :: x4 :: x5 :: y :: r) (.int x :: st) S := mv_istore C h (by simp [mv_pre, hq]) kk
theorem mv_is7 {P : List (Nat × mv_I)} {rt : Option FieldType} {Rn : Nat → List Value → mv_S → Option Value → mv_S → Prop} {nM sM : Nat} {r0 : Option Value} {S0 : mv_S} {V : Nat → mv_L → List Value → mv_S → Prop} (C : mv_Clo P rt Rn nM sM r0 S0 V) {pc nx a b : Nat} {v : Value} {x0 x1 x2 x3 x4 x5 x6 y : Option Value} {r : mv_L} {st : List Value} {S : mv_S} {x : Int32} (h : mv_at P pc = some (.istore 7, nx, a, b, v)) (hq : mv_isL x6 = false) (kk : V nx (x0 :: x1 :: x2 :: x3 :: x4 :: x5 :: x6 :: some (.int x) :: r) st S) : V pc (x0 :: x1 :: x2 :: x3 :: x4 :: x5 :: x6 :: y :: r) (.int x :: st) S := mv_istore C h (by simp [mv_pre, hq]) kk
theorem mv_is8 {P : List (Nat × mv_I)} {rt : Option FieldType} {Rn : Nat → List Value → mv_S → Option Value → mv_S → Prop} {nM sM : Nat} {r0 : Option Value} {S0 : mv_S} {V : Nat → mv_L → List Value → mv_S → Prop} (C : mv_Clo P rt Rn nM sM r0 S0 V) {pc nx a b : Nat} {v : Value} {x0 x1 x2 x3 x4 x5 x6 x7 y : Option Value} {r : mv_L} {st : List Value} {S : mv_S} {x : Int32} (h : mv_at P pc = some (.istore 8, nx, a, b, v)) (hq : mv_isL x7 = false) (kk : V nx (x0 :: x1 :: x2 :: x3 :: x4 :: x5 :: x6 :: x7 :: some (.int x) :: r) st S) : V pc (x0 :: x1 :: x2 :: x3 :: x4 :: x5 :: x6 :: x7 :: y :: r) (.int x :: st) S := mv_istore C h (by simp [mv_pre, hq]) kk
theorem mv_is9 {P : List (Nat × mv_I)} {rt : Option FieldType} {Rn : Nat → List Value → mv_S → Option Value → mv_S → Prop} {nM sM : Nat} {r0 : Option Value} {S0 : mv_S} {V : Nat → mv_L → List Value → mv_S → Prop} (C : mv_Clo P rt Rn nM sM r0 S0 V) {pc nx a b : Nat} {v : Value} {x0 x1 x2 x3 x4 x5 x6 x7 x8 y : Option Value} {r : mv_L} {st : List Value} {S : mv_S} {x : Int32} (h : mv_at P pc = some (.istore 9, nx, a, b, v)) (hq : mv_isL x8 = false) (kk : V nx (x0 :: x1 :: x2 :: x3 :: x4 :: x5 :: x6 :: x7 :: x8 :: some (.int x) :: r) st S) : V pc (x0 :: x1 :: x2 :: x3 :: x4 :: x5 :: x6 :: x7 :: x8 :: y :: r) (.int x :: st) S := mv_istore C h (by simp [mv_pre, hq]) kk
theorem mv_as_n0 {P : List (Nat × mv_I)} {rt : Option FieldType} {Rn : Nat → List Value → mv_S → Option Value → mv_S → Prop} {nM sM : Nat} {r0 : Option Value} {S0 : mv_S} {V : Nat → mv_L → List Value → mv_S → Prop} (C : mv_Clo P rt Rn nM sM r0 S0 V) {pc nx a b : Nat} {v : Value} {y : Option Value} {r : mv_L} {st : List Value} {S : mv_S} {x : Nat} (h : mv_at P pc = some (.astore_n 0, nx, a, b, v))  (kk : V nx (some (.ref x) :: r) st S) : V pc (y :: r) (.ref x :: st) S := mv_astore_n C h (by simp [mv_pre]) kk
theorem mv_as_n1 {P : List (Nat × mv_I)} {rt : Option FieldType} {Rn : Nat → List Value → mv_S → Option Value → mv_S → Prop} {nM sM : Nat} {r0 : Option Value} {S0 : mv_S} {V : Nat → mv_L → List Value → mv_S → Prop} (C : mv_Clo P rt Rn nM sM r0 S0 V) {pc nx a b : Nat} {v : Value} {x0 y : Option Value} {r : mv_L} {st : List Value} {S : mv_S} {x : Nat} (h : mv_at P pc = some (.astore_n 1, nx, a, b, v)) (hq : mv_isL x0 = false) (kk : V nx (x0 :: some (.ref x) :: r) st S) : V pc (x0 :: y :: r) (.ref x :: st) S := mv_astore_n C h (by simp [mv_pre, hq]) kk
theorem mv_as_n2 {P : List (Nat × mv_I)} {rt : Option FieldType} {Rn : Nat → List Value → mv_S → Option Value → mv_S → Prop} {nM sM : Nat} {r0 : Option Value} {S0 : mv_S} {V : Nat → mv_L → List Value → mv_S → Prop} (C : mv_Clo P rt Rn nM sM r0 S0 V) {pc nx a b : Nat} {v : Value} {x0 x1 y : Option Value} {r : mv_L} {st : List Value} {S : mv_S} {x : Nat} (h : mv_at P pc = some (.astore_n 2, nx, a, b, v)) (hq : mv_isL x1 = false) (kk : V nx (x0 :: x1 :: some (.ref x) :: r) st S) : V pc (x0 :: x1 :: y :: r) (.ref x :: st) S := mv_astore_n C h (by simp [mv_pre, hq]) kk
theorem mv_as_n3 {P : List (Nat × mv_I)} {rt : Option FieldType} {Rn : Nat → List Value → mv_S → Option Value → mv_S → Prop} {nM sM : Nat} {r0 : Option Value} {S0 : mv_S} {V : Nat → mv_L → List Value → mv_S → Prop} (C : mv_Clo P rt Rn nM sM r0 S0 V) {pc nx a b : Nat} {v : Value} {x0 x1 x2 y : Option Value} {r : mv_L} {st : List Value} {S : mv_S} {x : Nat} (h : mv_at P pc = some (.astore_n 3, nx, a, b, v)) (hq : mv_isL x2 = false) (kk : V nx (x0 :: x1 :: x2 :: some (.ref x) :: r) st S) : V pc (x0 :: x1 :: x2 :: y :: r) (.ref x :: st) S := mv_astore_n C h (by simp [mv_pre, hq]) kk
theorem mv_ls_n0 {P : List (Nat × mv_I)} {rt : Option FieldType} {Rn : Nat → List Value → mv_S → Option Value → mv_S → Prop} {nM sM : Nat} {r0 : Option Value} {S0 : mv_S} {V : Nat → mv_L → List Value → mv_S → Prop} (C : mv_Clo P rt Rn nM sM r0 S0 V) {pc nx a b : Nat} {v : Value} {y z : Option Value} {r : mv_L} {st : List Value} {S : mv_S} {x : Int64} (h : mv_at P pc = some (.lstore_n 0, nx, a, b, v))  (kk : V nx (some (.long x) :: none :: r) st S) : V pc (y :: z :: r) (.long x :: st) S := mv_lstore_n C h (by simp [mv_pre]) (by show 0 + 1 < _; simp only [List.length_cons]; omega) kk
theorem mv_ls_n1 {P : List (Nat × mv_I)} {rt : Option FieldType} {Rn : Nat → List Value → mv_S → Option Value → mv_S → Prop} {nM sM : Nat} {r0 : Option Value} {S0 : mv_S} {V : Nat → mv_L → List Value → mv_S → Prop} (C : mv_Clo P rt Rn nM sM r0 S0 V) {pc nx a b : Nat} {v : Value} {x0 y z : Option Value} {r : mv_L} {st : List Value} {S : mv_S} {x : Int64} (h : mv_at P pc = some (.lstore_n 1, nx, a, b, v)) (hq : mv_isL x0 = false) (kk : V nx (x0 :: some (.long x) :: none :: r) st S) : V pc (x0 :: y :: z :: r) (.long x :: st) S := mv_lstore_n C h (by simp [mv_pre, hq]) (by show 1 + 1 < _; simp only [List.length_cons]; omega) kk
theorem mv_ls_n2 {P : List (Nat × mv_I)} {rt : Option FieldType} {Rn : Nat → List Value → mv_S → Option Value → mv_S → Prop} {nM sM : Nat} {r0 : Option Value} {S0 : mv_S} {V : Nat → mv_L → List Value → mv_S → Prop} (C : mv_Clo P rt Rn nM sM r0 S0 V) {pc nx a b : Nat} {v : Value} {x0 x1 y z : Option Value} {r : mv_L} {st : List Value} {S : mv_S} {x : Int64} (h : mv_at P pc = some (.lstore_n 2, nx, a, b, v)) (hq : mv_isL x1 = false) (kk : V nx (x0 :: x1 :: some (.long x) :: none :: r) st S) : V pc (x0 :: x1 :: y :: z :: r) (.long x :: st) S := mv_lstore_n C h (by simp [mv_pre, hq]) (by show 2 + 1 < _; simp only [List.length_cons]; omega) kk
theorem mv_ls_n3 {P : List (Nat × mv_I)} {rt : Option FieldType} {Rn : Nat → List Value → mv_S → Option Value → mv_S → Prop} {nM sM : Nat} {r0 : Option Value} {S0 : mv_S} {V : Nat → mv_L → List Value → mv_S → Prop} (C : mv_Clo P rt Rn nM sM r0 S0 V) {pc nx a b : Nat} {v : Value} {x0 x1 x2 y z : Option Value} {r : mv_L} {st : List Value} {S : mv_S} {x : Int64} (h : mv_at P pc = some (.lstore_n 3, nx, a, b, v)) (hq : mv_isL x2 = false) (kk : V nx (x0 :: x1 :: x2 :: some (.long x) :: none :: r) st S) : V pc (x0 :: x1 :: x2 :: y :: z :: r) (.long x :: st) S := mv_lstore_n C h (by simp [mv_pre, hq]) (by show 3 + 1 < _; simp only [List.length_cons]; omega) kk
theorem mv_ls0 {P : List (Nat × mv_I)} {rt : Option FieldType} {Rn : Nat → List Value → mv_S → Option Value → mv_S → Prop} {nM sM : Nat} {r0 : Option Value} {S0 : mv_S} {V : Nat → mv_L → List Value → mv_S → Prop} (C : mv_Clo P rt Rn nM sM r0 S0 V) {pc nx a b : Nat} {v : Value} {y z : Option Value} {r : mv_L} {st : List Value} {S : mv_S} {x : Int64} (h : mv_at P pc = some (.lstore 0, nx, a, b, v))  (kk : V nx (some (.long x) :: none :: r) st S) : V pc (y :: z :: r) (.long x :: st) S := mv_lstore C h (by simp [mv_pre]) (by show 0 + 1 < _; simp only [List.length_cons]; omega) kk
theorem mv_ls1 {P : List (Nat × mv_I)} {rt : Option FieldType} {Rn : Nat → List Value → mv_S → Option Value → mv_S → Prop} {nM sM : Nat} {r0 : Option Value} {S0 : mv_S} {V : Nat → mv_L → List Value → mv_S → Prop} (C : mv_Clo P rt Rn nM sM r0 S0 V) {pc nx a b : Nat} {v : Value} {x0 y z : Option Value} {r : mv_L} {st : List Value} {S : mv_S} {x : Int64} (h : mv_at P pc = some (.lstore 1, nx, a, b, v)) (hq : mv_isL x0 = false) (kk : V nx (x0 :: some (.long x) :: none :: r) st S) : V pc (x0 :: y :: z :: r) (.long x :: st) S := mv_lstore C h (by simp [mv_pre, hq]) (by show 1 + 1 < _; simp only [List.length_cons]; omega) kk
theorem mv_ls2 {P : List (Nat × mv_I)} {rt : Option FieldType} {Rn : Nat → List Value → mv_S → Option Value → mv_S → Prop} {nM sM : Nat} {r0 : Option Value} {S0 : mv_S} {V : Nat → mv_L → List Value → mv_S → Prop} (C : mv_Clo P rt Rn nM sM r0 S0 V) {pc nx a b : Nat} {v : Value} {x0 x1 y z : Option Value} {r : mv_L} {st : List Value} {S : mv_S} {x : Int64} (h : mv_at P pc = some (.lstore 2, nx, a, b, v)) (hq : mv_isL x1 = false) (kk : V nx (x0 :: x1 :: some (.long x) :: none :: r) st S) : V pc (x0 :: x1 :: y :: z :: r) (.long x :: st) S := mv_lstore C h (by simp [mv_pre, hq]) (by show 2 + 1 < _; simp only [List.length_cons]; omega) kk
theorem mv_ls3 {P : List (Nat × mv_I)} {rt : Option FieldType} {Rn : Nat → List Value → mv_S → Option Value → mv_S → Prop} {nM sM : Nat} {r0 : Option Value} {S0 : mv_S} {V : Nat → mv_L → List Value → mv_S → Prop} (C : mv_Clo P rt Rn nM sM r0 S0 V) {pc nx a b : Nat} {v : Value} {x0 x1 x2 y z : Option Value} {r : mv_L} {st : List Value} {S : mv_S} {x : Int64} (h : mv_at P pc = some (.lstore 3, nx, a, b, v)) (hq : mv_isL x2 = false) (kk : V nx (x0 :: x1 :: x2 :: some (.long x) :: none :: r) st S) : V pc (x0 :: x1 :: x2 :: y :: z :: r) (.long x :: st) S := mv_lstore C h (by simp [mv_pre, hq]) (by show 3 + 1 < _; simp only [List.length_cons]; omega) kk
theorem mv_ls4 {P : List (Nat × mv_I)} {rt : Option FieldType} {Rn : Nat → List Value → mv_S → Option Value → mv_S → Prop} {nM sM : Nat} {r0 : Option Value} {S0 : mv_S} {V : Nat → mv_L → List Value → mv_S → Prop} (C : mv_Clo P rt Rn nM sM r0 S0 V) {pc nx a b : Nat} {v : Value} {x0 x1 x2 x3 y z : Option Value} {r : mv_L} {st : List Value} {S : mv_S} {x : Int64} (h : mv_at P pc = some (.lstore 4, nx, a, b, v)) (hq : mv_isL x3 = false) (kk : V nx (x0 :: x1 :: x2 :: x3 :: some (.long x) :: none :: r) st S) : V pc (x0 :: x1 :: x2 :: x3 :: y :: z :: r) (.long x :: st) S := mv_lstore C h (by simp [mv_pre, hq]) (by show 4 + 1 < _; simp only [List.length_cons]; omega) kk
theorem mv_ls5 {P : List (Nat × mv_I)} {rt : Option FieldType} {Rn : Nat → List Value → mv_S → Option Value → mv_S → Prop} {nM sM : Nat} {r0 : Option Value} {S0 : mv_S} {V : Nat → mv_L → List Value → mv_S → Prop} (C : mv_Clo P rt Rn nM sM r0 S0 V) {pc nx a b : Nat} {v : Value} {x0 x1 x2 x3 x4 y z : Option Value} {r : mv_L} {st : List Value} {S : mv_S} {x : Int64} (h : mv_at P pc = some (.lstore 5, nx, a, b, v)) (hq : mv_isL x4 = false) (kk : V nx (x0 :: x1 :: x2 :: x3 :: x4 :: some (.long x) :: none :: r) st S) : V pc (x0 :: x1 :: x2 :: x3 :: x4 :: y :: z :: r) (.long x :: st) S := mv_lstore C h (by simp [mv_pre, hq]) (by show 5 + 1 < _; simp only [List.length_cons]; omega) kk
theorem mv_ls6 {P : List (Nat × mv_I)} {rt : Option FieldType} {Rn : Nat → List Value → mv_S → Option Value → mv_S → Prop} {nM sM : Nat} {r0 : Option Value} {S0 : mv_S} {V : Nat → mv_L → List Value → mv_S → Prop} (C : mv_Clo P rt Rn nM sM r0 S0 V) {pc nx a b : Nat} {v : Value} {x0 x1 x2 x3 x4 x5 y z : Option Value} {r : mv_L} {st : List Value} {S : mv_S} {x : Int64} (h : mv_at P pc = some (.lstore 6, nx, a, b, v)) (hq : mv_isL x5 = false) (kk : V nx (x0 :: x1 :: x2 :: x3 :: x4 :: x5 :: some (.long x) :: none :: r) st S) : V pc (x0 :: x1 :: x2 :: x3 :: x4 :: x5 :: y :: z :: r) (.long x :: st) S := mv_lstore C h (by simp [mv_pre, hq]) (by show 6 + 1 < _; simp only [List.length_cons]; omega) kk
theorem mv_ls7 {P : List (Nat × mv_I)} {rt : Option FieldType} {Rn : Nat → List Value → mv_S → Option Value → mv_S → Prop} {nM sM : Nat} {r0 : Option Value} {S0 : mv_S} {V : Nat → mv_L → List Value → mv_S → Prop} (C : mv_Clo P rt Rn nM sM r0 S0 V) {pc nx a b : Nat} {v : Value} {x0 x1 x2 x3 x4 x5 x6 y z : Option Value} {r : mv_L} {st : List Value} {S : mv_S} {x : Int64} (h : mv_at P pc = some (.lstore 7, nx, a, b, v)) (hq : mv_isL x6 = false) (kk : V nx (x0 :: x1 :: x2 :: x3 :: x4 :: x5 :: x6 :: some (.long x) :: none :: r) st S) : V pc (x0 :: x1 :: x2 :: x3 :: x4 :: x5 :: x6 :: y :: z :: r) (.long x :: st) S := mv_lstore C h (by simp [mv_pre, hq]) (by show 7 + 1 < _; simp only [List.length_cons]; omega) kk
theorem mv_inc0 {P : List (Nat × mv_I)} {rt : Option FieldType} {Rn : Nat → List Value → mv_S → Option Value → mv_S → Prop} {nM sM : Nat} {r0 : Option Value} {S0 : mv_S} {V : Nat → mv_L → List Value → mv_S → Prop} (C : mv_Clo P rt Rn nM sM r0 S0 V) {pc nx a b : Nat} {n : Int}  {r : mv_L} {st : List Value} {S : mv_S} {x y : Int32} (h : mv_at P pc = some (.iinc 0 n, nx, a, b, .int y))  (kk : V nx (some (.int (x + y)) :: r) st S) : V pc (some (.int x) :: r) st S := mv_iinc C h rfl (by simp [mv_pre]) kk
theorem mv_inc1 {P : List (Nat × mv_I)} {rt : Option FieldType} {Rn : Nat → List Value → mv_S → Option Value → mv_S → Prop} {nM sM : Nat} {r0 : Option Value} {S0 : mv_S} {V : Nat → mv_L → List Value → mv_S → Prop} (C : mv_Clo P rt Rn nM sM r0 S0 V) {pc nx a b : Nat} {n : Int} {x0 : Option Value} {r : mv_L} {st : List Value} {S : mv_S} {x y : Int32} (h : mv_at P pc = some (.iinc 1 n, nx, a, b, .int y)) (hq : mv_isL x0 = false) (kk : V nx (x0 :: some (.int (x + y)) :: r) st S) : V pc (x0 :: some (.int x) :: r) st S := mv_iinc C h rfl (by simp [mv_pre, hq]) kk
theorem mv_inc2 {P : List (Nat × mv_I)} {rt : Option FieldType} {Rn : Nat → List Value → mv_S → Option Value → mv_S → Prop} {nM sM : Nat} {r0 : Option Value} {S0 : mv_S} {V : Nat → mv_L → List Value → mv_S → Prop} (C : mv_Clo P rt Rn nM sM r0 S0 V) {pc nx a b : Nat} {n : Int} {x0 x1 : Option Value} {r : mv_L} {st : List Value} {S : mv_S} {x y : Int32} (h : mv_at P pc = some (.iinc 2 n, nx, a, b, .int y)) (hq : mv_isL x1 = false) (kk : V nx (x0 :: x1 :: some (.int (x + y)) :: r) st S) : V pc (x0 :: x1 :: some (.int x) :: r) st S := mv_iinc C h rfl (by simp [mv_pre, hq]) kk
theorem mv_inc3 {P : List (Nat × mv_I)} {rt : Option FieldType} {Rn : Nat → List Value → mv_S → Option Value → mv_S → Prop} {nM sM : Nat} {r0 : Option Value} {S0 : mv_S} {V : Nat → mv_L → List Value → mv_S → Prop} (C : mv_Clo P rt Rn nM sM r0 S0 V) {pc nx a b : Nat} {n : Int} {x0 x1 x2 : Option Value} {r : mv_L} {st : List Value} {S : mv_S} {x y : Int32} (h : mv_at P pc = some (.iinc 3 n, nx, a, b, .int y)) (hq : mv_isL x2 = false) (kk : V nx (x0 :: x1 :: x2 :: some (.int (x + y)) :: r) st S) : V pc (x0 :: x1 :: x2 :: some (.int x) :: r) st S := mv_iinc C h rfl (by simp [mv_pre, hq]) kk
theorem mv_inc4 {P : List (Nat × mv_I)} {rt : Option FieldType} {Rn : Nat → List Value → mv_S → Option Value → mv_S → Prop} {nM sM : Nat} {r0 : Option Value} {S0 : mv_S} {V : Nat → mv_L → List Value → mv_S → Prop} (C : mv_Clo P rt Rn nM sM r0 S0 V) {pc nx a b : Nat} {n : Int} {x0 x1 x2 x3 : Option Value} {r : mv_L} {st : List Value} {S : mv_S} {x y : Int32} (h : mv_at P pc = some (.iinc 4 n, nx, a, b, .int y)) (hq : mv_isL x3 = false) (kk : V nx (x0 :: x1 :: x2 :: x3 :: some (.int (x + y)) :: r) st S) : V pc (x0 :: x1 :: x2 :: x3 :: some (.int x) :: r) st S := mv_iinc C h rfl (by simp [mv_pre, hq]) kk
theorem mv_inc5 {P : List (Nat × mv_I)} {rt : Option FieldType} {Rn : Nat → List Value → mv_S → Option Value → mv_S → Prop} {nM sM : Nat} {r0 : Option Value} {S0 : mv_S} {V : Nat → mv_L → List Value → mv_S → Prop} (C : mv_Clo P rt Rn nM sM r0 S0 V) {pc nx a b : Nat} {n : Int} {x0 x1 x2 x3 x4 : Option Value} {r : mv_L} {st : List Value} {S : mv_S} {x y : Int32} (h : mv_at P pc = some (.iinc 5 n, nx, a, b, .int y)) (hq : mv_isL x4 = false) (kk : V nx (x0 :: x1 :: x2 :: x3 :: x4 :: some (.int (x + y)) :: r) st S) : V pc (x0 :: x1 :: x2 :: x3 :: x4 :: some (.int x) :: r) st S := mv_iinc C h rfl (by simp [mv_pre, hq]) kk
theorem mv_inc6 {P : List (Nat × mv_I)} {rt : Option FieldType} {Rn : Nat → List Value → mv_S → Option Value → mv_S → Prop} {nM sM : Nat} {r0 : Option Value} {S0 : mv_S} {V : Nat → mv_L → List Value → mv_S → Prop} (C : mv_Clo P rt Rn nM sM r0 S0 V) {pc nx a b : Nat} {n : Int} {x0 x1 x2 x3 x4 x5 : Option Value} {r : mv_L} {st : List Value} {S : mv_S} {x y : Int32} (h : mv_at P pc = some (.iinc 6 n, nx, a, b, .int y)) (hq : mv_isL x5 = false) (kk : V nx (x0 :: x1 :: x2 :: x3 :: x4 :: x5 :: some (.int (x + y)) :: r) st S) : V pc (x0 :: x1 :: x2 :: x3 :: x4 :: x5 :: some (.int x) :: r) st S := mv_iinc C h rfl (by simp [mv_pre, hq]) kk
theorem mv_inc7 {P : List (Nat × mv_I)} {rt : Option FieldType} {Rn : Nat → List Value → mv_S → Option Value → mv_S → Prop} {nM sM : Nat} {r0 : Option Value} {S0 : mv_S} {V : Nat → mv_L → List Value → mv_S → Prop} (C : mv_Clo P rt Rn nM sM r0 S0 V) {pc nx a b : Nat} {n : Int} {x0 x1 x2 x3 x4 x5 x6 : Option Value} {r : mv_L} {st : List Value} {S : mv_S} {x y : Int32} (h : mv_at P pc = some (.iinc 7 n, nx, a, b, .int y)) (hq : mv_isL x6 = false) (kk : V nx (x0 :: x1 :: x2 :: x3 :: x4 :: x5 :: x6 :: some (.int (x + y)) :: r) st S) : V pc (x0 :: x1 :: x2 :: x3 :: x4 :: x5 :: x6 :: some (.int x) :: r) st S := mv_iinc C h rfl (by simp [mv_pre, hq]) kk
theorem mv_inc8 {P : List (Nat × mv_I)} {rt : Option FieldType} {Rn : Nat → List Value → mv_S → Option Value → mv_S → Prop} {nM sM : Nat} {r0 : Option Value} {S0 : mv_S} {V : Nat → mv_L → List Value → mv_S → Prop} (C : mv_Clo P rt Rn nM sM r0 S0 V) {pc nx a b : Nat} {n : Int} {x0 x1 x2 x3 x4 x5 x6 x7 : Option Value} {r : mv_L} {st : List Value} {S : mv_S} {x y : Int32} (h : mv_at P pc = some (.iinc 8 n, nx, a, b, .int y)) (hq : mv_isL x7 = false) (kk : V nx (x0 :: x1 :: x2 :: x3 :: x4 :: x5 :: x6 :: x7 :: some (.int (x + y)) :: r) st S) : V pc (x0 :: x1 :: x2 :: x3 :: x4 :: x5 :: x6 :: x7 :: some (.int x) :: r) st S := mv_iinc C h rfl (by simp [mv_pre, hq]) kk
theorem mv_inc9 {P : List (Nat × mv_I)} {rt : Option FieldType} {Rn : Nat → List Value → mv_S → Option Value → mv_S → Prop} {nM sM : Nat} {r0 : Option Value} {S0 : mv_S} {V : Nat → mv_L → List Value → mv_S → Prop} (C : mv_Clo P rt Rn nM sM r0 S0 V) {pc nx a b : Nat} {n : Int} {x0 x1 x2 x3 x4 x5 x6 x7 x8 : Option Value} {r : mv_L} {st : List Value} {S : mv_S} {x y : Int32} (h : mv_at P pc = some (.iinc 9 n, nx, a, b, .int y)) (hq : mv_isL x8 = false) (kk : V nx (x0 :: x1 :: x2 :: x3 :: x4 :: x5 :: x6 :: x7 :: x8 :: some (.int (x + y)) :: r) st S) : V pc (x0 :: x1 :: x2 :: x3 :: x4 :: x5 :: x6 :: x7 :: x8 :: some (.int x) :: r) st S := mv_iinc C h rfl (by simp [mv_pre, hq]) kk
end
section
abbrev mv_Y : Type := (Nat × Nat) ⊕ (Nat × List (Option Nat))
def mv_lay : List mv_Y := [.inr (10, [some 1, some 2, some 3, some 10, some 21, some 27, some 29, some 66]),
  .inr (7, [some 2, some 3, some 19, some 20, none, none, none]),
  .inr (1, [some 3, some 10, some 15, some 16, some 17, some 18]),
  .inr (6, [some 4, some 5, some 6, some 7, some 8, some 9, none, none, none, none]),
  .inl (0, 24),
  .inl (0, 24),
  .inl (0, 40),
  .inl (0, 40),
  .inl (0, 40),
  .inl (1, 40),
  .inr (5, [some 11, some 12, some 13, some 14, none]),
  .inl (0, 40),
  .inl (0, 40),
  .inl (0, 40),
  .inl (1, 40),
  .inl (0, 48),
  .inl (2, 40),
  .inl (0, 48),
  .inl (0, 48),
  .inl (0, 3),
  .inl (0, 32),
  .inr (3, [some 22, some 25, some 26, none]),
  .inr (4, [some 23, some 24]),
  .inl (0, 6),
  .inl (0, 6),
  .inl (0, 30),
  .inl (0, 30),
  .inr (9, [some 28, none]),
  .inl (0, 100),
  .inr (2, [some 30, some 31, some 32, some 33, none, none]),
  .inl (3, 8),
  .inl (0, 12),
  .inl (0, 12),
  .inl (0, 12),
  .inr (0, [some 35, some 36, some 37, none, none, none, none]),
  .inl (0, 10),
  .inl (0, 10),
  .inl (0, 10),
  .inr (0, [some 39, some 40, some 41, none, none, none, none]),
  .inl (0, 10),
  .inl (0, 10),
  .inl (0, 10),
  .inr (0, [some 43, some 44, some 45, none, none, none, none]),
  .inl (0, 10),
  .inl (0, 10),
  .inl (0, 10),
  .inr (0, [some 47, some 48, some 49, none, none, none, none]),
  .inl (0, 10),
  .inl (0, 10),
  .inl (0, 10),
  .inr (0, [some 51, some 52, some 53, none, none, none, none]),
  .inl (0, 10),
  .inl (0, 10),
  .inl (0, 10),
  .inr (0, [some 55, some 56, some 57, none, none, none, none]),
  .inl (0, 10),
  .inl (0, 10),
  .inl (0, 10),
  .inr (0, [some 59, some 60, some 61, none, none, none, none]),
  .inl (0, 10),
  .inl (0, 10),
  .inl (0, 10),
  .inr (0, [some 63, some 64, some 65, none, none, none, none]),
  .inl (0, 10),
  .inl (0, 10),
  .inl (0, 10),
  .inr (8, [some 67, none]),
  .inl (0, 48),
  .inr (11, [none, none, some 69, some 70, none, some 71, some 72, some 73, some 74, none, some 75, none, some 76, some 77, some 78, some 79, some 80, some 81, none, some 82, some 83, some 84, some 85, none, some 86, some 87, some 88, none, none, some 89, some 90, some 91, some 92, some 93, none, none, none, some 94, some 95]),
  .inl (0, 24),
  .inl (1, 24),
  .inl (0, 40),
  .inl (0, 40),
  .inl (0, 40),
  .inl (1, 40),
  .inl (0, 24),
  .inl (0, 40),
  .inl (0, 40),
  .inl (0, 40),
  .inl (1, 40),
  .inl (1, 1152),
  .inl (1, 1152),
  .inl (0, 49),
  .inl (0, 49),
  .inl (0, 6),
  .inl (0, 6),
  .inl (0, 30),
  .inl (0, 180),
  .inl (0, 100),
  .inl (0, 9),
  .inl (0, 90),
  .inl (0, 90),
  .inl (0, 90),
  .inl (0, 9),
  .inl (0, 12),
  .inl (0, 12),
  .inl (2, 1)]
/-- the numbers of the state: of each cell its ints (an object's by slot, an array's by place), and the longs -/
abbrev mv_Z : Type := (Nat → Nat → Int32) × (Nat → Nat → Int64)
def mv_fld (z : mv_Z) (k : Nat) : Nat → List (Option Nat) → List Value
  | _, [] => []
  | j, some t :: r => .ref t :: mv_fld z k (j + 1) r
  | j, none :: r => .int (z.1 k j) :: mv_fld z k (j + 1) r
def mv_bk : Nat → Option Nat := fun i => if i < 8 then some (34 + 4 * i) else none
def mv_cel (z : mv_Z) (k : Nat) : mv_Y → mv_C
  | .inl (kd, n) => .inl (kd, n, bif Nat.beq kd 2 then .inr (.inl (z.2 k)) else bif Nat.beq kd 3 then .inr (.inr (.inr (.inr mv_bk))) else .inl (z.1 k))
  | .inr (ci, fs) => .inr (ci, mv_fld z k 0 fs)
def mv_H (z : mv_Z) (k : Nat) : mv_C := mv_cel z k (mv_lay.getD k (.inl (0, 0)))
/-- the whole state -/
def mv_E (z : mv_Z) : mv_S := (97, 4667, mv_H z)
def mv_u (z : mv_Z) (k j : Nat) (x : Int32) : mv_Z := (va_up z.1 k (upd (z.1 k) j x), z.2)
def mv_uL (z : mv_Z) (k j : Nat) (x : Int64) : mv_Z := (z.1, va_up z.2 k (vp_updL (z.2 k) j x))

theorem mv_lay_n : mv_lay.length = 97 := rfl
theorem mv_lay_lt {q : Nat} {y : mv_Y} (h : mv_lay[q]? = some y) : q < 97 := by
  have := (List.getElem?_eq_some_iff.mp h).1
  rw [mv_lay_n] at this; exact this
theorem mv_H_at {z : mv_Z} {q : Nat} {y : mv_Y} (h : mv_lay[q]? = some y) : mv_H z q = mv_cel z q y := by
  unfold mv_H; rw [List.getD_eq_getElem?_getD, h]; rfl
theorem mv_lay_len : ∀ (q kd n : Nat), mv_lay[q]? = some (Sum.inl (kd, n)) → n < 2 ^ 31 := by
  have h : mv_lay.all (fun y => match y with | .inl (_, n) => decide (n < 2 ^ 31) | .inr _ => true) = true := by decide +kernel
  intro q kd n hq
  have := List.all_eq_true.mp h _ (List.mem_of_getElem? hq)
  simpa using this
theorem mv_fld_len (z : mv_Z) (k : Nat) : ∀ (fs : List (Option Nat)) (j : Nat), (mv_fld z k j fs).length = fs.length
  | [], _ => rfl
  | some t :: r, j => by simp [mv_fld, mv_fld_len z k r (j + 1)]
  | none :: r, j => by simp [mv_fld, mv_fld_len z k r (j + 1)]
theorem mv_fld_at (z : mv_Z) (k : Nat) : ∀ (fs : List (Option Nat)) (j i : Nat) (o : Option Nat), fs[i]? = some o → (mv_fld z k j fs)[i]? = some (match o with | some t => .ref t | none => .int (z.1 k (j + i)))
  | [], _, i, o, h => by simp at h
  | some t :: r, j, 0, o, h => by simp at h; subst h; simp [mv_fld]
  | none :: r, j, 0, o, h => by simp at h; subst h; simp [mv_fld]
  | some t :: r, j, i + 1, o, h => by
      have := mv_fld_at z k r (j + 1) i o (by simpa using h)
      simp only [mv_fld, List.getElem?_cons_succ, this]
      cases o <;> simp [Nat.add_assoc, Nat.add_comm 1 i]
  | none :: r, j, i + 1, o, h => by
      have := mv_fld_at z k r (j + 1) i o (by simpa using h)
      simp only [mv_fld, List.getElem?_cons_succ, this]
      cases o <;> simp [Nat.add_assoc, Nat.add_comm 1 i]
theorem mv_fld_set (z : mv_Z) (k b : Nat) (x : Int32) : ∀ (fs : List (Option Nat)) (j i : Nat), fs[i]? = some none → j + i = b → (mv_fld z k j fs).set i (.int x) = mv_fld (mv_u z k b x) k j fs
  | [], _, i, h, _ => by simp at h
  | some t :: r, j, 0, h, _ => by simp at h
  | none :: r, j, 0, _, hb => by
      simp only [Nat.add_zero] at hb; subst hb
      simp only [mv_fld, List.set_cons_zero]
      congr 1
      · simp [mv_u, va_up, upd]
      · exact mv_fld_out z k x r (j + 1) j (by omega)
  | some t :: r, j, i + 1, h, hb => by
      simp only [mv_fld, List.set_cons_succ]
      rw [mv_fld_set z k b x r (j + 1) i (by simpa using h) (by omega)]
  | none :: r, j, i + 1, h, hb => by
      simp only [mv_fld, List.set_cons_succ]
      rw [mv_fld_set z k b x r (j + 1) i (by simpa using h) (by omega)]
      congr 2
      have : j ≠ b := by omega
      simp [mv_u, va_up, upd, this]
where
  mv_fld_out (z : mv_Z) (k : Nat) (x : Int32) : ∀ (fs : List (Option Nat)) (j b : Nat), b < j → mv_fld z k j fs = mv_fld (mv_u z k b x) k j fs
    | [], _, _, _ => rfl
    | some t :: r, j, b, h => by simp only [mv_fld]; rw [mv_fld_out z k x r (j + 1) b (by omega)]
    | none :: r, j, b, h => by
        simp only [mv_fld]; rw [← mv_fld_out z k x r (j + 1) b (by omega)]
        congr 2
        have : j ≠ b := by omega
        simp [mv_u, va_up, upd, this]
theorem mv_fld_other (z z1 : mv_Z) (k : Nat) (h : ∀ j, z.1 k j = z1.1 k j) : ∀ (fs : List (Option Nat)) (j : Nat), mv_fld z k j fs = mv_fld z1 k j fs
  | [], _ => rfl
  | some t :: r, j => by simp only [mv_fld]; rw [mv_fld_other z z1 k h r (j + 1)]
  | none :: r, j => by simp only [mv_fld]; rw [mv_fld_other z z1 k h r (j + 1), h j]
theorem mv_cel_other {z z1 : mv_Z} {k : Nat} (h : z.1 k = z1.1 k) (h2 : z.2 k = z1.2 k) (y : mv_Y) : mv_cel z k y = mv_cel z1 k y := by
  match y with
  | .inl (kd, n) => simp only [mv_cel]; rw [h, h2]
  | .inr (ci, fs) => simp only [mv_cel]; rw [mv_fld_other z z1 k (fun j => by rw [h]) fs 0]
theorem mv_H_set {z z1 : mv_Z} {q : Nat} {c : mv_C} (hq : mv_H z1 q = c) (ho : ∀ k, k ≠ q → z.1 k = z1.1 k ∧ z.2 k = z1.2 k) : va_up (mv_H z) q c = mv_H z1 := by
  funext k
  by_cases hk : k = q
  · subst hk; simp [va_up, hq]
  · simp only [va_up, hk, if_false]
    unfold mv_H
    exact mv_cel_other (ho k hk).1 (ho k hk).2 _
theorem mv_u_put {z : mv_Z} {q a b : Nat} {fs : List (Option Nat)} {x : Int32} (hk : mv_lay[q]? = some (.inr (a, fs))) (hf : fs[b]? = some none) : va_up (mv_H z) q (.inr (a, (mv_fld z q 0 fs).set b (.int x))) = mv_H (mv_u z q b x) := by
  refine mv_H_set ?_ (fun k hk => by simp [mv_u, va_up, hk])
  rw [mv_H_at hk]
  simp only [mv_cel]
  rw [mv_fld_set z q b x fs 0 b hf (by omega)]
theorem mv_u_ast {z : mv_Z} {q kd n j : Nat} {x : Int32} (hk : mv_lay[q]? = some (.inl (kd, n))) (h2 : Nat.beq kd 2 = false) (h3 : Nat.beq kd 3 = false) : va_up (mv_H z) q (.inl (kd, n, .inl (upd (z.1 q) j x))) = mv_H (mv_u z q j x) := by
  refine mv_H_set ?_ (fun k hk => by simp [mv_u, va_up, hk])
  rw [mv_H_at hk]
  simp only [mv_cel, h2, h3, cond_false]
  simp [mv_u, va_up]
theorem mv_u_last {z : mv_Z} {q n j : Nat} {x : Int64} (hk : mv_lay[q]? = some (.inl (2, n))) : va_up (mv_H z) q (.inl (2, n, .inr (.inl (vp_updL (z.2 q) j x)))) = mv_H (mv_uL z q j x) := by
  refine mv_H_set ?_ (fun k hk => by simp [mv_uL, va_up, hk])
  rw [mv_H_at hk]
  simp [mv_cel, mv_uL, va_up]
section
variable {P : List (Nat × mv_I)} {rt : Option FieldType} {Rn : Nat → List Value → mv_S → Option Value → mv_S → Prop} {nM sM : Nat} {r0 : Option Value} {S0 : mv_S} {V : Nat → mv_L → List Value → mv_S → Prop}
theorem mv_getI (C : mv_Clo P rt Rn nM sM r0 S0 V) {pc nx a b n q : Nat} {v : Value} {ls : mv_L} {st : List Value} {z : mv_Z} {fs : List (Option Nat)} (h : mv_at P pc = some (.getfield n, nx, a, b, v)) (hk : mv_lay[q]? = some (.inr (a, fs))) (hf : fs[b]? = some none) (kk : V nx ls (.int (z.1 q b) :: st) (mv_E z)) : V pc ls (.ref q :: st) (mv_E z) := by
  refine mv_getfield C h (mv_lay_lt hk) (mv_H_at hk) (x := .int (z.1 q b)) ?_ kk
  have := mv_fld_at z q fs 0 b none hf
  simpa using this
theorem mv_getR (C : mv_Clo P rt Rn nM sM r0 S0 V) {pc nx a b n q t : Nat} {v : Value} {ls : mv_L} {st : List Value} {z : mv_Z} {fs : List (Option Nat)} (h : mv_at P pc = some (.getfield n, nx, a, b, v)) (hk : mv_lay[q]? = some (.inr (a, fs))) (hf : fs[b]? = some (some t)) (kk : V nx ls (.ref t :: st) (mv_E z)) : V pc ls (.ref q :: st) (mv_E z) := by
  refine mv_getfield C h (mv_lay_lt hk) (mv_H_at hk) (x := .ref t) ?_ kk
  have := mv_fld_at z q fs 0 b (some t) hf
  simpa using this
theorem mv_putI (C : mv_Clo P rt Rn nM sM r0 S0 V) {pc nx a b n q : Nat} {v : Value} {ls : mv_L} {st : List Value} {z : mv_Z} {fs : List (Option Nat)} {x : Int32} (h : mv_at P pc = some (.putfield n, nx, a, b, v)) (hk : mv_lay[q]? = some (.inr (a, fs))) (hf : fs[b]? = some none) (hv : (mv_ft.getD a []).getD b false = true) (kk : V nx ls st (mv_E (mv_u z q b x))) : V pc ls (.int x :: .ref q :: st) (mv_E z) := by
  refine mv_putfield C h (mv_lay_lt hk) (mv_H_at hk) (by rw [mv_fld_len]; exact (List.getElem?_eq_some_iff.mp hf).1) hv ?_
  have e : va_up (mv_E z).2.2 q (.inr (a, (mv_fld z q 0 fs).set b (.int x))) = mv_H (mv_u z q b x) := mv_u_put hk hf
  rw [e]
  exact kk
theorem mv_ald (C : mv_Clo P rt Rn nM sM r0 S0 V) {pc nx a b q len j : Nat} {v : Value} {ls : mv_L} {st : List Value} {z : mv_Z} {x : Int32} (h : mv_at P pc = some (.iaload, nx, a, b, v)) (hk : mv_lay[q]? = some (.inl (0, len))) (hx : x = nI j) (hj : j < len) (kk : V nx ls (.int (z.1 q j) :: st) (mv_E z)) : V pc ls (.int x :: .ref q :: st) (mv_E z) := by
  subst hx
  have hl := mv_lay_len _ _ _ hk
  refine mv_iaload C h (mv_lay_lt hk) (mv_H_at hk) (vp_in_nI hj hl) ?_
  rw [nI_clamp (by omega)]; exact kk
theorem mv_zld (C : mv_Clo P rt Rn nM sM r0 S0 V) {pc nx a b q len j : Nat} {v : Value} {ls : mv_L} {st : List Value} {z : mv_Z} {x : Int32} (h : mv_at P pc = some (.baload, nx, a, b, v)) (hk : mv_lay[q]? = some (.inl (1, len))) (hx : x = nI j) (hj : j < len) (kk : V nx ls (.int (z.1 q j) :: st) (mv_E z)) : V pc ls (.int x :: .ref q :: st) (mv_E z) := by
  subst hx
  have hl := mv_lay_len _ _ _ hk
  refine mv_baload C h (mv_lay_lt hk) (mv_H_at hk) (vp_in_nI hj hl) ?_
  rw [nI_clamp (by omega)]; exact kk
theorem mv_lld (C : mv_Clo P rt Rn nM sM r0 S0 V) {pc nx a b q len j : Nat} {v : Value} {ls : mv_L} {st : List Value} {z : mv_Z} {x : Int32} (h : mv_at P pc = some (.laload, nx, a, b, v)) (hk : mv_lay[q]? = some (.inl (2, len))) (hx : x = nI j) (hj : j < len) (kk : V nx ls (.long (z.2 q j) :: st) (mv_E z)) : V pc ls (.int x :: .ref q :: st) (mv_E z) := by
  subst hx
  have hl := mv_lay_len _ _ _ hk
  refine mv_laload C h (mv_lay_lt hk) (mv_H_at hk) (vp_in_nI hj hl) ?_
  rw [nI_clamp (by omega)]; exact kk
theorem mv_rld (C : mv_Clo P rt Rn nM sM r0 S0 V) {pc nx a b j : Nat} {v : Value} {ls : mv_L} {st : List Value} {z : mv_Z} {x : Int32} (h : mv_at P pc = some (.aaload, nx, a, b, v)) (hx : x = nI j) (hj : j < 8) (kk : V nx ls (.ref (34 + 4 * j) :: st) (mv_E z)) : V pc ls (.int x :: .ref 30 :: st) (mv_E z) := by
  subst hx
  have hk : mv_lay[30]? = some (.inl (3, 8)) := rfl
  refine mv_aaload C h (mv_lay_lt hk) (mv_H_at hk) (vp_in_nI hj (by omega)) ?_ kk
  rw [nI_clamp (by omega)]; simp [mv_bk, hj]
theorem mv_ast (C : mv_Clo P rt Rn nM sM r0 S0 V) {pc nx a b q len j : Nat} {v : Value} {ls : mv_L} {st : List Value} {z : mv_Z} {x y : Int32} (h : mv_at P pc = some (.iastore, nx, a, b, v)) (hk : mv_lay[q]? = some (.inl (0, len))) (hx : x = nI j) (hj : j < len) (kk : V nx ls st (mv_E (mv_u z q j y))) : V pc ls (.int y :: .int x :: .ref q :: st) (mv_E z) := by
  subst hx
  have hl := mv_lay_len _ _ _ hk
  refine mv_iastore C h (mv_lay_lt hk) (mv_H_at hk) (vp_in_nI hj hl) ?_
  rw [nI_clamp (by omega)]
  have e : va_up (mv_E z).2.2 q (.inl (0, len, .inl (upd (z.1 q) j y))) = mv_H (mv_u z q j y) := mv_u_ast hk rfl rfl
  rw [e]; exact kk
theorem mv_zst (C : mv_Clo P rt Rn nM sM r0 S0 V) {pc nx a b q len j : Nat} {v : Value} {ls : mv_L} {st : List Value} {z : mv_Z} {x y : Int32} (h : mv_at P pc = some (.bastore, nx, a, b, v)) (hk : mv_lay[q]? = some (.inl (1, len))) (hx : x = nI j) (hj : j < len) (hy : y = 0 ∨ y = 1) (kk : V nx ls st (mv_E (mv_u z q j y))) : V pc ls (.int y :: .int x :: .ref q :: st) (mv_E z) := by
  subst hx
  have hl := mv_lay_len _ _ _ hk
  refine mv_bastore C h (mv_lay_lt hk) (mv_H_at hk) (vp_in_nI hj hl) hy ?_
  rw [nI_clamp (by omega)]
  have e : va_up (mv_E z).2.2 q (.inl (1, len, .inl (upd (z.1 q) j y))) = mv_H (mv_u z q j y) := mv_u_ast hk rfl rfl
  rw [e]; exact kk
theorem mv_lst (C : mv_Clo P rt Rn nM sM r0 S0 V) {pc nx a b q len j : Nat} {v : Value} {ls : mv_L} {st : List Value} {z : mv_Z} {x : Int32} {y : Int64} (h : mv_at P pc = some (.lastore, nx, a, b, v)) (hk : mv_lay[q]? = some (.inl (2, len))) (hx : x = nI j) (hj : j < len) (kk : V nx ls st (mv_E (mv_uL z q j y))) : V pc ls (.long y :: .int x :: .ref q :: st) (mv_E z) := by
  subst hx
  have hl := mv_lay_len _ _ _ hk
  refine mv_lastore C h (mv_lay_lt hk) (mv_H_at hk) (vp_in_nI hj hl) ?_
  rw [nI_clamp (by omega)]
  have e : va_up (mv_E z).2.2 q (.inl (2, len, .inr (.inl (vp_updL (z.2 q) j y)))) = mv_H (mv_uL z q j y) := mv_u_last hk
  rw [e]; exact kk
/-- a call within the state -/
theorem mv_cV (C : mv_Clo P rt Rn nM sM r0 S0 V) {pc nx a b n q ci : Nat} {v : Value} {ls : mv_L} {z z1 : mv_Z} {fs : List (Option Nat)} {as rest : List Value} {st : List Value} {r1 : Option Value} (h : mv_at P pc = some (.invokevirtual n, nx, a, b, v)) (hr : Rn b (.ref q :: as) (mv_E z) r1 (mv_E z1)) (hb : b < 900) (hn : (mv_m b).2.2.2.2.1 = as.length) (hc : (mv_m b).2.2.2.2.2.1 = ci) (hk : mv_lay[q]? = some (.inr (ci, fs))) (hw : mv_wd rest ≤ 8) (hM : 97 ≤ nM) (hM2 : (mv_E z1).2.1 ≤ sM) (hs : as.reverse ++ .ref q :: rest = st) (kk : V nx ls (r1.toList ++ rest) (mv_E z1)) : V pc ls st (mv_E z) := by
  subst hs
  exact mv_callV C h hb hn hc (mv_lay_lt hk) (mv_H_at hk) hw hr hM hM2 (Nat.le_refl _) (Nat.le_refl _) kk
theorem mv_cS (C : mv_Clo P rt Rn nM sM r0 S0 V) {pc nx a b n : Nat} {v : Value} {ls : mv_L} {z z1 : mv_Z} {as rest : List Value} {st : List Value} {r1 : Option Value} (h : mv_at P pc = some (.invokestatic n, nx, a, b, v)) (hr : Rn b as (mv_E z) r1 (mv_E z1)) (hb : b < 900) (hn : (mv_m b).2.2.2.2.1 = as.length) (hw : mv_wd rest ≤ 8) (hM : 97 ≤ nM) (hM2 : (mv_E z1).2.1 ≤ sM) (hs : as.reverse ++ rest = st) (kk : V nx ls (r1.toList ++ rest) (mv_E z1)) : V pc ls st (mv_E z) := by
  subst hs
  exact mv_callS C h hb hn hw hr hM hM2 (Nat.le_refl _) (Nat.le_refl _) kk
end
end
section
theorem mv_okI {x : Int32} : mv_rok (some .int) x := Or.inl rfl
theorem mv_okZ1 : mv_rok (some .boolean) 1 := Or.inr ⟨rfl, Or.inr rfl⟩
theorem mv_okZ0 : mv_rok (some .boolean) 0 := Or.inr ⟨rfl, Or.inl rfl⟩
theorem mv_okZi {c : Prop} [Decidable c] : mv_rok (some .boolean) (if c then 1 else 0) := Or.inr ⟨rfl, by by_cases h : c <;> simp [h]⟩
theorem mv_okZ {x : Int32} (h : x = 0 ∨ x = 1) : mv_rok (some .boolean) x := Or.inr ⟨rfl, h⟩
/-- more room for calls -/
theorem mv_Clo_mono {P : List (Nat × mv_I)} {rt : Option FieldType} {Rn Rm : Nat → List Value → mv_S → Option Value → mv_S → Prop} {nM sM : Nat} {r0 : Option Value} {S0 : mv_S} {V : Nat → mv_L → List Value → mv_S → Prop} (h0 : ∀ y as S r S1, Rn y as S r S1 → Rm y as S r S1) (C : mv_Clo P rt Rm nM sM r0 S0 V) : mv_Clo P rt Rn nM sM r0 S0 V := by
  exact ⟨C.1, C.2.1, C.2.2.1, C.2.2.2.1, C.2.2.2.2.1, C.2.2.2.2.2.1, C.2.2.2.2.2.2.1, C.2.2.2.2.2.2.2.1, C.2.2.2.2.2.2.2.2.1, C.2.2.2.2.2.2.2.2.2.1, C.2.2.2.2.2.2.2.2.2.2.1, C.2.2.2.2.2.2.2.2.2.2.2.1, C.2.2.2.2.2.2.2.2.2.2.2.2.1, C.2.2.2.2.2.2.2.2.2.2.2.2.2.1, C.2.2.2.2.2.2.2.2.2.2.2.2.2.2.1, C.2.2.2.2.2.2.2.2.2.2.2.2.2.2.2.1, C.2.2.2.2.2.2.2.2.2.2.2.2.2.2.2.2.1, C.2.2.2.2.2.2.2.2.2.2.2.2.2.2.2.2.2.1, C.2.2.2.2.2.2.2.2.2.2.2.2.2.2.2.2.2.2.1, C.2.2.2.2.2.2.2.2.2.2.2.2.2.2.2.2.2.2.2.1, C.2.2.2.2.2.2.2.2.2.2.2.2.2.2.2.2.2.2.2.2.1, C.2.2.2.2.2.2.2.2.2.2.2.2.2.2.2.2.2.2.2.2.2.1, C.2.2.2.2.2.2.2.2.2.2.2.2.2.2.2.2.2.2.2.2.2.2.1, C.2.2.2.2.2.2.2.2.2.2.2.2.2.2.2.2.2.2.2.2.2.2.2.1, C.2.2.2.2.2.2.2.2.2.2.2.2.2.2.2.2.2.2.2.2.2.2.2.2.1, C.2.2.2.2.2.2.2.2.2.2.2.2.2.2.2.2.2.2.2.2.2.2.2.2.2.1, C.2.2.2.2.2.2.2.2.2.2.2.2.2.2.2.2.2.2.2.2.2.2.2.2.2.2.1, C.2.2.2.2.2.2.2.2.2.2.2.2.2.2.2.2.2.2.2.2.2.2.2.2.2.2.2.1, C.2.2.2.2.2.2.2.2.2.2.2.2.2.2.2.2.2.2.2.2.2.2.2.2.2.2.2.2.1, C.2.2.2.2.2.2.2.2.2.2.2.2.2.2.2.2.2.2.2.2.2.2.2.2.2.2.2.2.2.1, C.2.2.2.2.2.2.2.2.2.2.2.2.2.2.2.2.2.2.2.2.2.2.2.2.2.2.2.2.2.2.1, C.2.2.2.2.2.2.2.2.2.2.2.2.2.2.2.2.2.2.2.2.2.2.2.2.2.2.2.2.2.2.2.1, C.2.2.2.2.2.2.2.2.2.2.2.2.2.2.2.2.2.2.2.2.2.2.2.2.2.2.2.2.2.2.2.2.1, C.2.2.2.2.2.2.2.2.2.2.2.2.2.2.2.2.2.2.2.2.2.2.2.2.2.2.2.2.2.2.2.2.2.1, C.2.2.2.2.2.2.2.2.2.2.2.2.2.2.2.2.2.2.2.2.2.2.2.2.2.2.2.2.2.2.2.2.2.2.1, C.2.2.2.2.2.2.2.2.2.2.2.2.2.2.2.2.2.2.2.2.2.2.2.2.2.2.2.2.2.2.2.2.2.2.2.1, C.2.2.2.2.2.2.2.2.2.2.2.2.2.2.2.2.2.2.2.2.2.2.2.2.2.2.2.2.2.2.2.2.2.2.2.2.1, C.2.2.2.2.2.2.2.2.2.2.2.2.2.2.2.2.2.2.2.2.2.2.2.2.2.2.2.2.2.2.2.2.2.2.2.2.2.1, C.2.2.2.2.2.2.2.2.2.2.2.2.2.2.2.2.2.2.2.2.2.2.2.2.2.2.2.2.2.2.2.2.2.2.2.2.2.2.1, C.2.2.2.2.2.2.2.2.2.2.2.2.2.2.2.2.2.2.2.2.2.2.2.2.2.2.2.2.2.2.2.2.2.2.2.2.2.2.2.1, C.2.2.2.2.2.2.2.2.2.2.2.2.2.2.2.2.2.2.2.2.2.2.2.2.2.2.2.2.2.2.2.2.2.2.2.2.2.2.2.2.1, C.2.2.2.2.2.2.2.2.2.2.2.2.2.2.2.2.2.2.2.2.2.2.2.2.2.2.2.2.2.2.2.2.2.2.2.2.2.2.2.2.2.1, C.2.2.2.2.2.2.2.2.2.2.2.2.2.2.2.2.2.2.2.2.2.2.2.2.2.2.2.2.2.2.2.2.2.2.2.2.2.2.2.2.2.2.1, C.2.2.2.2.2.2.2.2.2.2.2.2.2.2.2.2.2.2.2.2.2.2.2.2.2.2.2.2.2.2.2.2.2.2.2.2.2.2.2.2.2.2.2.1, C.2.2.2.2.2.2.2.2.2.2.2.2.2.2.2.2.2.2.2.2.2.2.2.2.2.2.2.2.2.2.2.2.2.2.2.2.2.2.2.2.2.2.2.2.1, C.2.2.2.2.2.2.2.2.2.2.2.2.2.2.2.2.2.2.2.2.2.2.2.2.2.2.2.2.2.2.2.2.2.2.2.2.2.2.2.2.2.2.2.2.2.1, C.2.2.2.2.2.2.2.2.2.2.2.2.2.2.2.2.2.2.2.2.2.2.2.2.2.2.2.2.2.2.2.2.2.2.2.2.2.2.2.2.2.2.2.2.2.2.1, C.2.2.2.2.2.2.2.2.2.2.2.2.2.2.2.2.2.2.2.2.2.2.2.2.2.2.2.2.2.2.2.2.2.2.2.2.2.2.2.2.2.2.2.2.2.2.2.1, C.2.2.2.2.2.2.2.2.2.2.2.2.2.2.2.2.2.2.2.2.2.2.2.2.2.2.2.2.2.2.2.2.2.2.2.2.2.2.2.2.2.2.2.2.2.2.2.2.1, C.2.2.2.2.2.2.2.2.2.2.2.2.2.2.2.2.2.2.2.2.2.2.2.2.2.2.2.2.2.2.2.2.2.2.2.2.2.2.2.2.2.2.2.2.2.2.2.2.2.1, C.2.2.2.2.2.2.2.2.2.2.2.2.2.2.2.2.2.2.2.2.2.2.2.2.2.2.2.2.2.2.2.2.2.2.2.2.2.2.2.2.2.2.2.2.2.2.2.2.2.2.1, C.2.2.2.2.2.2.2.2.2.2.2.2.2.2.2.2.2.2.2.2.2.2.2.2.2.2.2.2.2.2.2.2.2.2.2.2.2.2.2.2.2.2.2.2.2.2.2.2.2.2.2.1, C.2.2.2.2.2.2.2.2.2.2.2.2.2.2.2.2.2.2.2.2.2.2.2.2.2.2.2.2.2.2.2.2.2.2.2.2.2.2.2.2.2.2.2.2.2.2.2.2.2.2.2.2.1, C.2.2.2.2.2.2.2.2.2.2.2.2.2.2.2.2.2.2.2.2.2.2.2.2.2.2.2.2.2.2.2.2.2.2.2.2.2.2.2.2.2.2.2.2.2.2.2.2.2.2.2.2.2.1, C.2.2.2.2.2.2.2.2.2.2.2.2.2.2.2.2.2.2.2.2.2.2.2.2.2.2.2.2.2.2.2.2.2.2.2.2.2.2.2.2.2.2.2.2.2.2.2.2.2.2.2.2.2.2.1, C.2.2.2.2.2.2.2.2.2.2.2.2.2.2.2.2.2.2.2.2.2.2.2.2.2.2.2.2.2.2.2.2.2.2.2.2.2.2.2.2.2.2.2.2.2.2.2.2.2.2.2.2.2.2.2.1, C.2.2.2.2.2.2.2.2.2.2.2.2.2.2.2.2.2.2.2.2.2.2.2.2.2.2.2.2.2.2.2.2.2.2.2.2.2.2.2.2.2.2.2.2.2.2.2.2.2.2.2.2.2.2.2.2.1, C.2.2.2.2.2.2.2.2.2.2.2.2.2.2.2.2.2.2.2.2.2.2.2.2.2.2.2.2.2.2.2.2.2.2.2.2.2.2.2.2.2.2.2.2.2.2.2.2.2.2.2.2.2.2.2.2.2.1, C.2.2.2.2.2.2.2.2.2.2.2.2.2.2.2.2.2.2.2.2.2.2.2.2.2.2.2.2.2.2.2.2.2.2.2.2.2.2.2.2.2.2.2.2.2.2.2.2.2.2.2.2.2.2.2.2.2.2.1, C.2.2.2.2.2.2.2.2.2.2.2.2.2.2.2.2.2.2.2.2.2.2.2.2.2.2.2.2.2.2.2.2.2.2.2.2.2.2.2.2.2.2.2.2.2.2.2.2.2.2.2.2.2.2.2.2.2.2.2.1, C.2.2.2.2.2.2.2.2.2.2.2.2.2.2.2.2.2.2.2.2.2.2.2.2.2.2.2.2.2.2.2.2.2.2.2.2.2.2.2.2.2.2.2.2.2.2.2.2.2.2.2.2.2.2.2.2.2.2.2.2.1, C.2.2.2.2.2.2.2.2.2.2.2.2.2.2.2.2.2.2.2.2.2.2.2.2.2.2.2.2.2.2.2.2.2.2.2.2.2.2.2.2.2.2.2.2.2.2.2.2.2.2.2.2.2.2.2.2.2.2.2.2.2.1, C.2.2.2.2.2.2.2.2.2.2.2.2.2.2.2.2.2.2.2.2.2.2.2.2.2.2.2.2.2.2.2.2.2.2.2.2.2.2.2.2.2.2.2.2.2.2.2.2.2.2.2.2.2.2.2.2.2.2.2.2.2.2.1, C.2.2.2.2.2.2.2.2.2.2.2.2.2.2.2.2.2.2.2.2.2.2.2.2.2.2.2.2.2.2.2.2.2.2.2.2.2.2.2.2.2.2.2.2.2.2.2.2.2.2.2.2.2.2.2.2.2.2.2.2.2.2.2.1, C.2.2.2.2.2.2.2.2.2.2.2.2.2.2.2.2.2.2.2.2.2.2.2.2.2.2.2.2.2.2.2.2.2.2.2.2.2.2.2.2.2.2.2.2.2.2.2.2.2.2.2.2.2.2.2.2.2.2.2.2.2.2.2.2.1, C.2.2.2.2.2.2.2.2.2.2.2.2.2.2.2.2.2.2.2.2.2.2.2.2.2.2.2.2.2.2.2.2.2.2.2.2.2.2.2.2.2.2.2.2.2.2.2.2.2.2.2.2.2.2.2.2.2.2.2.2.2.2.2.2.2.1, C.2.2.2.2.2.2.2.2.2.2.2.2.2.2.2.2.2.2.2.2.2.2.2.2.2.2.2.2.2.2.2.2.2.2.2.2.2.2.2.2.2.2.2.2.2.2.2.2.2.2.2.2.2.2.2.2.2.2.2.2.2.2.2.2.2.2.1, C.2.2.2.2.2.2.2.2.2.2.2.2.2.2.2.2.2.2.2.2.2.2.2.2.2.2.2.2.2.2.2.2.2.2.2.2.2.2.2.2.2.2.2.2.2.2.2.2.2.2.2.2.2.2.2.2.2.2.2.2.2.2.2.2.2.2.2.1, C.2.2.2.2.2.2.2.2.2.2.2.2.2.2.2.2.2.2.2.2.2.2.2.2.2.2.2.2.2.2.2.2.2.2.2.2.2.2.2.2.2.2.2.2.2.2.2.2.2.2.2.2.2.2.2.2.2.2.2.2.2.2.2.2.2.2.2.2.1, C.2.2.2.2.2.2.2.2.2.2.2.2.2.2.2.2.2.2.2.2.2.2.2.2.2.2.2.2.2.2.2.2.2.2.2.2.2.2.2.2.2.2.2.2.2.2.2.2.2.2.2.2.2.2.2.2.2.2.2.2.2.2.2.2.2.2.2.2.2.1, C.2.2.2.2.2.2.2.2.2.2.2.2.2.2.2.2.2.2.2.2.2.2.2.2.2.2.2.2.2.2.2.2.2.2.2.2.2.2.2.2.2.2.2.2.2.2.2.2.2.2.2.2.2.2.2.2.2.2.2.2.2.2.2.2.2.2.2.2.2.2.1, C.2.2.2.2.2.2.2.2.2.2.2.2.2.2.2.2.2.2.2.2.2.2.2.2.2.2.2.2.2.2.2.2.2.2.2.2.2.2.2.2.2.2.2.2.2.2.2.2.2.2.2.2.2.2.2.2.2.2.2.2.2.2.2.2.2.2.2.2.2.2.2.1, C.2.2.2.2.2.2.2.2.2.2.2.2.2.2.2.2.2.2.2.2.2.2.2.2.2.2.2.2.2.2.2.2.2.2.2.2.2.2.2.2.2.2.2.2.2.2.2.2.2.2.2.2.2.2.2.2.2.2.2.2.2.2.2.2.2.2.2.2.2.2.2.2.1, C.2.2.2.2.2.2.2.2.2.2.2.2.2.2.2.2.2.2.2.2.2.2.2.2.2.2.2.2.2.2.2.2.2.2.2.2.2.2.2.2.2.2.2.2.2.2.2.2.2.2.2.2.2.2.2.2.2.2.2.2.2.2.2.2.2.2.2.2.2.2.2.2.2.1, C.2.2.2.2.2.2.2.2.2.2.2.2.2.2.2.2.2.2.2.2.2.2.2.2.2.2.2.2.2.2.2.2.2.2.2.2.2.2.2.2.2.2.2.2.2.2.2.2.2.2.2.2.2.2.2.2.2.2.2.2.2.2.2.2.2.2.2.2.2.2.2.2.2.2.1, C.2.2.2.2.2.2.2.2.2.2.2.2.2.2.2.2.2.2.2.2.2.2.2.2.2.2.2.2.2.2.2.2.2.2.2.2.2.2.2.2.2.2.2.2.2.2.2.2.2.2.2.2.2.2.2.2.2.2.2.2.2.2.2.2.2.2.2.2.2.2.2.2.2.2.2.1, C.2.2.2.2.2.2.2.2.2.2.2.2.2.2.2.2.2.2.2.2.2.2.2.2.2.2.2.2.2.2.2.2.2.2.2.2.2.2.2.2.2.2.2.2.2.2.2.2.2.2.2.2.2.2.2.2.2.2.2.2.2.2.2.2.2.2.2.2.2.2.2.2.2.2.2.2.1, C.2.2.2.2.2.2.2.2.2.2.2.2.2.2.2.2.2.2.2.2.2.2.2.2.2.2.2.2.2.2.2.2.2.2.2.2.2.2.2.2.2.2.2.2.2.2.2.2.2.2.2.2.2.2.2.2.2.2.2.2.2.2.2.2.2.2.2.2.2.2.2.2.2.2.2.2.2.1, C.2.2.2.2.2.2.2.2.2.2.2.2.2.2.2.2.2.2.2.2.2.2.2.2.2.2.2.2.2.2.2.2.2.2.2.2.2.2.2.2.2.2.2.2.2.2.2.2.2.2.2.2.2.2.2.2.2.2.2.2.2.2.2.2.2.2.2.2.2.2.2.2.2.2.2.2.2.2.1, C.2.2.2.2.2.2.2.2.2.2.2.2.2.2.2.2.2.2.2.2.2.2.2.2.2.2.2.2.2.2.2.2.2.2.2.2.2.2.2.2.2.2.2.2.2.2.2.2.2.2.2.2.2.2.2.2.2.2.2.2.2.2.2.2.2.2.2.2.2.2.2.2.2.2.2.2.2.2.2.1, C.2.2.2.2.2.2.2.2.2.2.2.2.2.2.2.2.2.2.2.2.2.2.2.2.2.2.2.2.2.2.2.2.2.2.2.2.2.2.2.2.2.2.2.2.2.2.2.2.2.2.2.2.2.2.2.2.2.2.2.2.2.2.2.2.2.2.2.2.2.2.2.2.2.2.2.2.2.2.2.2.1, fun pc nx a b v ls st S n as rest q ci fs r1 S1 h g0 g1 g2 g3 g4 g5 g6 => C.2.2.2.2.2.2.2.2.2.2.2.2.2.2.2.2.2.2.2.2.2.2.2.2.2.2.2.2.2.2.2.2.2.2.2.2.2.2.2.2.2.2.2.2.2.2.2.2.2.2.2.2.2.2.2.2.2.2.2.2.2.2.2.2.2.2.2.2.2.2.2.2.2.2.2.2.2.2.2.2.2.1 pc nx a b v ls st S n as rest q ci fs r1 S1 h g0 g1 g2 g3 g4 g5 (h0 _ _ _ _ _ g6), fun pc nx a b v ls st S n as rest r1 S1 h g0 g1 g2 g3 => C.2.2.2.2.2.2.2.2.2.2.2.2.2.2.2.2.2.2.2.2.2.2.2.2.2.2.2.2.2.2.2.2.2.2.2.2.2.2.2.2.2.2.2.2.2.2.2.2.2.2.2.2.2.2.2.2.2.2.2.2.2.2.2.2.2.2.2.2.2.2.2.2.2.2.2.2.2.2.2.2.2.2.1 pc nx a b v ls st S n as rest r1 S1 h g0 g1 g2 (h0 _ _ _ _ _ g3), fun pc nx a b v ls st S n as rest q r1 S1 h g0 g1 g2 g3 => C.2.2.2.2.2.2.2.2.2.2.2.2.2.2.2.2.2.2.2.2.2.2.2.2.2.2.2.2.2.2.2.2.2.2.2.2.2.2.2.2.2.2.2.2.2.2.2.2.2.2.2.2.2.2.2.2.2.2.2.2.2.2.2.2.2.2.2.2.2.2.2.2.2.2.2.2.2.2.2.2.2.2.2.1 pc nx a b v ls st S n as rest q r1 S1 h g0 g1 g2 (h0 _ _ _ _ _ g3), C.2.2.2.2.2.2.2.2.2.2.2.2.2.2.2.2.2.2.2.2.2.2.2.2.2.2.2.2.2.2.2.2.2.2.2.2.2.2.2.2.2.2.2.2.2.2.2.2.2.2.2.2.2.2.2.2.2.2.2.2.2.2.2.2.2.2.2.2.2.2.2.2.2.2.2.2.2.2.2.2.2.2.2.2.1, C.2.2.2.2.2.2.2.2.2.2.2.2.2.2.2.2.2.2.2.2.2.2.2.2.2.2.2.2.2.2.2.2.2.2.2.2.2.2.2.2.2.2.2.2.2.2.2.2.2.2.2.2.2.2.2.2.2.2.2.2.2.2.2.2.2.2.2.2.2.2.2.2.2.2.2.2.2.2.2.2.2.2.2.2.2.1, C.2.2.2.2.2.2.2.2.2.2.2.2.2.2.2.2.2.2.2.2.2.2.2.2.2.2.2.2.2.2.2.2.2.2.2.2.2.2.2.2.2.2.2.2.2.2.2.2.2.2.2.2.2.2.2.2.2.2.2.2.2.2.2.2.2.2.2.2.2.2.2.2.2.2.2.2.2.2.2.2.2.2.2.2.2.2.1, C.2.2.2.2.2.2.2.2.2.2.2.2.2.2.2.2.2.2.2.2.2.2.2.2.2.2.2.2.2.2.2.2.2.2.2.2.2.2.2.2.2.2.2.2.2.2.2.2.2.2.2.2.2.2.2.2.2.2.2.2.2.2.2.2.2.2.2.2.2.2.2.2.2.2.2.2.2.2.2.2.2.2.2.2.2.2.2⟩
theorem mv_Runs_mono : ∀ (d d1 : Nat), d ≤ d1 → ∀ (y : Nat) (as : List Value) (S : mv_S) (r : Option Value) (S1 : mv_S), mv_Runs d y as S r S1 → mv_Runs d1 y as S r S1
  | 0, _, _, _, _, _, _, _, h => absurd h id
  | d + 1, 0, hd, _, _, _, _, _, _ => absurd hd (by omega)
  | d + 1, d1 + 1, hd, y, as, S, r, S1, h => ⟨h.1, fun V C => h.2 V (mv_Clo_mono (mv_Runs_mono d d1 (by omega)) C)⟩
theorem mv_up {d d1 y : Nat} {as : List Value} {S : mv_S} {r : Option Value} {S1 : mv_S} (h : mv_Runs d y as S r S1) (hd : Nat.ble d d1 = true) : mv_Runs d1 y as S r S1 := mv_Runs_mono d d1 (Nat.le_of_ble_eq_true hd) y as S r S1 h
/-- numbers -/
theorem i32_lt {a b : Int32} : a < b ↔ a.toInt < b.toInt := Int32.lt_iff_toInt_lt
theorem i32_le {a b : Int32} : a ≤ b ↔ a.toInt ≤ b.toInt := Int32.le_iff_toInt_le
theorem i32_eq {a b : Int32} : a = b ↔ a.toInt = b.toInt := Int32.toInt_inj.symm
theorem i32_0 : (0 : Int32).toInt = 0 := rfl
theorem i32_1 : (1 : Int32).toInt = 1 := rfl
theorem i32_2 : (2 : Int32).toInt = 2 := rfl
theorem i32_3 : (3 : Int32).toInt = 3 := rfl
theorem i32_4 : (4 : Int32).toInt = 4 := rfl
theorem i32_5 : (5 : Int32).toInt = 5 := rfl
theorem i32_6 : (6 : Int32).toInt = 6 := rfl
theorem i32_7 : (7 : Int32).toInt = 7 := rfl
theorem i32_8 : (8 : Int32).toInt = 8 := rfl
theorem i32_10 : (10 : Int32).toInt = 10 := rfl
theorem i32_12 : (12 : Int32).toInt = 12 := rfl
theorem i32_23 : (23 : Int32).toInt = 23 := rfl
theorem i32_24 : (24 : Int32).toInt = 24 := rfl
theorem i32_30 : (30 : Int32).toInt = 30 := rfl
theorem i32_31 : (31 : Int32).toInt = 31 := rfl
theorem i32_32 : (32 : Int32).toInt = 32 := rfl
theorem i32_39 : (39 : Int32).toInt = 39 := rfl
theorem i32_40 : (40 : Int32).toInt = 40 := rfl
theorem i32_41 : (41 : Int32).toInt = 41 := rfl
theorem i32_46 : (46 : Int32).toInt = 46 := rfl
theorem i32_47 : (47 : Int32).toInt = 47 := rfl
theorem i32_48 : (48 : Int32).toInt = 48 := rfl
theorem i32_96 : (96 : Int32).toInt = 96 := rfl
theorem i32_99 : (99 : Int32).toInt = 99 := rfl
theorem i32_100 : (100 : Int32).toInt = 100 := rfl
theorem i32_255 : (255 : Int32).toInt = 255 := rfl
theorem i32_999 : (999 : Int32).toInt = 999 := rfl
theorem i32_2024 : (2024 : Int32).toInt = 2024 := rfl
theorem i32_32767 : (32767 : Int32).toInt = 32767 := rfl
theorem i32_1000000 : (1000000 : Int32).toInt = 1000000 := rfl
theorem i32_m1 : (-1 : Int32).toInt = -1 := rfl
theorem i32_m2 : (-2 : Int32).toInt = -2 := rfl
theorem i32_m3 : (-3 : Int32).toInt = -3 := rfl
section
variable {P : List (Nat × mv_I)} {rt : Option FieldType} {Rn : Nat → List Value → mv_S → Option Value → mv_S → Prop} {nM sM : Nat} {r0 : Option Value} {S0 : mv_S} {V : Nat → mv_L → List Value → mv_S → Prop}
theorem mv_getJ (C : mv_Clo P rt Rn nM sM r0 S0 V) {pc nx a b n q : Nat} {v : Value} {ls : mv_L} {st : List Value} {z : mv_Z} {fs : List (Option Nat)} {x : Int32} (h : mv_at P pc = some (.getfield n, nx, a, b, v)) (hk : mv_lay[q]? = some (.inr (a, fs))) (hf : fs[b]? = some none) (hv : z.1 q b = x) (kk : V nx ls (.int x :: st) (mv_E z)) : V pc ls (.ref q :: st) (mv_E z) := by
  subst hv; exact mv_getI C h hk hf kk
theorem mv_aldJ (C : mv_Clo P rt Rn nM sM r0 S0 V) {pc nx a b q len j : Nat} {v : Value} {ls : mv_L} {st : List Value} {z : mv_Z} {x y : Int32} (h : mv_at P pc = some (.iaload, nx, a, b, v)) (hk : mv_lay[q]? = some (.inl (0, len))) (hx : x = nI j) (hj : j < len) (hv : z.1 q j = y) (kk : V nx ls (.int y :: st) (mv_E z)) : V pc ls (.int x :: .ref q :: st) (mv_E z) := by
  subst hv; exact mv_ald C h hk hx hj kk
theorem mv_zldJ (C : mv_Clo P rt Rn nM sM r0 S0 V) {pc nx a b q len j : Nat} {v : Value} {ls : mv_L} {st : List Value} {z : mv_Z} {x y : Int32} (h : mv_at P pc = some (.baload, nx, a, b, v)) (hk : mv_lay[q]? = some (.inl (1, len))) (hx : x = nI j) (hj : j < len) (hv : z.1 q j = y) (kk : V nx ls (.int y :: st) (mv_E z)) : V pc ls (.int x :: .ref q :: st) (mv_E z) := by
  subst hv; exact mv_zld C h hk hx hj kk
theorem mv_lldJ (C : mv_Clo P rt Rn nM sM r0 S0 V) {pc nx a b q len j : Nat} {v : Value} {ls : mv_L} {st : List Value} {z : mv_Z} {x : Int32} {y : Int64} (h : mv_at P pc = some (.laload, nx, a, b, v)) (hk : mv_lay[q]? = some (.inl (2, len))) (hx : x = nI j) (hj : j < len) (hv : z.2 q j = y) (kk : V nx ls (.long y :: st) (mv_E z)) : V pc ls (.int x :: .ref q :: st) (mv_E z) := by
  subst hv; exact mv_lld C h hk hx hj kk
/-- another word for what stands on the stack, and for the state -/
theorem mv_top {pc : Nat} {ls : mv_L} {st : List Value} {S : mv_S} {x y : Int32} (h : x = y) (kk : V pc ls (.int y :: st) S) : V pc ls (.int x :: st) S := by rw [h]; exact kk
theorem mv_topL {pc : Nat} {ls : mv_L} {st : List Value} {S : mv_S} {x y : Int64} (h : x = y) (kk : V pc ls (.long y :: st) S) : V pc ls (.long x :: st) S := by rw [h]; exact kk
theorem mv_nd {pc : Nat} {ls : mv_L} {st : List Value} {S : mv_S} {x y w : Int32} (h : x = y) (kk : V pc ls (.int w :: .int y :: st) S) : V pc ls (.int w :: .int x :: st) S := by rw [h]; exact kk
theorem mv_sto {pc : Nat} {ls : mv_L} {st : List Value} {z z1 : mv_Z} (h : z = z1) (kk : V pc ls st (mv_E z1)) : V pc ls st (mv_E z) := by rw [h]; exact kk
end
theorem b01 {c : Prop} [Decidable c] : (if c then (1 : Int32) else 0) = 0 ↔ ¬ c := by by_cases h : c <;> simp [h]
theorem b10 {c : Prop} [Decidable c] : ¬ (if c then (1 : Int32) else 0) = 0 ↔ c := by by_cases h : c <;> simp [h]
theorem nI_nn {x : Int32} (h : 0 ≤ x) : x = nI x.toNatClampNeg := by
  obtain ⟨j, hj, rfl⟩ := nI_of (x := x) (by intro q; rw [i32_lt] at q; rw [i32_le] at h; omega)
  rw [nI_clamp hj]
/-- an int that is no less than 0 and less than n -/
theorem nI_rng {x : Int32} {n : Nat} (h : 0 ≤ x) (h1 : x < nI n) (hn : n < 2 ^ 31) : ∃ j, j < n ∧ x = nI j := by
  obtain ⟨j, hj, rfl⟩ := nI_of (x := x) (by intro q; rw [i32_lt] at q; rw [i32_le] at h; omega)
  exact ⟨j, (nI_ltI hj hn).mp h1, rfl⟩
theorem nI_rngc {x : Int32} {n : Nat} (h : 0 ≤ x) (h1 : x < nI n) (hn : n < 2 ^ 31) : x.toNatClampNeg < n ∧ x = nI x.toNatClampNeg := by
  obtain ⟨j, hj, rfl⟩ := nI_rng h h1 hn
  rw [nI_clamp (by omega)]; exact ⟨hj, rfl⟩
theorem nlit (n : Nat) : (OfNat.ofNat n : Int32) = nI n := rfl
theorem lit_0 : (0 : Int32) = nI 0 := rfl
theorem unl_0 : nI 0 = (0 : Int32) := rfl
theorem lit_1 : (1 : Int32) = nI 1 := rfl
theorem unl_1 : nI 1 = (1 : Int32) := rfl
theorem lit_2 : (2 : Int32) = nI 2 := rfl
theorem unl_2 : nI 2 = (2 : Int32) := rfl
theorem lit_3 : (3 : Int32) = nI 3 := rfl
theorem unl_3 : nI 3 = (3 : Int32) := rfl
theorem lit_4 : (4 : Int32) = nI 4 := rfl
theorem unl_4 : nI 4 = (4 : Int32) := rfl
theorem lit_5 : (5 : Int32) = nI 5 := rfl
theorem unl_5 : nI 5 = (5 : Int32) := rfl
theorem lit_6 : (6 : Int32) = nI 6 := rfl
theorem unl_6 : nI 6 = (6 : Int32) := rfl
theorem lit_7 : (7 : Int32) = nI 7 := rfl
theorem unl_7 : nI 7 = (7 : Int32) := rfl
theorem lit_8 : (8 : Int32) = nI 8 := rfl
theorem unl_8 : nI 8 = (8 : Int32) := rfl
theorem lit_9 : (9 : Int32) = nI 9 := rfl
theorem unl_9 : nI 9 = (9 : Int32) := rfl
theorem lit_10 : (10 : Int32) = nI 10 := rfl
theorem unl_10 : nI 10 = (10 : Int32) := rfl
theorem lit_11 : (11 : Int32) = nI 11 := rfl
theorem unl_11 : nI 11 = (11 : Int32) := rfl
theorem lit_12 : (12 : Int32) = nI 12 := rfl
theorem unl_12 : nI 12 = (12 : Int32) := rfl
theorem lit_23 : (23 : Int32) = nI 23 := rfl
theorem unl_23 : nI 23 = (23 : Int32) := rfl
theorem lit_24 : (24 : Int32) = nI 24 := rfl
theorem unl_24 : nI 24 = (24 : Int32) := rfl
theorem lit_30 : (30 : Int32) = nI 30 := rfl
theorem unl_30 : nI 30 = (30 : Int32) := rfl
theorem lit_31 : (31 : Int32) = nI 31 := rfl
theorem unl_31 : nI 31 = (31 : Int32) := rfl
theorem lit_32 : (32 : Int32) = nI 32 := rfl
theorem unl_32 : nI 32 = (32 : Int32) := rfl
theorem lit_39 : (39 : Int32) = nI 39 := rfl
theorem unl_39 : nI 39 = (39 : Int32) := rfl
theorem lit_40 : (40 : Int32) = nI 40 := rfl
theorem unl_40 : nI 40 = (40 : Int32) := rfl
theorem lit_41 : (41 : Int32) = nI 41 := rfl
theorem unl_41 : nI 41 = (41 : Int32) := rfl
theorem lit_46 : (46 : Int32) = nI 46 := rfl
theorem unl_46 : nI 46 = (46 : Int32) := rfl
theorem lit_47 : (47 : Int32) = nI 47 := rfl
theorem unl_47 : nI 47 = (47 : Int32) := rfl
theorem lit_48 : (48 : Int32) = nI 48 := rfl
theorem unl_48 : nI 48 = (48 : Int32) := rfl
theorem lit_96 : (96 : Int32) = nI 96 := rfl
theorem unl_96 : nI 96 = (96 : Int32) := rfl
theorem lit_99 : (99 : Int32) = nI 99 := rfl
theorem unl_99 : nI 99 = (99 : Int32) := rfl
theorem lit_100 : (100 : Int32) = nI 100 := rfl
theorem unl_100 : nI 100 = (100 : Int32) := rfl
theorem lit_255 : (255 : Int32) = nI 255 := rfl
theorem unl_255 : nI 255 = (255 : Int32) := rfl
theorem lit_999 : (999 : Int32) = nI 999 := rfl
theorem unl_999 : nI 999 = (999 : Int32) := rfl
theorem lit_1000 : (1000 : Int32) = nI 1000 := rfl
theorem unl_1000 : nI 1000 = (1000 : Int32) := rfl
theorem lit_2024 : (2024 : Int32) = nI 2024 := rfl
theorem unl_2024 : nI 2024 = (2024 : Int32) := rfl
theorem lit_32767 : (32767 : Int32) = nI 32767 := rfl
theorem unl_32767 : nI 32767 = (32767 : Int32) := rfl
theorem lit_1000000 : (1000000 : Int32) = nI 1000000 := rfl
theorem unl_1000000 : nI 1000000 = (1000000 : Int32) := rfl
theorem nI_nm1 {n : Nat} (hn : n < 2 ^ 31) : ¬ nI n = -1 := by rw [i32_eq, nI_toInt hn, i32_m1]; omega

theorem mv_le_rf (l : mv_L) : mv_le l l := ⟨rfl, fun _ _ h => h⟩
theorem mv_le_c {a : Option Value} {l1 l : mv_L} (h : mv_le l1 l) : mv_le (a :: l1) (a :: l) := ⟨by simp [h.1], fun i v hi => by
  cases i with
  | zero => simpa using hi
  | succ j => simpa using h.2 j v (by simpa using hi)⟩
theorem mv_le_n {a : Option Value} {l1 l : mv_L} (h : mv_le l1 l) : mv_le (none :: l1) (a :: l) := ⟨by simp [h.1], fun i v hi => by
  cases i with
  | zero => simp at hi
  | succ j => simpa using h.2 j v (by simpa using hi)⟩
theorem mv_le3 (a b c d : Option Value) : mv_le [a, b, c, none] [a, b, c, d] := mv_le_c (mv_le_c (mv_le_c (mv_le_n (mv_le_rf _))))
end
section
/-! THE MATHEMATICAL STATE: numbers by key and place.
0 parishes, 1 county, 2 roads, 3 from, 4 to, 5 hours, 6 shut, 7 exit, 8 start (0 none), 9 facts, 10 kind, 11 of, 12 hour, 13 struck, 14 value (0 none), 15 blur, 16 persons, 17 home, 18 number (6 p + k), 19 tape size, 20 sign, 21 acts, 22 asks, 23 letter (10 a + k), 24 comparison, 25 number, 26 weight, 27 claims, 28 claim's parish, 29 claim's hour, 30 rows, 31 row -/
abbrev hM : Type := Nat → Nat → Nat
def hu (u : hM) (k i c : Nat) : hM := fun k1 i1 => if k1 = k ∧ i1 = i then c else u k1 i1
theorem hu_self {u : hM} {k i c : Nat} : hu u k i c k i = c := by simp [hu]
theorem hu_key {u : hM} {k i c k1 : Nat} (h : k1 ≠ k) : hu u k i c k1 = u k1 := by funext i1; simp [hu, h]
theorem hu_ix {u : hM} {k i c i1 : Nat} (h : i1 ≠ i) : hu u k i c k i1 = u k i1 := by simp [hu, h]
def hst : Nat → Int32
  | 0 => -1
  | s + 1 => nI s
def tX : List (Nat × Nat) := [(4, 1), (6, 3), (7, 4), (8, 5), (9, 6), (11, 10), (12, 11), (13, 12), (14, 13), (24, 15), (25, 17), (28, 20), (32, 29)]
def sX : List (Nat × Nat × Nat) := [(3, 6, 0), (3, 7, 2), (10, 4, 9), (21, 3, 16), (27, 1, 19), (29, 4, 21), (29, 5, 27), (66, 1, 30)]
def tM : List (Nat × Nat) := [(69, 1), (70, 7), (71, 3), (72, 4), (73, 5), (74, 6), (76, 10), (77, 11), (78, 12), (79, 13), (85, 15), (86, 17), (87, 18), (88, 20), (94, 28), (95, 29)]
def sM : List (Nat × Nat × Nat) := [(68, 1, 0), (68, 4, 2), (68, 11, 9), (68, 23, 16), (68, 27, 19), (68, 28, 21), (68, 36, 27), (68, 18, 30)]
/-- the plain part of a side -/
def rT (T : List (Nat × Nat)) (Sc : List (Nat × Nat × Nat)) (u : hM) (z : mv_Z) : Prop := (∀ q ∈ T, z.1 q.1 = fun i => nI (u q.2 i)) ∧ ∀ q ∈ Sc, z.1 q.1 q.2.1 = nI (u q.2.2 0)
/-- the tables are one to one -/
def rOk (T : List (Nat × Nat)) (Sc : List (Nat × Nat × Nat)) : Bool := T.all (fun a => T.all (fun b => (a.1 == b.1) == (a.2 == b.2)) && Sc.all (fun b => a.1 != b.1 && a.2 != b.2.2)) && Sc.all (fun a => Sc.all (fun b => (a.1 == b.1 && a.2.1 == b.2.1) == (a.2.2 == b.2.2)))
theorem rOkX : rOk tX sX = true := by decide +kernel
theorem rOkM : rOk tM sM = true := by decide +kernel
theorem rT_arr {T : List (Nat × Nat)} {Sc : List (Nat × Nat × Nat)} (ok : rOk T Sc = true) {u : hM} {z : mv_Z} (h : rT T Sc u z) {cell key : Nat} (hc : (cell, key) ∈ T) (i c : Nat) : rT T Sc (hu u key i c) (mv_u z cell i (nI c)) := by
  simp only [rOk, Bool.and_eq_true, List.all_eq_true] at ok
  refine ⟨fun q hq => ?_, fun q hq => ?_⟩
  · have hk := (ok.1 _ hc).1 q hq
    by_cases e : q.1 = cell
    · have e2 : q.2 = key := by simp [e] at hk; exact hk.symm
      rw [e, e2]
      funext j
      have := h.1 _ hc
      simp only [mv_u, va_up, upd, if_true]
      by_cases hj : j = i
      · subst hj; simp [hu]
      · simp only [hj, if_false, hu, and_false]
        rw [this]
    · have e2 : q.2 ≠ key := by
        intro e2
        have e3 : ¬ cell = q.1 := fun e4 => e e4.symm
        simp [e2, e3] at hk
      rw [hu_key e2]
      simp only [mv_u, va_up, e, if_false]
      exact h.1 q hq
  · have hk := (ok.1 _ hc).2 q hq
    simp only [Bool.and_eq_true, bne_iff_ne, ne_eq] at hk
    have e : ¬ q.1 = cell := fun e => hk.1 e.symm
    have e2 : q.2.2 ≠ key := fun e => hk.2 e.symm
    rw [hu_key e2]
    simp only [mv_u, va_up, e, if_false]
    exact h.2 q hq
theorem rT_sc {T : List (Nat × Nat)} {Sc : List (Nat × Nat × Nat)} (ok : rOk T Sc = true) {u : hM} {z : mv_Z} (h : rT T Sc u z) {cell slot key : Nat} (hc : (cell, slot, key) ∈ Sc) (c : Nat) : rT T Sc (hu u key 0 c) (mv_u z cell slot (nI c)) := by
  simp only [rOk, Bool.and_eq_true, List.all_eq_true] at ok
  refine ⟨fun q hq => ?_, fun q hq => ?_⟩
  · have hk := (ok.1 q hq).2 _ hc
    simp only [Bool.and_eq_true, bne_iff_ne, ne_eq] at hk
    rw [hu_key hk.2]
    simp only [mv_u, va_up, hk.1, if_false]
    exact h.1 q hq
  · have hk := ok.2 _ hc q hq
    by_cases e : q.1 = cell
    · by_cases e1 : q.2.1 = slot
      · have e2 : q.2.2 = key := by simp [e, e1] at hk; exact hk.symm
        rw [e, e1, e2]
        simp [mv_u, va_up, upd, hu]
      · have e2 : q.2.2 ≠ key := by
          intro e2
          have e3 : ¬ slot = q.2.1 := fun e4 => e1 e4.symm
          simp [e2, e3] at hk
        rw [hu_key e2, e]
        simp only [mv_u, va_up, upd, if_true, e1, if_false]
        rw [← e]; exact h.2 q hq
    · have e2 : q.2.2 ≠ key := by
        intro e2
        have e3 : ¬ cell = q.1 := fun e4 => e e4.symm
        simp [e2, e3] at hk
      rw [hu_key e2]
      simp only [mv_u, va_up, e, if_false]
      exact h.2 q hq
/-- what isn't of the side's plain part may change -/
theorem rT_out {T : List (Nat × Nat)} {Sc : List (Nat × Nat × Nat)} {u : hM} {z : mv_Z} (h : rT T Sc u z) (cell i : Nat) (x : Int32) (h1 : ∀ q ∈ T, q.1 ≠ cell) (h2 : ∀ q ∈ Sc, ¬ (q.1 = cell ∧ q.2.1 = i)) : rT T Sc u (mv_u z cell i x) := by
  refine ⟨fun q hq => ?_, fun q hq => ?_⟩
  · simp only [mv_u, va_up, h1 q hq, if_false]; exact h.1 q hq
  · simp only [mv_u, va_up]
    by_cases e : q.1 = cell
    · have := h2 q hq
      have e1 : ¬ q.2.1 = i := fun e1 => this ⟨e, e1⟩
      simp only [e, if_true, upd, e1, if_false]
      rw [← e]; exact h.2 q hq
    · simp only [e, if_false]; exact h.2 q hq
theorem rT_keys {T : List (Nat × Nat)} {Sc : List (Nat × Nat × Nat)} {u u1 : hM} {z : mv_Z} (h : rT T Sc u z) (h1 : ∀ q ∈ T, u1 q.2 = u q.2) (h2 : ∀ q ∈ Sc, u1 q.2.2 0 = u q.2.2 0) : rT T Sc u1 z := ⟨fun q hq => by rw [h1 q hq]; exact h.1 q hq, fun q hq => by rw [h2 q hq]; exact h.2 q hq⟩
/-- bits of an int -/
def hbit (x : Int32) (i : Nat) : Bool := x.toBitVec.getLsbD i
/-- the class' side -/
def rX (u : hM) (z : mv_Z) : Prop := rT tX sX u z ∧ (∀ p, p < 32 → hbit (z.1 3 8) p = (decide (p < 24) && decide (u 7 p = 1))) ∧ z.1 3 9 = hst (u 8 0) ∧ (z.1 23 = fun k => hst (u 14 k)) ∧ (∀ p, p < 30 → z.1 26 p = nI (u 18 (6 * p) * 33554432 + u 18 (6 * p + 1) * 1048576 + u 18 (6 * p + 2) * 32768 + u 18 (6 * p + 3) * 1024 + u 18 (6 * p + 4) * 32 + u 18 (6 * p + 5))) ∧ (∀ a, a < u 21 0 → z.1 (34 + 4 * a) 3 = nI (u 22 a) ∧ z.1 (34 + 4 * a) 4 = nI (u 26 a) ∧ ∀ k, k < u 22 a → z.1 (35 + 4 * a) k = nI (u 23 (10 * a + k)) ∧ z.1 (36 + 4 * a) k = nI (u 24 (10 * a + k)) ∧ z.1 (37 + 4 * a) k = nI (u 25 (10 * a + k))) ∧ (∀ c, c < u 27 0 → z.1 31 c = nI (u 1 (u 28 c))) ∧ (∀ i, i < u 30 0 → z.1 67 i = nI (u 31 i))
/-- the reference's side -/
def rM (u : hM) (z : mv_Z) : Prop := rT tM sM u z ∧ z.1 68 9 = hst (u 8 0) ∧ (z.1 84 = fun k => hst (u 14 k)) ∧ (∀ a, a < u 21 0 → z.1 89 a = nI (u 22 a) ∧ z.1 93 a = nI (u 26 a) ∧ ∀ k, k < u 22 a → z.1 90 (10 * a + k) = nI (u 23 (10 * a + k)) ∧ z.1 91 (10 * a + k) = nI (u 24 (10 * a + k)) ∧ z.1 92 (10 * a + k) = nI (u 25 (10 * a + k))) ∧ (∀ i, i < u 30 0 → z.1 82 i = nI (u 31 i))
/-- what holds of the numbers -/
def hI (u : hM) : Prop := u 0 0 ≤ 24 ∧ (∀ p, u 1 p < 6) ∧ u 2 0 ≤ 40 ∧ (∀ r, r < u 2 0 → u 3 r < u 0 0 ∧ u 4 r < u 0 0 ∧ u 3 r ≠ u 4 r ∧ 1 ≤ u 5 r ∧ u 5 r ≤ 12) ∧ (∀ r, u 6 r ≤ 1) ∧ (∀ p, u 7 p ≤ 1 ∧ (u 0 0 ≤ p → u 7 p = 0)) ∧ u 8 0 ≤ u 0 0 ∧ u 9 0 ≤ 40 ∧ (∀ f, f < u 9 0 → u 10 f ≤ 2 ∧ u 12 f < 48 ∧ (u 10 f < 2 → u 11 f < u 0 0) ∧ (u 10 f = 2 → u 11 f < u 2 0)) ∧ (∀ f, u 13 f ≤ 1 ∧ (u 9 0 ≤ f → u 13 f = 0)) ∧ (∀ k, u 14 k ≤ 32 ∧ u 15 k ≤ 31) ∧ u 16 0 ≤ 30 ∧ (∀ p, p < u 16 0 → u 17 p < u 0 0) ∧ (∀ k, u 18 k < 32) ∧ u 19 0 ≤ 100 ∧ (∀ i, u 20 i < 256) ∧ u 21 0 ≤ 8 ∧ (∀ a, a < u 21 0 → u 22 a ≤ 10 ∧ u 26 a ≤ 999) ∧ u 27 0 ≤ 12 ∧ (∀ c, c < u 27 0 → u 28 c < u 0 0 ∧ u 29 c < 48) ∧ u 30 0 ≤ 48 ∧ ∀ i, u 23 i < 256 ∧ u 24 i < 256 ∧ u 25 i ≤ 999 ∧ u 31 i ≤ 1000000
/-- nothing of the other side has changed -/
def fX (z z1 : mv_Z) : Prop := ∀ k, 68 ≤ k → z1.1 k = z.1 k ∧ z1.2 k = z.2 k
def fM (z z1 : mv_Z) : Prop := ∀ k, k < 68 → z1.1 k = z.1 k ∧ z1.2 k = z.2 k
theorem rM_frame {u : hM} {z z1 : mv_Z} (h : rM u z) (hf : fX z z1) : rM u z1 := by
  obtain ⟨⟨h1, h2⟩, h3, h4, h5, h6⟩ := h
  have e : ∀ k, 68 ≤ k → z1.1 k = z.1 k := fun k hk => (hf k hk).1
  refine ⟨⟨fun q hq => ?_, fun q hq => ?_⟩, ?_, ?_, ?_, ?_⟩
  · rw [e]; exact h1 q hq; revert q; decide
  · rw [e]; exact h2 q hq; revert q; decide
  · rw [e 68 (by decide)]; exact h3
  · rw [e 84 (by decide)]; exact h4
  · intro a ha; rw [e 89 (by decide), e 93 (by decide), e 90 (by decide), e 91 (by decide), e 92 (by decide)]; exact h5 a ha
  · rw [e 82 (by decide)]; exact h6
theorem rX_frame {u : hM} {z z1 : mv_Z} (h : rX u z) (hu : u 21 0 ≤ 8) (hf : fM z z1) : rX u z1 := by
  obtain ⟨⟨h1, h2⟩, h3, h4, h5, h6, h7, h8, h9⟩ := h
  have e : ∀ k, k < 68 → z1.1 k = z.1 k := fun k hk => (hf k hk).1
  refine ⟨⟨fun q hq => ?_, fun q hq => ?_⟩, ?_, ?_, ?_, ?_, ?_, ?_, ?_⟩
  · rw [e]; exact h1 q hq; revert q; decide
  · rw [e]; exact h2 q hq; revert q; decide
  · rw [e 3 (by decide)]; exact h3
  · rw [e 3 (by decide)]; exact h4
  · rw [e 23 (by decide)]; exact h5
  · rw [e 26 (by decide)]; exact h6
  · intro a ha; rw [e (34 + 4 * a) (by omega), e (35 + 4 * a) (by omega), e (36 + 4 * a) (by omega), e (37 + 4 * a) (by omega)]; exact h7 a ha
  · rw [e 31 (by decide)]; exact h8
  · rw [e 67 (by decide)]; exact h9
theorem fX_rf {z : mv_Z} : fX z z := fun _ _ => ⟨rfl, rfl⟩
theorem fX_u {z z1 : mv_Z} (h : fX z z1) {k i : Nat} {x : Int32} (hk : k < 68) : fX z (mv_u z1 k i x) := fun q hq => by
  have : ¬ q = k := by omega
  simp only [mv_u, va_up, this, if_false]; exact h q hq
theorem fX_uL {z z1 : mv_Z} (h : fX z z1) {k i : Nat} {x : Int64} (hk : k < 68) : fX z (mv_uL z1 k i x) := fun q hq => by
  have : ¬ q = k := by omega
  simp only [mv_uL, va_up, this, if_false]; exact h q hq
theorem fX_tr {z z1 z2 : mv_Z} (h : fX z z1) (h2 : fX z1 z2) : fX z z2 := fun k hk => ⟨(h2 k hk).1.trans (h k hk).1, (h2 k hk).2.trans (h k hk).2⟩
theorem fM_rf {z : mv_Z} : fM z z := fun _ _ => ⟨rfl, rfl⟩
theorem fM_u {z z1 : mv_Z} (h : fM z z1) {k i : Nat} {x : Int32} (hk : 68 ≤ k) : fM z (mv_u z1 k i x) := fun q hq => by
  have : ¬ q = k := by omega
  simp only [mv_u, va_up, this, if_false]; exact h q hq
theorem fM_tr {z z1 z2 : mv_Z} (h : fM z z1) (h2 : fM z1 z2) : fM z z2 := fun k hk => ⟨(h2 k hk).1.trans (h k hk).1, (h2 k hk).2.trans (h k hk).2⟩
theorem hst_m1 {s : Nat} (hs : s < 2 ^ 31) : hst s = -1 ↔ s = 0 := by
  cases s with
  | zero => simp [hst]
  | succ n => simp only [hst]; exact ⟨fun h => absurd h (nI_nm1 (by omega)), fun h => by omega⟩
end
section
theorem hb_ext {x y : Int32} (h : ∀ i, i < 32 → hbit x i = hbit y i) : x = y := Int32.toBitVec_inj.mp (BitVec.eq_of_getLsbD_eq (fun i hi => h i hi))
theorem hb_or (x y : Int32) (i : Nat) : hbit (x ||| y) i = (hbit x i || hbit y i) := by unfold hbit; rw [Int32.toBitVec_or, BitVec.getLsbD_or]
theorem hb_and (x y : Int32) (i : Nat) : hbit (x &&& y) i = (hbit x i && hbit y i) := by unfold hbit; rw [Int32.toBitVec_and, BitVec.getLsbD_and]
theorem hb_xor (x y : Int32) (i : Nat) : hbit (x ^^^ y) i = (hbit x i ^^ hbit y i) := by unfold hbit; rw [Int32.toBitVec_xor, BitVec.getLsbD_xor]
theorem hb_big {x : Int32} {i : Nat} (h : 32 ≤ i) : hbit x i = false := BitVec.getLsbD_of_ge _ _ h
theorem hb_255 (i : Nat) : hbit 255 i = decide (i < 8) := by
  rcases Nat.lt_or_ge i 32 with h | h
  · exact (by decide +kernel : ∀ i, i < 32 → hbit 255 i = decide (i < 8)) i h
  · rw [hb_big h, decide_eq_false (by omega)]
theorem hb_65535 (i : Nat) : hbit 65535 i = decide (i < 16) := by
  rcases Nat.lt_or_ge i 32 with h | h
  · exact (by decide +kernel : ∀ i, i < 32 → hbit 65535 i = decide (i < 16)) i h
  · rw [hb_big h, decide_eq_false (by omega)]
theorem hb_m1 : ∀ i, i < 32 → hbit (-1) i = true := by decide +kernel
theorem hb_0 (i : Nat) : hbit 0 i = false := BitVec.getLsbD_zero
theorem s_l : ∀ n, n < 32 → ((nI n &&& 31).toBitVec.smod 32).toNat = n := by decide +kernel
theorem s_u : ∀ n, n < 32 → (((nI n).toUInt32 &&& Int32.toUInt32 31).toBitVec % 32).toNat = n := by decide +kernel
theorem hb_shl (n : Nat) (hn : n < 32) (x : Int32) {i : Nat} (hi : i < 32) : hbit (x <<< (nI n &&& 31)) i = (decide (n ≤ i) && hbit x (i - n)) := by
  unfold hbit
  rw [Int32.toBitVec_shiftLeft]
  show (x.toBitVec <<< ((nI n &&& 31).toBitVec.smod 32).toNat).getLsbD i = _
  rw [s_l n hn, BitVec.getLsbD_shiftLeft]
  rcases Nat.lt_or_ge i n with h | h
  · simp [h, Nat.not_le.mpr h]
  · simp [hi, h, Nat.not_lt.mpr h]
theorem hb_ushr (n : Nat) (hn : n < 32) (x : Int32) (i : Nat) : hbit ((x.toUInt32 >>> ((nI n).toUInt32 &&& Int32.toUInt32 31)).toInt32) i = hbit x (n + i) := by
  show (x.toUInt32 >>> ((nI n).toUInt32 &&& Int32.toUInt32 31)).toBitVec.getLsbD i = x.toUInt32.toBitVec.getLsbD (n + i)
  rw [UInt32.toBitVec_shiftRight]
  show (x.toUInt32.toBitVec >>> (((nI n).toUInt32 &&& Int32.toUInt32 31).toBitVec % 32).toNat).getLsbD i = _
  rw [s_u n hn, BitVec.getLsbD_ushiftRight]
theorem hb_sshr (n : Nat) (hn : n < 32) (x : Int32) {i : Nat} (hi : i < 32) : hbit (x >>> (nI n &&& 31)) i = if n + i < 32 then hbit x (n + i) else hbit x 31 := by
  unfold hbit
  rw [Int32.toBitVec_shiftRight]
  show (x.toBitVec.sshiftRight ((nI n &&& 31).toBitVec.smod 32).toNat).getLsbD i = _
  rw [s_l n hn, BitVec.getLsbD_sshiftRight, BitVec.msb_eq_getLsbD_last]
  simp [hi]
theorem hb_shl8 (x : Int32) {i : Nat} (hi : i < 32) : hbit (x <<< ((8 : Int32) &&& 31)) i = (decide (8 ≤ i) && hbit x (i - 8)) := hb_shl 8 (by omega) x hi
theorem hb_shl16 (x : Int32) {i : Nat} (hi : i < 32) : hbit (x <<< ((16 : Int32) &&& 31)) i = (decide (16 ≤ i) && hbit x (i - 16)) := hb_shl 16 (by omega) x hi
theorem hb_shl24 (x : Int32) {i : Nat} (hi : i < 32) : hbit (x <<< ((24 : Int32) &&& 31)) i = (decide (24 ≤ i) && hbit x (i - 24)) := hb_shl 24 (by omega) x hi
theorem hb_sshr8 (x : Int32) {i : Nat} (hi : i < 32) : hbit (x >>> ((8 : Int32) &&& 31)) i = if 8 + i < 32 then hbit x (8 + i) else hbit x 31 := hb_sshr 8 (by omega) x hi

theorem hb_1 : ∀ i, i < 32 → hbit 1 i = decide (i = 0) := by decide +kernel
/-- one bit -/
theorem hb_bit {p i : Nat} (hp : p < 32) (hi : i < 32) : hbit (1 <<< (nI p &&& 31)) i = decide (i = p) := by
  rw [hb_shl p hp 1 hi]
  by_cases h : p ≤ i
  · rw [hb_1 _ (by omega)]
    by_cases e : i = p
    · subst e; simp
    · have : ¬ i - p = 0 := by omega
      simp [h, e, this]
  · have e : ¬ i = p := by omega
    simp [h, e]
theorem hb_not (x : Int32) {i : Nat} (hi : i < 32) : hbit (x ^^^ (-1)) i = !hbit x i := by rw [hb_xor, hb_m1 i hi]; simp
theorem hb_has {x : Int32} {p : Nat} (hp : p < 32) : (x >>> (nI p &&& 31)) &&& 1 = 0 ↔ hbit x p = false := by
  constructor
  · intro h
    have h1 : hbit ((x >>> (nI p &&& 31)) &&& 1) 0 = false := by rw [h, hb_0]
    rw [hb_and, hb_sshr p hp x (by decide), hb_1 0 (by decide)] at h1
    simpa [hp] using h1
  · intro h
    apply hb_ext
    intro i hi
    rw [hb_and, hb_1 i hi, hb_0]
    by_cases e : i = 0
    · subst e
      rw [hb_sshr p hp x (by decide)]
      simp [hp, h]
    · simp [e]
theorem hb_ne0 {x : Int32} : ¬ x = 0 ↔ ∃ i, i < 32 ∧ hbit x i = true := by
  constructor
  · intro h
    by_cases h1 : ∃ i, i < 32 ∧ hbit x i = true
    · exact h1
    · exact absurd (hb_ext (fun i hi => by rw [hb_0]; cases e : hbit x i with | false => rfl | true => exact absurd ⟨i, hi, e⟩ h1)) h
  · rintro ⟨i, hi, h⟩ rfl
    rw [hb_0] at h; cases h
theorem fa_and (a b : Nat) : nI a &&& nI b = nI (a &&& b) := by
  apply Int32.toBitVec_inj.1
  show BitVec.ofNat 32 a &&& BitVec.ofNat 32 b = BitVec.ofNat 32 (a &&& b)
  apply BitVec.eq_of_getLsbD_eq
  intro i hi
  simp [hi]
theorem fa_or (a b : Nat) : nI a ||| nI b = nI (a ||| b) := by
  apply Int32.toBitVec_inj.1
  show BitVec.ofNat 32 a ||| BitVec.ofNat 32 b = BitVec.ofNat 32 (a ||| b)
  apply BitVec.eq_of_getLsbD_eq
  intro i hi
  simp [hi]
/-- a remainder by a power of two, as a mask -/
theorem fa_mask (n k : Nat) : nI n &&& nI (2 ^ k - 1) = nI (n % 2 ^ k) := by rw [fa_and, Nat.and_two_pow_sub_one_eq_mod]
/-- 'or' of a high part and a low one that don't meet is their sum -/
theorem fa_or_sum {a k : Nat} (b : Nat) (h : a < 2 ^ k) : nI (2 ^ k * b) ||| nI a = nI (2 ^ k * b + a) := by rw [fa_or, Nat.two_pow_add_eq_or_of_lt h]

theorem nI_shr {n t : Nat} (h : n < 2 ^ 31) (ht : t < 32) : nI n >>> (nI t &&& 31) = nI (n / 2 ^ t) := pk_shrN h _ t (s_l t ht)
theorem nI_and31 {n : Nat} (h : n < 2 ^ 32) : nI n &&& 31 = nI (n % 32) := pk_andN h 5 (by decide)
theorem nI_and255 {n : Nat} (h : n < 2 ^ 32) : nI n &&& 255 = nI (n % 256) := pk_andN h 8 (by decide)
theorem nI_shl15 {n : Nat} (h : n < 32768) : nI n <<< ((15 : Int32) &&& 31) = nI (32768 * n) := by
  have := pk_shlN (n := n) ((15 : Int32) &&& 31) 15 (by decide) (by omega)
  rw [this, Nat.mul_comm]
end
section
section
theorem r_isHour (z : mv_Z) (h : Int32) : mv_Runs 1 106 [.int h] (mv_E z) (some (.int (if 0 ≤ h ∧ h < 48 then 1 else 0))) (mv_E z) := by
  refine mv_start pX10_isHour (some .boolean) [some (.int h)] rfl rfl rfl rfl (fun V C => ?_)
  refine mv_iload_n C rfl rfl ?_
  refine mv_if_lt C rfl (fun c1 => ?_) (fun c1 => ?_)
  · refine mv_iconst C rfl ?_
    refine mv_ireturn C rfl (by first | exact mv_okZ1 | exact mv_okZ0) ?_ ?_
    all_goals first | rfl | (simp only [Option.some.injEq, Value.int.injEq]; first | rfl | (try simp (disch := omega) only [i32_lt, i32_le, i32_eq, nI_toInt, i32_0, i32_1, i32_2, i32_3, i32_4, i32_5, i32_6, i32_7, i32_8, i32_10, i32_12, i32_23, i32_24, i32_30, i32_31, i32_32, i32_39, i32_40, i32_41, i32_46, i32_47, i32_48, i32_96, i32_99, i32_100, i32_255, i32_999, i32_2024, i32_32767, i32_1000000, i32_m1, i32_m2, i32_m3] at *; (repeat' split) <;> first | rfl | (exfalso; omega) | omega))
  · refine mv_iload_n C rfl rfl ?_
    refine mv_bipush C rfl ?_
    refine mv_icmp_ge C rfl (fun c7 => ?_) (fun c7 => ?_)
    · refine mv_iconst C rfl ?_
      refine mv_ireturn C rfl (by first | exact mv_okZ1 | exact mv_okZ0) ?_ ?_
      all_goals first | rfl | (simp only [Option.some.injEq, Value.int.injEq]; first | rfl | (try simp (disch := omega) only [i32_lt, i32_le, i32_eq, nI_toInt, i32_0, i32_1, i32_2, i32_3, i32_4, i32_5, i32_6, i32_7, i32_8, i32_10, i32_12, i32_23, i32_24, i32_30, i32_31, i32_32, i32_39, i32_40, i32_41, i32_46, i32_47, i32_48, i32_96, i32_99, i32_100, i32_255, i32_999, i32_2024, i32_32767, i32_1000000, i32_m1, i32_m2, i32_m3] at *; (repeat' split) <;> first | rfl | (exfalso; omega) | omega))
    · refine mv_iconst C rfl ?_
      refine mv_goto C rfl ?_
      refine mv_ireturn C rfl (by first | exact mv_okZ1 | exact mv_okZ0) ?_ ?_
      all_goals first | rfl | (simp only [Option.some.injEq, Value.int.injEq]; first | rfl | (try simp (disch := omega) only [i32_lt, i32_le, i32_eq, nI_toInt, i32_0, i32_1, i32_2, i32_3, i32_4, i32_5, i32_6, i32_7, i32_8, i32_10, i32_12, i32_23, i32_24, i32_30, i32_31, i32_32, i32_39, i32_40, i32_41, i32_46, i32_47, i32_48, i32_96, i32_99, i32_100, i32_255, i32_999, i32_2024, i32_32767, i32_1000000, i32_m1, i32_m2, i32_m3] at *; (repeat' split) <;> first | rfl | (exfalso; omega) | omega))
theorem r_isCounty (z : mv_Z) (h : Int32) : mv_Runs 1 107 [.int h] (mv_E z) (some (.int (if 0 ≤ h ∧ h < 6 then 1 else 0))) (mv_E z) := by
  refine mv_start pX10_isCounty (some .boolean) [some (.int h)] rfl rfl rfl rfl (fun V C => ?_)
  refine mv_iload_n C rfl rfl ?_
  refine mv_if_lt C rfl (fun c1 => ?_) (fun c1 => ?_)
  · refine mv_iconst C rfl ?_
    refine mv_ireturn C rfl (by first | exact mv_okZ1 | exact mv_okZ0) ?_ ?_
    all_goals first | rfl | (simp only [Option.some.injEq, Value.int.injEq]; first | rfl | (try simp (disch := omega) only [i32_lt, i32_le, i32_eq, nI_toInt, i32_0, i32_1, i32_2, i32_3, i32_4, i32_5, i32_6, i32_7, i32_8, i32_10, i32_12, i32_23, i32_24, i32_30, i32_31, i32_32, i32_39, i32_40, i32_41, i32_46, i32_47, i32_48, i32_96, i32_99, i32_100, i32_255, i32_999, i32_2024, i32_32767, i32_1000000, i32_m1, i32_m2, i32_m3] at *; (repeat' split) <;> first | rfl | (exfalso; omega) | omega))
  · refine mv_iload_n C rfl rfl ?_
    refine mv_bipush C rfl ?_
    refine mv_icmp_ge C rfl (fun c7 => ?_) (fun c7 => ?_)
    · refine mv_iconst C rfl ?_
      refine mv_ireturn C rfl (by first | exact mv_okZ1 | exact mv_okZ0) ?_ ?_
      all_goals first | rfl | (simp only [Option.some.injEq, Value.int.injEq]; first | rfl | (try simp (disch := omega) only [i32_lt, i32_le, i32_eq, nI_toInt, i32_0, i32_1, i32_2, i32_3, i32_4, i32_5, i32_6, i32_7, i32_8, i32_10, i32_12, i32_23, i32_24, i32_30, i32_31, i32_32, i32_39, i32_40, i32_41, i32_46, i32_47, i32_48, i32_96, i32_99, i32_100, i32_255, i32_999, i32_2024, i32_32767, i32_1000000, i32_m1, i32_m2, i32_m3] at *; (repeat' split) <;> first | rfl | (exfalso; omega) | omega))
    · refine mv_iconst C rfl ?_
      refine mv_goto C rfl ?_
      refine mv_ireturn C rfl (by first | exact mv_okZ1 | exact mv_okZ0) ?_ ?_
      all_goals first | rfl | (simp only [Option.some.injEq, Value.int.injEq]; first | rfl | (try simp (disch := omega) only [i32_lt, i32_le, i32_eq, nI_toInt, i32_0, i32_1, i32_2, i32_3, i32_4, i32_5, i32_6, i32_7, i32_8, i32_10, i32_12, i32_23, i32_24, i32_30, i32_31, i32_32, i32_39, i32_40, i32_41, i32_46, i32_47, i32_48, i32_96, i32_99, i32_100, i32_255, i32_999, i32_2024, i32_32767, i32_1000000, i32_m1, i32_m2, i32_m3] at *; (repeat' split) <;> first | rfl | (exfalso; omega) | omega))
theorem r_isNumber (z : mv_Z) (h : Int32) : mv_Runs 1 108 [.int h] (mv_E z) (some (.int (if 0 ≤ h ∧ h ≤ 31 then 1 else 0))) (mv_E z) := by
  refine mv_start pX10_isNumber (some .boolean) [some (.int h)] rfl rfl rfl rfl (fun V C => ?_)
  refine mv_iload_n C rfl rfl ?_
  refine mv_if_lt C rfl (fun c1 => ?_) (fun c1 => ?_)
  · refine mv_iconst C rfl ?_
    refine mv_ireturn C rfl (by first | exact mv_okZ1 | exact mv_okZ0) ?_ ?_
    all_goals first | rfl | (simp only [Option.some.injEq, Value.int.injEq]; first | rfl | (try simp (disch := omega) only [i32_lt, i32_le, i32_eq, nI_toInt, i32_0, i32_1, i32_2, i32_3, i32_4, i32_5, i32_6, i32_7, i32_8, i32_10, i32_12, i32_23, i32_24, i32_30, i32_31, i32_32, i32_39, i32_40, i32_41, i32_46, i32_47, i32_48, i32_96, i32_99, i32_100, i32_255, i32_999, i32_2024, i32_32767, i32_1000000, i32_m1, i32_m2, i32_m3] at *; (repeat' split) <;> first | rfl | (exfalso; omega) | omega))
  · refine mv_iload_n C rfl rfl ?_
    refine mv_bipush C rfl ?_
    refine mv_icmp_gt C rfl (fun c7 => ?_) (fun c7 => ?_)
    · refine mv_iconst C rfl ?_
      refine mv_ireturn C rfl (by first | exact mv_okZ1 | exact mv_okZ0) ?_ ?_
      all_goals first | rfl | (simp only [Option.some.injEq, Value.int.injEq]; first | rfl | (try simp (disch := omega) only [i32_lt, i32_le, i32_eq, nI_toInt, i32_0, i32_1, i32_2, i32_3, i32_4, i32_5, i32_6, i32_7, i32_8, i32_10, i32_12, i32_23, i32_24, i32_30, i32_31, i32_32, i32_39, i32_40, i32_41, i32_46, i32_47, i32_48, i32_96, i32_99, i32_100, i32_255, i32_999, i32_2024, i32_32767, i32_1000000, i32_m1, i32_m2, i32_m3] at *; (repeat' split) <;> first | rfl | (exfalso; omega) | omega))
    · refine mv_iconst C rfl ?_
      refine mv_goto C rfl ?_
      refine mv_ireturn C rfl (by first | exact mv_okZ1 | exact mv_okZ0) ?_ ?_
      all_goals first | rfl | (simp only [Option.some.injEq, Value.int.injEq]; first | rfl | (try simp (disch := omega) only [i32_lt, i32_le, i32_eq, nI_toInt, i32_0, i32_1, i32_2, i32_3, i32_4, i32_5, i32_6, i32_7, i32_8, i32_10, i32_12, i32_23, i32_24, i32_30, i32_31, i32_32, i32_39, i32_40, i32_41, i32_46, i32_47, i32_48, i32_96, i32_99, i32_100, i32_255, i32_999, i32_2024, i32_32767, i32_1000000, i32_m1, i32_m2, i32_m3] at *; (repeat' split) <;> first | rfl | (exfalso; omega) | omega))
theorem r_bit (z : mv_Z) (h : Int32) : mv_Runs 1 109 [.int h] (mv_E z) (some (.int (1 <<< (h &&& 31)))) (mv_E z) := by
  refine mv_start pX10_bit (some .int) [some (.int h)] rfl rfl rfl rfl (fun V C => ?_)
  refine mv_iconst C rfl ?_
  refine mv_iload_n C rfl rfl ?_
  refine mv_ishl C rfl ?_
  refine mv_ireturn C rfl mv_okI ?_ ?_
  all_goals first | rfl | (simp only [Option.some.injEq, Value.int.injEq]; first | rfl | (try simp (disch := omega) only [i32_lt, i32_le, i32_eq, nI_toInt, i32_0, i32_1, i32_2, i32_3, i32_4, i32_5, i32_6, i32_7, i32_8, i32_10, i32_12, i32_23, i32_24, i32_30, i32_31, i32_32, i32_39, i32_40, i32_41, i32_46, i32_47, i32_48, i32_96, i32_99, i32_100, i32_255, i32_999, i32_2024, i32_32767, i32_1000000, i32_m1, i32_m2, i32_m3] at *; (repeat' split) <;> first | rfl | (exfalso; omega) | omega))
theorem r_has (z : mv_Z) (x h : Int32) : mv_Runs 1 110 [.int x, .int h] (mv_E z) (some (.int (if (x >>> (h &&& 31)) &&& 1 = 0 then 0 else 1))) (mv_E z) := by
  refine mv_start pX10_has (some .boolean) [some (.int x), some (.int h)] rfl rfl rfl rfl (fun V C => ?_)
  refine mv_iload_n C rfl rfl ?_
  refine mv_iload_n C rfl rfl ?_
  refine mv_ishr C rfl ?_
  refine mv_iconst C rfl ?_
  refine mv_iand C rfl ?_
  refine mv_if_eq C rfl (fun c5 => ?_) (fun c5 => ?_)
  · refine mv_iconst C rfl ?_
    refine mv_ireturn C rfl (by first | exact mv_okZ1 | exact mv_okZ0) ?_ ?_
    all_goals simp_all
  · refine mv_iconst C rfl ?_
    refine mv_goto C rfl ?_
    refine mv_ireturn C rfl (by first | exact mv_okZ1 | exact mv_okZ0) ?_ ?_
    all_goals simp_all
theorem r_hasParish (z : mv_Z) (h : Int32) : mv_Runs 1 47 [.ref 3, .int h] (mv_E z) (some (.int (if 0 ≤ h ∧ h < z.1 3 6 then 1 else 0))) (mv_E z) := by
  refine mv_start pX6_hasParish (some .boolean) [some (.ref 3), some (.int h)] rfl rfl rfl rfl (fun V C => ?_)
  refine mv_iload_n C rfl rfl ?_
  refine mv_if_lt C rfl (fun c1 => ?_) (fun c1 => ?_)
  · refine mv_iconst C rfl ?_
    refine mv_ireturn C rfl (by first | exact mv_okZ1 | exact mv_okZ0) ?_ ?_
    all_goals first | rfl | (simp only [Option.some.injEq, Value.int.injEq]; first | rfl | (try simp (disch := omega) only [i32_lt, i32_le, i32_eq, nI_toInt, i32_0, i32_1, i32_2, i32_3, i32_4, i32_5, i32_6, i32_7, i32_8, i32_10, i32_12, i32_23, i32_24, i32_30, i32_31, i32_32, i32_39, i32_40, i32_41, i32_46, i32_47, i32_48, i32_96, i32_99, i32_100, i32_255, i32_999, i32_2024, i32_32767, i32_1000000, i32_m1, i32_m2, i32_m3] at *; (repeat' split) <;> first | rfl | (exfalso; omega) | omega))
  · refine mv_iload_n C rfl rfl ?_
    refine mv_aload_n C rfl rfl ?_
    refine mv_getI C rfl rfl rfl ?_
    refine mv_icmp_ge C rfl (fun c9 => ?_) (fun c9 => ?_)
    · refine mv_iconst C rfl ?_
      refine mv_ireturn C rfl (by first | exact mv_okZ1 | exact mv_okZ0) ?_ ?_
      all_goals first | rfl | (simp only [Option.some.injEq, Value.int.injEq]; first | rfl | (try simp (disch := omega) only [i32_lt, i32_le, i32_eq, nI_toInt, i32_0, i32_1, i32_2, i32_3, i32_4, i32_5, i32_6, i32_7, i32_8, i32_10, i32_12, i32_23, i32_24, i32_30, i32_31, i32_32, i32_39, i32_40, i32_41, i32_46, i32_47, i32_48, i32_96, i32_99, i32_100, i32_255, i32_999, i32_2024, i32_32767, i32_1000000, i32_m1, i32_m2, i32_m3] at *; (repeat' split) <;> first | rfl | (exfalso; omega) | omega))
    · refine mv_iconst C rfl ?_
      refine mv_goto C rfl ?_
      refine mv_ireturn C rfl (by first | exact mv_okZ1 | exact mv_okZ0) ?_ ?_
      all_goals first | rfl | (simp only [Option.some.injEq, Value.int.injEq]; first | rfl | (try simp (disch := omega) only [i32_lt, i32_le, i32_eq, nI_toInt, i32_0, i32_1, i32_2, i32_3, i32_4, i32_5, i32_6, i32_7, i32_8, i32_10, i32_12, i32_23, i32_24, i32_30, i32_31, i32_32, i32_39, i32_40, i32_41, i32_46, i32_47, i32_48, i32_96, i32_99, i32_100, i32_255, i32_999, i32_2024, i32_32767, i32_1000000, i32_m1, i32_m2, i32_m3] at *; (repeat' split) <;> first | rfl | (exfalso; omega) | omega))
theorem r_hasRoad (z : mv_Z) (h : Int32) : mv_Runs 1 48 [.ref 3, .int h] (mv_E z) (some (.int (if 0 ≤ h ∧ h < z.1 3 7 then 1 else 0))) (mv_E z) := by
  refine mv_start pX6_hasRoad (some .boolean) [some (.ref 3), some (.int h)] rfl rfl rfl rfl (fun V C => ?_)
  refine mv_iload_n C rfl rfl ?_
  refine mv_if_lt C rfl (fun c1 => ?_) (fun c1 => ?_)
  · refine mv_iconst C rfl ?_
    refine mv_ireturn C rfl (by first | exact mv_okZ1 | exact mv_okZ0) ?_ ?_
    all_goals first | rfl | (simp only [Option.some.injEq, Value.int.injEq]; first | rfl | (try simp (disch := omega) only [i32_lt, i32_le, i32_eq, nI_toInt, i32_0, i32_1, i32_2, i32_3, i32_4, i32_5, i32_6, i32_7, i32_8, i32_10, i32_12, i32_23, i32_24, i32_30, i32_31, i32_32, i32_39, i32_40, i32_41, i32_46, i32_47, i32_48, i32_96, i32_99, i32_100, i32_255, i32_999, i32_2024, i32_32767, i32_1000000, i32_m1, i32_m2, i32_m3] at *; (repeat' split) <;> first | rfl | (exfalso; omega) | omega))
  · refine mv_iload_n C rfl rfl ?_
    refine mv_aload_n C rfl rfl ?_
    refine mv_getI C rfl rfl rfl ?_
    refine mv_icmp_ge C rfl (fun c9 => ?_) (fun c9 => ?_)
    · refine mv_iconst C rfl ?_
      refine mv_ireturn C rfl (by first | exact mv_okZ1 | exact mv_okZ0) ?_ ?_
      all_goals first | rfl | (simp only [Option.some.injEq, Value.int.injEq]; first | rfl | (try simp (disch := omega) only [i32_lt, i32_le, i32_eq, nI_toInt, i32_0, i32_1, i32_2, i32_3, i32_4, i32_5, i32_6, i32_7, i32_8, i32_10, i32_12, i32_23, i32_24, i32_30, i32_31, i32_32, i32_39, i32_40, i32_41, i32_46, i32_47, i32_48, i32_96, i32_99, i32_100, i32_255, i32_999, i32_2024, i32_32767, i32_1000000, i32_m1, i32_m2, i32_m3] at *; (repeat' split) <;> first | rfl | (exfalso; omega) | omega))
    · refine mv_iconst C rfl ?_
      refine mv_goto C rfl ?_
      refine mv_ireturn C rfl (by first | exact mv_okZ1 | exact mv_okZ0) ?_ ?_
      all_goals first | rfl | (simp only [Option.some.injEq, Value.int.injEq]; first | rfl | (try simp (disch := omega) only [i32_lt, i32_le, i32_eq, nI_toInt, i32_0, i32_1, i32_2, i32_3, i32_4, i32_5, i32_6, i32_7, i32_8, i32_10, i32_12, i32_23, i32_24, i32_30, i32_31, i32_32, i32_39, i32_40, i32_41, i32_46, i32_47, i32_48, i32_96, i32_99, i32_100, i32_255, i32_999, i32_2024, i32_32767, i32_1000000, i32_m1, i32_m2, i32_m3] at *; (repeat' split) <;> first | rfl | (exfalso; omega) | omega))
theorem r_startBit (z : mv_Z) : mv_Runs 2 52 [.ref 3] (mv_E z) (some (.int (if z.1 3 9 = -1 then 0 else 1 <<< (z.1 3 9 &&& 31)))) (mv_E z) := by
  refine mv_start pX6_startBit (some .int) [some (.ref 3)] rfl rfl rfl rfl (fun V C => ?_)
  refine mv_aload_n C rfl rfl ?_
  refine mv_getI C rfl rfl rfl ?_
  refine mv_iconst C rfl ?_
  refine mv_icmp_ne C rfl (fun c5 => ?_) (fun c5 => ?_)
  · refine mv_aload_n C rfl rfl ?_
    refine mv_getI C rfl rfl rfl ?_
    refine mv_cS C rfl (r_bit _ _) (by decide) rfl (Nat.le_of_ble_eq_true rfl) (Nat.le_refl _) (Nat.le_refl _) rfl ?_
    refine mv_ireturn C rfl mv_okI ?_ ?_
    all_goals first | rfl | simp_all
  · refine mv_iconst C rfl ?_
    refine mv_goto C rfl ?_
    refine mv_ireturn C rfl mv_okI ?_ ?_
    all_goals first | rfl | simp_all
theorem r_otherEnd (z : mv_Z) (r : Nat) (hr : r < 40) (p : Int32) : mv_Runs 1 54 [.ref 3, .int (nI r), .int p] (mv_E z) (some (.int (if z.1 6 r = p then z.1 7 r else z.1 6 r))) (mv_E z) := by
  refine mv_start pX6_otherEnd (some .int) [some (.ref 3), some (.int (nI r)), some (.int p)] rfl rfl rfl rfl (fun V C => ?_)
  refine mv_aload_n C rfl rfl ?_
  refine mv_getR C rfl rfl rfl ?_
  refine mv_iload_n C rfl rfl ?_
  refine mv_ald C rfl rfl rfl (by omega) ?_
  refine mv_iload_n C rfl rfl ?_
  refine mv_icmp_ne C rfl (fun c7 => ?_) (fun c7 => ?_)
  · refine mv_aload_n C rfl rfl ?_
    refine mv_getR C rfl rfl rfl ?_
    refine mv_iload_n C rfl rfl ?_
    refine mv_ald C rfl rfl rfl (by omega) ?_
    refine mv_ireturn C rfl mv_okI ?_ ?_
    all_goals first | rfl | simp_all
  · refine mv_aload_n C rfl rfl ?_
    refine mv_getR C rfl rfl rfl ?_
    refine mv_iload_n C rfl rfl ?_
    refine mv_ald C rfl rfl rfl (by omega) ?_
    refine mv_goto C rfl ?_
    refine mv_ireturn C rfl mv_okI ?_ ?_
    all_goals first | rfl | simp_all
theorem r_canAsk (z : mv_Z) (p h : Int32) : mv_Runs 2 105 [.ref 0, .int p, .int h] (mv_E z) (some (.int (if (0 ≤ p ∧ p < z.1 3 6) ∧ (0 ≤ h ∧ h < 48) ∧ ¬ z.1 3 9 = -1 then 1 else 0))) (mv_E z) := by
  refine mv_start pX10_canAsk (some .boolean) [some (.ref 0), some (.int p), some (.int h)] rfl rfl rfl rfl (fun V C => ?_)
  refine mv_aload_n C rfl rfl ?_
  refine mv_getR C rfl rfl rfl ?_
  refine mv_iload_n C rfl rfl ?_
  refine mv_cV C rfl (r_hasParish _ _) (by decide) rfl rfl rfl (Nat.le_of_ble_eq_true rfl) (Nat.le_refl _) (Nat.le_refl _) rfl ?_
  refine mv_if_eq C rfl (fun c8 => ?_) (fun c8 => ?_)
  · refine mv_iconst C rfl ?_
    refine mv_ireturn C rfl (by first | exact mv_okZ1 | exact mv_okZ0) ?_ ?_
    all_goals first | rfl | grind
  · refine mv_iload_n C rfl rfl ?_
    refine mv_cS C rfl (r_isHour _ _) (by decide) rfl (Nat.le_of_ble_eq_true rfl) (Nat.le_refl _) (Nat.le_refl _) rfl ?_
    refine mv_if_eq C rfl (fun c15 => ?_) (fun c15 => ?_)
    · refine mv_iconst C rfl ?_
      refine mv_ireturn C rfl (by first | exact mv_okZ1 | exact mv_okZ0) ?_ ?_
      all_goals first | rfl | grind
    · refine mv_aload_n C rfl rfl ?_
      refine mv_getR C rfl rfl rfl ?_
      refine mv_getI C rfl rfl rfl ?_
      refine mv_iconst C rfl ?_
      refine mv_icmp_eq C rfl (fun c26 => ?_) (fun c26 => ?_)
      · refine mv_iconst C rfl ?_
        refine mv_ireturn C rfl (by first | exact mv_okZ1 | exact mv_okZ0) ?_ ?_
        all_goals first | rfl | grind
      · refine mv_iconst C rfl ?_
        refine mv_goto C rfl ?_
        refine mv_ireturn C rfl (by first | exact mv_okZ1 | exact mv_okZ0) ?_ ?_
        all_goals first | rfl | grind
end
end
section
section
theorem r_addParish (z : mv_Z) (c : Int32) (n : Nat) (hn : z.1 3 6 = nI n) (h24 : n ≤ 24) : mv_Runs 2 49 [.ref 3, .int c] (mv_E z) (some (.int (if (0 ≤ c ∧ c < 6) ∧ n < 24 then nI n else -1))) (mv_E (if (0 ≤ c ∧ c < 6) ∧ n < 24 then mv_u (mv_u z 4 n c) 3 6 (nI (n + 1)) else z)) := by
  refine mv_start pX6_addParish (some .int) [some (.ref 3), some (.int c)] rfl rfl rfl rfl (fun V C => ?_)
  refine mv_iload_n C rfl rfl ?_
  refine mv_cS C rfl (r_isCounty _ _) (by decide) rfl (Nat.le_of_ble_eq_true rfl) (Nat.le_refl _) (Nat.le_refl _) rfl ?_
  refine mv_if_eq C rfl (fun c4 => ?_) (fun c4 => ?_)
  · try simp only [b01, b10, Classical.not_not] at c4
    try simp (disch := omega) only [lit_0, lit_1, lit_2, lit_3, lit_4, lit_5, lit_6, lit_7, lit_8, lit_9, lit_10, lit_11, lit_12, lit_23, lit_24, lit_30, lit_31, lit_32, lit_39, lit_40, lit_41, lit_46, lit_47, lit_48, lit_96, lit_99, lit_100, lit_255, lit_999, lit_1000, lit_2024, lit_32767, lit_1000000, nI_ltI, nI_leI, nI_eq, Nat.not_lt, Nat.not_le] at c4
    try simp only [unl_0, unl_1, unl_2, unl_3, unl_4, unl_5, unl_6, unl_7, unl_8, unl_9, unl_10, unl_11, unl_12, unl_23, unl_24, unl_30, unl_31, unl_32, unl_39, unl_40, unl_41, unl_46, unl_47, unl_48, unl_96, unl_99, unl_100, unl_255, unl_999, unl_1000, unl_2024, unl_32767, unl_1000000] at c4
    refine mv_iconst C rfl ?_
    refine mv_ireturn C rfl mv_okI ?_ ?_
    all_goals (clear C; grind)
  · try simp only [b01, b10, Classical.not_not] at c4
    try simp (disch := omega) only [lit_0, lit_1, lit_2, lit_3, lit_4, lit_5, lit_6, lit_7, lit_8, lit_9, lit_10, lit_11, lit_12, lit_23, lit_24, lit_30, lit_31, lit_32, lit_39, lit_40, lit_41, lit_46, lit_47, lit_48, lit_96, lit_99, lit_100, lit_255, lit_999, lit_1000, lit_2024, lit_32767, lit_1000000, nI_ltI, nI_leI, nI_eq, Nat.not_lt, Nat.not_le] at c4
    try simp only [unl_0, unl_1, unl_2, unl_3, unl_4, unl_5, unl_6, unl_7, unl_8, unl_9, unl_10, unl_11, unl_12, unl_23, unl_24, unl_30, unl_31, unl_32, unl_39, unl_40, unl_41, unl_46, unl_47, unl_48, unl_96, unl_99, unl_100, unl_255, unl_999, unl_1000, unl_2024, unl_32767, unl_1000000] at c4
    refine mv_aload_n C rfl rfl ?_
    refine mv_getJ C rfl rfl rfl hn ?_
    refine mv_bipush C rfl ?_
    refine mv_icmp_lt C rfl (fun c13 => ?_) (fun c13 => ?_)
    · try simp only [b01, b10, Classical.not_not] at c13
      try simp (disch := omega) only [lit_0, lit_1, lit_2, lit_3, lit_4, lit_5, lit_6, lit_7, lit_8, lit_9, lit_10, lit_11, lit_12, lit_23, lit_24, lit_30, lit_31, lit_32, lit_39, lit_40, lit_41, lit_46, lit_47, lit_48, lit_96, lit_99, lit_100, lit_255, lit_999, lit_1000, lit_2024, lit_32767, lit_1000000, nI_ltI, nI_leI, nI_eq, Nat.not_lt, Nat.not_le] at c13
      try simp only [unl_0, unl_1, unl_2, unl_3, unl_4, unl_5, unl_6, unl_7, unl_8, unl_9, unl_10, unl_11, unl_12, unl_23, unl_24, unl_30, unl_31, unl_32, unl_39, unl_40, unl_41, unl_46, unl_47, unl_48, unl_96, unl_99, unl_100, unl_255, unl_999, unl_1000, unl_2024, unl_32767, unl_1000000] at c13
      refine mv_aload_n C rfl rfl ?_
      refine mv_getR C rfl rfl rfl ?_
      refine mv_aload_n C rfl rfl ?_
      refine mv_getJ C rfl rfl rfl hn ?_
      refine mv_iload_n C rfl rfl ?_
      refine mv_ast C rfl rfl rfl (by omega) ?_
      refine mv_aload_n C rfl rfl ?_
      refine mv_dup C rfl rfl ?_
      refine mv_getJ C rfl rfl rfl hn ?_
      refine mv_iconst C rfl ?_
      refine mv_iadd C rfl ?_
      refine mv_top (nI_1 _) ?_
      refine mv_putI C rfl rfl rfl rfl ?_
      refine mv_aload_n C rfl rfl ?_
      refine mv_getJ C rfl rfl rfl (show _ = nI (n + 1) from rfl) ?_
      refine mv_iconst C rfl ?_
      refine mv_isub C rfl ?_
      refine mv_top (nI_pred _) ?_
      refine mv_ireturn C rfl mv_okI ?_ ?_
      all_goals (clear C; grind)
    · try simp only [b01, b10, Classical.not_not] at c13
      try simp (disch := omega) only [lit_0, lit_1, lit_2, lit_3, lit_4, lit_5, lit_6, lit_7, lit_8, lit_9, lit_10, lit_11, lit_12, lit_23, lit_24, lit_30, lit_31, lit_32, lit_39, lit_40, lit_41, lit_46, lit_47, lit_48, lit_96, lit_99, lit_100, lit_255, lit_999, lit_1000, lit_2024, lit_32767, lit_1000000, nI_ltI, nI_leI, nI_eq, Nat.not_lt, Nat.not_le] at c13
      try simp only [unl_0, unl_1, unl_2, unl_3, unl_4, unl_5, unl_6, unl_7, unl_8, unl_9, unl_10, unl_11, unl_12, unl_23, unl_24, unl_30, unl_31, unl_32, unl_39, unl_40, unl_41, unl_46, unl_47, unl_48, unl_96, unl_99, unl_100, unl_255, unl_999, unl_1000, unl_2024, unl_32767, unl_1000000] at c13
      refine mv_iconst C rfl ?_
      refine mv_ireturn C rfl mv_okI ?_ ?_
      all_goals (clear C; grind)
theorem r_addRoad (z : mv_Z) (a b h : Int32) (n : Nat) (hn : z.1 3 7 = nI n) (h40 : n ≤ 40) : mv_Runs 2 50 [.ref 3, .int a, .int b, .int h] (mv_E z) (some (.int (if (0 ≤ a ∧ a < z.1 3 6) ∧ (0 ≤ b ∧ b < z.1 3 6) ∧ ¬ a = b ∧ (1 ≤ h ∧ h ≤ 12) ∧ n < 40 then nI n else -1))) (mv_E (if (0 ≤ a ∧ a < z.1 3 6) ∧ (0 ≤ b ∧ b < z.1 3 6) ∧ ¬ a = b ∧ (1 ≤ h ∧ h ≤ 12) ∧ n < 40 then mv_u (mv_u (mv_u (mv_u z 6 n a) 7 n b) 8 n h) 3 7 (nI (n + 1)) else z)) := by
  refine mv_start pX6_addRoad (some .int) [some (.ref 3), some (.int a), some (.int b), some (.int h), none] rfl rfl rfl rfl (fun V C => ?_)
  have fin : ∀ x : Int32, (x = if (0 ≤ a ∧ a < z.1 3 6) ∧ (0 ≤ b ∧ b < z.1 3 6) ∧ ¬ a = b then 1 else 0) → V 26 [some (.ref 3), some (.int a), some (.int b), some (.int h), none] [.int x] (mv_E z) := by
    intro x hx
    refine mv_is4 C rfl rfl ?_
    refine mv_iload C rfl rfl ?_
    refine mv_if_eq C rfl (fun c30 => ?_) (fun c30 => ?_)
    · try simp only [b01, b10, Classical.not_not] at c30
      try simp (disch := omega) only [lit_0, lit_1, lit_2, lit_3, lit_4, lit_5, lit_6, lit_7, lit_8, lit_9, lit_10, lit_11, lit_12, lit_23, lit_24, lit_30, lit_31, lit_32, lit_39, lit_40, lit_41, lit_46, lit_47, lit_48, lit_96, lit_99, lit_100, lit_255, lit_999, lit_1000, lit_2024, lit_32767, lit_1000000, nI_ltI, nI_leI, nI_eq, Nat.not_lt, Nat.not_le] at c30
      try simp only [unl_0, unl_1, unl_2, unl_3, unl_4, unl_5, unl_6, unl_7, unl_8, unl_9, unl_10, unl_11, unl_12, unl_23, unl_24, unl_30, unl_31, unl_32, unl_39, unl_40, unl_41, unl_46, unl_47, unl_48, unl_96, unl_99, unl_100, unl_255, unl_999, unl_1000, unl_2024, unl_32767, unl_1000000] at c30
      try rw [hx] at c30
      try simp only [b01, b10, Classical.not_not] at c30
      try simp (disch := omega) only [lit_0, lit_1, lit_2, lit_3, lit_4, lit_5, lit_6, lit_7, lit_8, lit_9, lit_10, lit_11, lit_12, lit_23, lit_24, lit_30, lit_31, lit_32, lit_39, lit_40, lit_41, lit_46, lit_47, lit_48, lit_96, lit_99, lit_100, lit_255, lit_999, lit_1000, lit_2024, lit_32767, lit_1000000, nI_ltI, nI_leI, nI_eq, Nat.not_lt, Nat.not_le] at c30
      try simp only [unl_0, unl_1, unl_2, unl_3, unl_4, unl_5, unl_6, unl_7, unl_8, unl_9, unl_10, unl_11, unl_12, unl_23, unl_24, unl_30, unl_31, unl_32, unl_39, unl_40, unl_41, unl_46, unl_47, unl_48, unl_96, unl_99, unl_100, unl_255, unl_999, unl_1000, unl_2024, unl_32767, unl_1000000] at c30
      refine mv_iconst C rfl ?_
      refine mv_ireturn C rfl mv_okI ?_ ?_
      all_goals (clear C; simp only [i32_lt, i32_le] at *; grind)
    · try simp only [b01, b10, Classical.not_not] at c30
      try simp (disch := omega) only [lit_0, lit_1, lit_2, lit_3, lit_4, lit_5, lit_6, lit_7, lit_8, lit_9, lit_10, lit_11, lit_12, lit_23, lit_24, lit_30, lit_31, lit_32, lit_39, lit_40, lit_41, lit_46, lit_47, lit_48, lit_96, lit_99, lit_100, lit_255, lit_999, lit_1000, lit_2024, lit_32767, lit_1000000, nI_ltI, nI_leI, nI_eq, Nat.not_lt, Nat.not_le] at c30
      try simp only [unl_0, unl_1, unl_2, unl_3, unl_4, unl_5, unl_6, unl_7, unl_8, unl_9, unl_10, unl_11, unl_12, unl_23, unl_24, unl_30, unl_31, unl_32, unl_39, unl_40, unl_41, unl_46, unl_47, unl_48, unl_96, unl_99, unl_100, unl_255, unl_999, unl_1000, unl_2024, unl_32767, unl_1000000] at c30
      try rw [hx] at c30
      try simp only [b01, b10, Classical.not_not] at c30
      try simp (disch := omega) only [lit_0, lit_1, lit_2, lit_3, lit_4, lit_5, lit_6, lit_7, lit_8, lit_9, lit_10, lit_11, lit_12, lit_23, lit_24, lit_30, lit_31, lit_32, lit_39, lit_40, lit_41, lit_46, lit_47, lit_48, lit_96, lit_99, lit_100, lit_255, lit_999, lit_1000, lit_2024, lit_32767, lit_1000000, nI_ltI, nI_leI, nI_eq, Nat.not_lt, Nat.not_le] at c30
      try simp only [unl_0, unl_1, unl_2, unl_3, unl_4, unl_5, unl_6, unl_7, unl_8, unl_9, unl_10, unl_11, unl_12, unl_23, unl_24, unl_30, unl_31, unl_32, unl_39, unl_40, unl_41, unl_46, unl_47, unl_48, unl_96, unl_99, unl_100, unl_255, unl_999, unl_1000, unl_2024, unl_32767, unl_1000000] at c30
      refine mv_iload_n C rfl rfl ?_
      refine mv_iconst C rfl ?_
      refine mv_icmp_lt C rfl (fun c35 => ?_) (fun c35 => ?_)
      · try simp only [b01, b10, Classical.not_not] at c35
        try simp (disch := omega) only [lit_0, lit_1, lit_2, lit_3, lit_4, lit_5, lit_6, lit_7, lit_8, lit_9, lit_10, lit_11, lit_12, lit_23, lit_24, lit_30, lit_31, lit_32, lit_39, lit_40, lit_41, lit_46, lit_47, lit_48, lit_96, lit_99, lit_100, lit_255, lit_999, lit_1000, lit_2024, lit_32767, lit_1000000, nI_ltI, nI_leI, nI_eq, Nat.not_lt, Nat.not_le] at c35
        try simp only [unl_0, unl_1, unl_2, unl_3, unl_4, unl_5, unl_6, unl_7, unl_8, unl_9, unl_10, unl_11, unl_12, unl_23, unl_24, unl_30, unl_31, unl_32, unl_39, unl_40, unl_41, unl_46, unl_47, unl_48, unl_96, unl_99, unl_100, unl_255, unl_999, unl_1000, unl_2024, unl_32767, unl_1000000] at c35
        try rw [hx] at c35
        try simp only [b01, b10, Classical.not_not] at c35
        try simp (disch := omega) only [lit_0, lit_1, lit_2, lit_3, lit_4, lit_5, lit_6, lit_7, lit_8, lit_9, lit_10, lit_11, lit_12, lit_23, lit_24, lit_30, lit_31, lit_32, lit_39, lit_40, lit_41, lit_46, lit_47, lit_48, lit_96, lit_99, lit_100, lit_255, lit_999, lit_1000, lit_2024, lit_32767, lit_1000000, nI_ltI, nI_leI, nI_eq, Nat.not_lt, Nat.not_le] at c35
        try simp only [unl_0, unl_1, unl_2, unl_3, unl_4, unl_5, unl_6, unl_7, unl_8, unl_9, unl_10, unl_11, unl_12, unl_23, unl_24, unl_30, unl_31, unl_32, unl_39, unl_40, unl_41, unl_46, unl_47, unl_48, unl_96, unl_99, unl_100, unl_255, unl_999, unl_1000, unl_2024, unl_32767, unl_1000000] at c35
        refine mv_iconst C rfl ?_
        refine mv_ireturn C rfl mv_okI ?_ ?_
        all_goals (clear C; simp only [i32_lt, i32_le] at *; grind)
      · try simp only [b01, b10, Classical.not_not] at c35
        try simp (disch := omega) only [lit_0, lit_1, lit_2, lit_3, lit_4, lit_5, lit_6, lit_7, lit_8, lit_9, lit_10, lit_11, lit_12, lit_23, lit_24, lit_30, lit_31, lit_32, lit_39, lit_40, lit_41, lit_46, lit_47, lit_48, lit_96, lit_99, lit_100, lit_255, lit_999, lit_1000, lit_2024, lit_32767, lit_1000000, nI_ltI, nI_leI, nI_eq, Nat.not_lt, Nat.not_le] at c35
        try simp only [unl_0, unl_1, unl_2, unl_3, unl_4, unl_5, unl_6, unl_7, unl_8, unl_9, unl_10, unl_11, unl_12, unl_23, unl_24, unl_30, unl_31, unl_32, unl_39, unl_40, unl_41, unl_46, unl_47, unl_48, unl_96, unl_99, unl_100, unl_255, unl_999, unl_1000, unl_2024, unl_32767, unl_1000000] at c35
        try rw [hx] at c35
        try simp only [b01, b10, Classical.not_not] at c35
        try simp (disch := omega) only [lit_0, lit_1, lit_2, lit_3, lit_4, lit_5, lit_6, lit_7, lit_8, lit_9, lit_10, lit_11, lit_12, lit_23, lit_24, lit_30, lit_31, lit_32, lit_39, lit_40, lit_41, lit_46, lit_47, lit_48, lit_96, lit_99, lit_100, lit_255, lit_999, lit_1000, lit_2024, lit_32767, lit_1000000, nI_ltI, nI_leI, nI_eq, Nat.not_lt, Nat.not_le] at c35
        try simp only [unl_0, unl_1, unl_2, unl_3, unl_4, unl_5, unl_6, unl_7, unl_8, unl_9, unl_10, unl_11, unl_12, unl_23, unl_24, unl_30, unl_31, unl_32, unl_39, unl_40, unl_41, unl_46, unl_47, unl_48, unl_96, unl_99, unl_100, unl_255, unl_999, unl_1000, unl_2024, unl_32767, unl_1000000] at c35
        refine mv_iload_n C rfl rfl ?_
        refine mv_bipush C rfl ?_
        refine mv_icmp_gt C rfl (fun c41 => ?_) (fun c41 => ?_)
        · try simp only [b01, b10, Classical.not_not] at c41
          try simp (disch := omega) only [lit_0, lit_1, lit_2, lit_3, lit_4, lit_5, lit_6, lit_7, lit_8, lit_9, lit_10, lit_11, lit_12, lit_23, lit_24, lit_30, lit_31, lit_32, lit_39, lit_40, lit_41, lit_46, lit_47, lit_48, lit_96, lit_99, lit_100, lit_255, lit_999, lit_1000, lit_2024, lit_32767, lit_1000000, nI_ltI, nI_leI, nI_eq, Nat.not_lt, Nat.not_le] at c41
          try simp only [unl_0, unl_1, unl_2, unl_3, unl_4, unl_5, unl_6, unl_7, unl_8, unl_9, unl_10, unl_11, unl_12, unl_23, unl_24, unl_30, unl_31, unl_32, unl_39, unl_40, unl_41, unl_46, unl_47, unl_48, unl_96, unl_99, unl_100, unl_255, unl_999, unl_1000, unl_2024, unl_32767, unl_1000000] at c41
          try rw [hx] at c41
          try simp only [b01, b10, Classical.not_not] at c41
          try simp (disch := omega) only [lit_0, lit_1, lit_2, lit_3, lit_4, lit_5, lit_6, lit_7, lit_8, lit_9, lit_10, lit_11, lit_12, lit_23, lit_24, lit_30, lit_31, lit_32, lit_39, lit_40, lit_41, lit_46, lit_47, lit_48, lit_96, lit_99, lit_100, lit_255, lit_999, lit_1000, lit_2024, lit_32767, lit_1000000, nI_ltI, nI_leI, nI_eq, Nat.not_lt, Nat.not_le] at c41
          try simp only [unl_0, unl_1, unl_2, unl_3, unl_4, unl_5, unl_6, unl_7, unl_8, unl_9, unl_10, unl_11, unl_12, unl_23, unl_24, unl_30, unl_31, unl_32, unl_39, unl_40, unl_41, unl_46, unl_47, unl_48, unl_96, unl_99, unl_100, unl_255, unl_999, unl_1000, unl_2024, unl_32767, unl_1000000] at c41
          refine mv_iconst C rfl ?_
          refine mv_ireturn C rfl mv_okI ?_ ?_
          all_goals (clear C; simp only [i32_lt, i32_le] at *; grind)
        · try simp only [b01, b10, Classical.not_not] at c41
          try simp (disch := omega) only [lit_0, lit_1, lit_2, lit_3, lit_4, lit_5, lit_6, lit_7, lit_8, lit_9, lit_10, lit_11, lit_12, lit_23, lit_24, lit_30, lit_31, lit_32, lit_39, lit_40, lit_41, lit_46, lit_47, lit_48, lit_96, lit_99, lit_100, lit_255, lit_999, lit_1000, lit_2024, lit_32767, lit_1000000, nI_ltI, nI_leI, nI_eq, Nat.not_lt, Nat.not_le] at c41
          try simp only [unl_0, unl_1, unl_2, unl_3, unl_4, unl_5, unl_6, unl_7, unl_8, unl_9, unl_10, unl_11, unl_12, unl_23, unl_24, unl_30, unl_31, unl_32, unl_39, unl_40, unl_41, unl_46, unl_47, unl_48, unl_96, unl_99, unl_100, unl_255, unl_999, unl_1000, unl_2024, unl_32767, unl_1000000] at c41
          try rw [hx] at c41
          try simp only [b01, b10, Classical.not_not] at c41
          try simp (disch := omega) only [lit_0, lit_1, lit_2, lit_3, lit_4, lit_5, lit_6, lit_7, lit_8, lit_9, lit_10, lit_11, lit_12, lit_23, lit_24, lit_30, lit_31, lit_32, lit_39, lit_40, lit_41, lit_46, lit_47, lit_48, lit_96, lit_99, lit_100, lit_255, lit_999, lit_1000, lit_2024, lit_32767, lit_1000000, nI_ltI, nI_leI, nI_eq, Nat.not_lt, Nat.not_le] at c41
          try simp only [unl_0, unl_1, unl_2, unl_3, unl_4, unl_5, unl_6, unl_7, unl_8, unl_9, unl_10, unl_11, unl_12, unl_23, unl_24, unl_30, unl_31, unl_32, unl_39, unl_40, unl_41, unl_46, unl_47, unl_48, unl_96, unl_99, unl_100, unl_255, unl_999, unl_1000, unl_2024, unl_32767, unl_1000000] at c41
          refine mv_aload_n C rfl rfl ?_
          refine mv_getJ C rfl rfl rfl hn ?_
          refine mv_bipush C rfl ?_
          refine mv_icmp_lt C rfl (fun c50 => ?_) (fun c50 => ?_)
          · try simp only [b01, b10, Classical.not_not] at c50
            try simp (disch := omega) only [lit_0, lit_1, lit_2, lit_3, lit_4, lit_5, lit_6, lit_7, lit_8, lit_9, lit_10, lit_11, lit_12, lit_23, lit_24, lit_30, lit_31, lit_32, lit_39, lit_40, lit_41, lit_46, lit_47, lit_48, lit_96, lit_99, lit_100, lit_255, lit_999, lit_1000, lit_2024, lit_32767, lit_1000000, nI_ltI, nI_leI, nI_eq, Nat.not_lt, Nat.not_le] at c50
            try simp only [unl_0, unl_1, unl_2, unl_3, unl_4, unl_5, unl_6, unl_7, unl_8, unl_9, unl_10, unl_11, unl_12, unl_23, unl_24, unl_30, unl_31, unl_32, unl_39, unl_40, unl_41, unl_46, unl_47, unl_48, unl_96, unl_99, unl_100, unl_255, unl_999, unl_1000, unl_2024, unl_32767, unl_1000000] at c50
            try rw [hx] at c50
            try simp only [b01, b10, Classical.not_not] at c50
            try simp (disch := omega) only [lit_0, lit_1, lit_2, lit_3, lit_4, lit_5, lit_6, lit_7, lit_8, lit_9, lit_10, lit_11, lit_12, lit_23, lit_24, lit_30, lit_31, lit_32, lit_39, lit_40, lit_41, lit_46, lit_47, lit_48, lit_96, lit_99, lit_100, lit_255, lit_999, lit_1000, lit_2024, lit_32767, lit_1000000, nI_ltI, nI_leI, nI_eq, Nat.not_lt, Nat.not_le] at c50
            try simp only [unl_0, unl_1, unl_2, unl_3, unl_4, unl_5, unl_6, unl_7, unl_8, unl_9, unl_10, unl_11, unl_12, unl_23, unl_24, unl_30, unl_31, unl_32, unl_39, unl_40, unl_41, unl_46, unl_47, unl_48, unl_96, unl_99, unl_100, unl_255, unl_999, unl_1000, unl_2024, unl_32767, unl_1000000] at c50
            refine mv_aload_n C rfl rfl ?_
            refine mv_getR C rfl rfl rfl ?_
            refine mv_aload_n C rfl rfl ?_
            refine mv_getJ C rfl rfl rfl hn ?_
            refine mv_iload_n C rfl rfl ?_
            refine mv_ast C rfl rfl rfl (by omega) ?_
            refine mv_aload_n C rfl rfl ?_
            refine mv_getR C rfl rfl rfl ?_
            refine mv_aload_n C rfl rfl ?_
            refine mv_getJ C rfl rfl rfl hn ?_
            refine mv_iload_n C rfl rfl ?_
            refine mv_ast C rfl rfl rfl (by omega) ?_
            refine mv_aload_n C rfl rfl ?_
            refine mv_getR C rfl rfl rfl ?_
            refine mv_aload_n C rfl rfl ?_
            refine mv_getJ C rfl rfl rfl hn ?_
            refine mv_iload_n C rfl rfl ?_
            refine mv_ast C rfl rfl rfl (by omega) ?_
            refine mv_aload_n C rfl rfl ?_
            refine mv_dup C rfl rfl ?_
            refine mv_getJ C rfl rfl rfl hn ?_
            refine mv_iconst C rfl ?_
            refine mv_iadd C rfl ?_
            refine mv_top (nI_1 _) ?_
            refine mv_putI C rfl rfl rfl rfl ?_
            refine mv_aload_n C rfl rfl ?_
            refine mv_getJ C rfl rfl rfl (show _ = nI (n + 1) from rfl) ?_
            refine mv_iconst C rfl ?_
            refine mv_isub C rfl ?_
            refine mv_top (nI_pred _) ?_
            refine mv_ireturn C rfl mv_okI ?_ ?_
            all_goals (clear C; simp only [i32_lt, i32_le] at *; grind)
          · try simp only [b01, b10, Classical.not_not] at c50
            try simp (disch := omega) only [lit_0, lit_1, lit_2, lit_3, lit_4, lit_5, lit_6, lit_7, lit_8, lit_9, lit_10, lit_11, lit_12, lit_23, lit_24, lit_30, lit_31, lit_32, lit_39, lit_40, lit_41, lit_46, lit_47, lit_48, lit_96, lit_99, lit_100, lit_255, lit_999, lit_1000, lit_2024, lit_32767, lit_1000000, nI_ltI, nI_leI, nI_eq, Nat.not_lt, Nat.not_le] at c50
            try simp only [unl_0, unl_1, unl_2, unl_3, unl_4, unl_5, unl_6, unl_7, unl_8, unl_9, unl_10, unl_11, unl_12, unl_23, unl_24, unl_30, unl_31, unl_32, unl_39, unl_40, unl_41, unl_46, unl_47, unl_48, unl_96, unl_99, unl_100, unl_255, unl_999, unl_1000, unl_2024, unl_32767, unl_1000000] at c50
            try rw [hx] at c50
            try simp only [b01, b10, Classical.not_not] at c50
            try simp (disch := omega) only [lit_0, lit_1, lit_2, lit_3, lit_4, lit_5, lit_6, lit_7, lit_8, lit_9, lit_10, lit_11, lit_12, lit_23, lit_24, lit_30, lit_31, lit_32, lit_39, lit_40, lit_41, lit_46, lit_47, lit_48, lit_96, lit_99, lit_100, lit_255, lit_999, lit_1000, lit_2024, lit_32767, lit_1000000, nI_ltI, nI_leI, nI_eq, Nat.not_lt, Nat.not_le] at c50
            try simp only [unl_0, unl_1, unl_2, unl_3, unl_4, unl_5, unl_6, unl_7, unl_8, unl_9, unl_10, unl_11, unl_12, unl_23, unl_24, unl_30, unl_31, unl_32, unl_39, unl_40, unl_41, unl_46, unl_47, unl_48, unl_96, unl_99, unl_100, unl_255, unl_999, unl_1000, unl_2024, unl_32767, unl_1000000] at c50
            refine mv_iconst C rfl ?_
            refine mv_ireturn C rfl mv_okI ?_ ?_
            all_goals (clear C; simp only [i32_lt, i32_le] at *; grind)
  refine mv_aload_n C rfl rfl ?_
  refine mv_iload_n C rfl rfl ?_
  refine mv_cV C rfl (r_hasParish _ _) (by decide) rfl rfl rfl (Nat.le_of_ble_eq_true rfl) (Nat.le_refl _) (Nat.le_refl _) rfl ?_
  refine mv_if_eq C rfl (fun c5 => ?_) (fun c5 => ?_)
  · try simp only [b01, b10, Classical.not_not] at c5
    try simp (disch := omega) only [lit_0, lit_1, lit_2, lit_3, lit_4, lit_5, lit_6, lit_7, lit_8, lit_9, lit_10, lit_11, lit_12, lit_23, lit_24, lit_30, lit_31, lit_32, lit_39, lit_40, lit_41, lit_46, lit_47, lit_48, lit_96, lit_99, lit_100, lit_255, lit_999, lit_1000, lit_2024, lit_32767, lit_1000000, nI_ltI, nI_leI, nI_eq, Nat.not_lt, Nat.not_le] at c5
    try simp only [unl_0, unl_1, unl_2, unl_3, unl_4, unl_5, unl_6, unl_7, unl_8, unl_9, unl_10, unl_11, unl_12, unl_23, unl_24, unl_30, unl_31, unl_32, unl_39, unl_40, unl_41, unl_46, unl_47, unl_48, unl_96, unl_99, unl_100, unl_255, unl_999, unl_1000, unl_2024, unl_32767, unl_1000000] at c5
    refine mv_iconst C rfl ?_
    exact fin _ (by grind)
  · try simp only [b01, b10, Classical.not_not] at c5
    try simp (disch := omega) only [lit_0, lit_1, lit_2, lit_3, lit_4, lit_5, lit_6, lit_7, lit_8, lit_9, lit_10, lit_11, lit_12, lit_23, lit_24, lit_30, lit_31, lit_32, lit_39, lit_40, lit_41, lit_46, lit_47, lit_48, lit_96, lit_99, lit_100, lit_255, lit_999, lit_1000, lit_2024, lit_32767, lit_1000000, nI_ltI, nI_leI, nI_eq, Nat.not_lt, Nat.not_le] at c5
    try simp only [unl_0, unl_1, unl_2, unl_3, unl_4, unl_5, unl_6, unl_7, unl_8, unl_9, unl_10, unl_11, unl_12, unl_23, unl_24, unl_30, unl_31, unl_32, unl_39, unl_40, unl_41, unl_46, unl_47, unl_48, unl_96, unl_99, unl_100, unl_255, unl_999, unl_1000, unl_2024, unl_32767, unl_1000000] at c5
    refine mv_aload_n C rfl rfl ?_
    refine mv_iload_n C rfl rfl ?_
    refine mv_cV C rfl (r_hasParish _ _) (by decide) rfl rfl rfl (Nat.le_of_ble_eq_true rfl) (Nat.le_refl _) (Nat.le_refl _) rfl ?_
    refine mv_if_eq C rfl (fun c13 => ?_) (fun c13 => ?_)
    · try simp only [b01, b10, Classical.not_not] at c13
      try simp (disch := omega) only [lit_0, lit_1, lit_2, lit_3, lit_4, lit_5, lit_6, lit_7, lit_8, lit_9, lit_10, lit_11, lit_12, lit_23, lit_24, lit_30, lit_31, lit_32, lit_39, lit_40, lit_41, lit_46, lit_47, lit_48, lit_96, lit_99, lit_100, lit_255, lit_999, lit_1000, lit_2024, lit_32767, lit_1000000, nI_ltI, nI_leI, nI_eq, Nat.not_lt, Nat.not_le] at c13
      try simp only [unl_0, unl_1, unl_2, unl_3, unl_4, unl_5, unl_6, unl_7, unl_8, unl_9, unl_10, unl_11, unl_12, unl_23, unl_24, unl_30, unl_31, unl_32, unl_39, unl_40, unl_41, unl_46, unl_47, unl_48, unl_96, unl_99, unl_100, unl_255, unl_999, unl_1000, unl_2024, unl_32767, unl_1000000] at c13
      refine mv_iconst C rfl ?_
      exact fin _ (by grind)
    · try simp only [b01, b10, Classical.not_not] at c13
      try simp (disch := omega) only [lit_0, lit_1, lit_2, lit_3, lit_4, lit_5, lit_6, lit_7, lit_8, lit_9, lit_10, lit_11, lit_12, lit_23, lit_24, lit_30, lit_31, lit_32, lit_39, lit_40, lit_41, lit_46, lit_47, lit_48, lit_96, lit_99, lit_100, lit_255, lit_999, lit_1000, lit_2024, lit_32767, lit_1000000, nI_ltI, nI_leI, nI_eq, Nat.not_lt, Nat.not_le] at c13
      try simp only [unl_0, unl_1, unl_2, unl_3, unl_4, unl_5, unl_6, unl_7, unl_8, unl_9, unl_10, unl_11, unl_12, unl_23, unl_24, unl_30, unl_31, unl_32, unl_39, unl_40, unl_41, unl_46, unl_47, unl_48, unl_96, unl_99, unl_100, unl_255, unl_999, unl_1000, unl_2024, unl_32767, unl_1000000] at c13
      refine mv_iload_n C rfl rfl ?_
      refine mv_iload_n C rfl rfl ?_
      refine mv_icmp_eq C rfl (fun c18 => ?_) (fun c18 => ?_)
      · try simp only [b01, b10, Classical.not_not] at c18
        try simp (disch := omega) only [lit_0, lit_1, lit_2, lit_3, lit_4, lit_5, lit_6, lit_7, lit_8, lit_9, lit_10, lit_11, lit_12, lit_23, lit_24, lit_30, lit_31, lit_32, lit_39, lit_40, lit_41, lit_46, lit_47, lit_48, lit_96, lit_99, lit_100, lit_255, lit_999, lit_1000, lit_2024, lit_32767, lit_1000000, nI_ltI, nI_leI, nI_eq, Nat.not_lt, Nat.not_le] at c18
        try simp only [unl_0, unl_1, unl_2, unl_3, unl_4, unl_5, unl_6, unl_7, unl_8, unl_9, unl_10, unl_11, unl_12, unl_23, unl_24, unl_30, unl_31, unl_32, unl_39, unl_40, unl_41, unl_46, unl_47, unl_48, unl_96, unl_99, unl_100, unl_255, unl_999, unl_1000, unl_2024, unl_32767, unl_1000000] at c18
        refine mv_iconst C rfl ?_
        exact fin _ (by grind)
      · try simp only [b01, b10, Classical.not_not] at c18
        try simp (disch := omega) only [lit_0, lit_1, lit_2, lit_3, lit_4, lit_5, lit_6, lit_7, lit_8, lit_9, lit_10, lit_11, lit_12, lit_23, lit_24, lit_30, lit_31, lit_32, lit_39, lit_40, lit_41, lit_46, lit_47, lit_48, lit_96, lit_99, lit_100, lit_255, lit_999, lit_1000, lit_2024, lit_32767, lit_1000000, nI_ltI, nI_leI, nI_eq, Nat.not_lt, Nat.not_le] at c18
        try simp only [unl_0, unl_1, unl_2, unl_3, unl_4, unl_5, unl_6, unl_7, unl_8, unl_9, unl_10, unl_11, unl_12, unl_23, unl_24, unl_30, unl_31, unl_32, unl_39, unl_40, unl_41, unl_46, unl_47, unl_48, unl_96, unl_99, unl_100, unl_255, unl_999, unl_1000, unl_2024, unl_32767, unl_1000000] at c18
        refine mv_iconst C rfl ?_
        refine mv_goto C rfl ?_
        exact fin _ (by grind)
theorem r_factsAdd (z : mv_Z) (k o h : Int32) (n : Nat) (hn : z.1 10 4 = nI n) (h40 : n ≤ 40) : mv_Runs 2 44 [.ref 10, .int k, .int o, .int h] (mv_E z) (some (.int (if (0 ≤ h ∧ h < 48) ∧ n < 40 then nI n else -1))) (mv_E (if (0 ≤ h ∧ h < 48) ∧ n < 40 then mv_u (mv_u (mv_u (mv_u z 11 n k) 12 n o) 13 n h) 10 4 (nI (n + 1)) else z)) := by
  refine mv_start pX5_add (some .int) [some (.ref 10), some (.int k), some (.int o), some (.int h)] rfl rfl rfl rfl (fun V C => ?_)
  refine mv_iload_n C rfl rfl ?_
  refine mv_cS C rfl (r_isHour _ _) (by decide) rfl (Nat.le_of_ble_eq_true rfl) (Nat.le_refl _) (Nat.le_refl _) rfl ?_
  refine mv_if_eq C rfl (fun c4 => ?_) (fun c4 => ?_)
  · try simp only [b01, b10, Classical.not_not] at c4
    try simp (disch := omega) only [lit_0, lit_1, lit_2, lit_3, lit_4, lit_5, lit_6, lit_7, lit_8, lit_9, lit_10, lit_11, lit_12, lit_23, lit_24, lit_30, lit_31, lit_32, lit_39, lit_40, lit_41, lit_46, lit_47, lit_48, lit_96, lit_99, lit_100, lit_255, lit_999, lit_1000, lit_2024, lit_32767, lit_1000000, nI_ltI, nI_leI, nI_eq, Nat.not_lt, Nat.not_le] at c4
    try simp only [unl_0, unl_1, unl_2, unl_3, unl_4, unl_5, unl_6, unl_7, unl_8, unl_9, unl_10, unl_11, unl_12, unl_23, unl_24, unl_30, unl_31, unl_32, unl_39, unl_40, unl_41, unl_46, unl_47, unl_48, unl_96, unl_99, unl_100, unl_255, unl_999, unl_1000, unl_2024, unl_32767, unl_1000000] at c4
    refine mv_iconst C rfl ?_
    refine mv_ireturn C rfl mv_okI ?_ ?_
    all_goals (clear C; grind)
  · try simp only [b01, b10, Classical.not_not] at c4
    try simp (disch := omega) only [lit_0, lit_1, lit_2, lit_3, lit_4, lit_5, lit_6, lit_7, lit_8, lit_9, lit_10, lit_11, lit_12, lit_23, lit_24, lit_30, lit_31, lit_32, lit_39, lit_40, lit_41, lit_46, lit_47, lit_48, lit_96, lit_99, lit_100, lit_255, lit_999, lit_1000, lit_2024, lit_32767, lit_1000000, nI_ltI, nI_leI, nI_eq, Nat.not_lt, Nat.not_le] at c4
    try simp only [unl_0, unl_1, unl_2, unl_3, unl_4, unl_5, unl_6, unl_7, unl_8, unl_9, unl_10, unl_11, unl_12, unl_23, unl_24, unl_30, unl_31, unl_32, unl_39, unl_40, unl_41, unl_46, unl_47, unl_48, unl_96, unl_99, unl_100, unl_255, unl_999, unl_1000, unl_2024, unl_32767, unl_1000000] at c4
    refine mv_aload_n C rfl rfl ?_
    refine mv_getJ C rfl rfl rfl hn ?_
    refine mv_bipush C rfl ?_
    refine mv_icmp_lt C rfl (fun c13 => ?_) (fun c13 => ?_)
    · try simp only [b01, b10, Classical.not_not] at c13
      try simp (disch := omega) only [lit_0, lit_1, lit_2, lit_3, lit_4, lit_5, lit_6, lit_7, lit_8, lit_9, lit_10, lit_11, lit_12, lit_23, lit_24, lit_30, lit_31, lit_32, lit_39, lit_40, lit_41, lit_46, lit_47, lit_48, lit_96, lit_99, lit_100, lit_255, lit_999, lit_1000, lit_2024, lit_32767, lit_1000000, nI_ltI, nI_leI, nI_eq, Nat.not_lt, Nat.not_le] at c13
      try simp only [unl_0, unl_1, unl_2, unl_3, unl_4, unl_5, unl_6, unl_7, unl_8, unl_9, unl_10, unl_11, unl_12, unl_23, unl_24, unl_30, unl_31, unl_32, unl_39, unl_40, unl_41, unl_46, unl_47, unl_48, unl_96, unl_99, unl_100, unl_255, unl_999, unl_1000, unl_2024, unl_32767, unl_1000000] at c13
      refine mv_aload_n C rfl rfl ?_
      refine mv_getR C rfl rfl rfl ?_
      refine mv_aload_n C rfl rfl ?_
      refine mv_getJ C rfl rfl rfl hn ?_
      refine mv_iload_n C rfl rfl ?_
      refine mv_ast C rfl rfl rfl (by omega) ?_
      refine mv_aload_n C rfl rfl ?_
      refine mv_getR C rfl rfl rfl ?_
      refine mv_aload_n C rfl rfl ?_
      refine mv_getJ C rfl rfl rfl hn ?_
      refine mv_iload_n C rfl rfl ?_
      refine mv_ast C rfl rfl rfl (by omega) ?_
      refine mv_aload_n C rfl rfl ?_
      refine mv_getR C rfl rfl rfl ?_
      refine mv_aload_n C rfl rfl ?_
      refine mv_getJ C rfl rfl rfl hn ?_
      refine mv_iload_n C rfl rfl ?_
      refine mv_ast C rfl rfl rfl (by omega) ?_
      refine mv_aload_n C rfl rfl ?_
      refine mv_dup C rfl rfl ?_
      refine mv_getJ C rfl rfl rfl hn ?_
      refine mv_iconst C rfl ?_
      refine mv_iadd C rfl ?_
      refine mv_top (nI_1 _) ?_
      refine mv_putI C rfl rfl rfl rfl ?_
      refine mv_aload_n C rfl rfl ?_
      refine mv_getJ C rfl rfl rfl (show _ = nI (n + 1) from rfl) ?_
      refine mv_iconst C rfl ?_
      refine mv_isub C rfl ?_
      refine mv_top (nI_pred _) ?_
      refine mv_ireturn C rfl mv_okI ?_ ?_
      all_goals (clear C; grind)
    · try simp only [b01, b10, Classical.not_not] at c13
      try simp (disch := omega) only [lit_0, lit_1, lit_2, lit_3, lit_4, lit_5, lit_6, lit_7, lit_8, lit_9, lit_10, lit_11, lit_12, lit_23, lit_24, lit_30, lit_31, lit_32, lit_39, lit_40, lit_41, lit_46, lit_47, lit_48, lit_96, lit_99, lit_100, lit_255, lit_999, lit_1000, lit_2024, lit_32767, lit_1000000, nI_ltI, nI_leI, nI_eq, Nat.not_lt, Nat.not_le] at c13
      try simp only [unl_0, unl_1, unl_2, unl_3, unl_4, unl_5, unl_6, unl_7, unl_8, unl_9, unl_10, unl_11, unl_12, unl_23, unl_24, unl_30, unl_31, unl_32, unl_39, unl_40, unl_41, unl_46, unl_47, unl_48, unl_96, unl_99, unl_100, unl_255, unl_999, unl_1000, unl_2024, unl_32767, unl_1000000] at c13
      refine mv_iconst C rfl ?_
      refine mv_ireturn C rfl mv_okI ?_ ?_
      all_goals (clear C; grind)
end
end
section
theorem mv_u_ne {z : mv_Z} {k i q : Nat} {x : Int32} (h : ¬ q = k) : (mv_u z k i x).1 q = z.1 q := by simp only [mv_u, va_up, h, if_false]
theorem mv_u_at {z : mv_Z} {k i j : Nat} {x : Int32} (h : ¬ j = i) : (mv_u z k i x).1 k j = z.1 k j := by simp only [mv_u, va_up, if_true, upd, h, if_false]
theorem mv_u_eq {z : mv_Z} {k i : Nat} {x : Int32} : (mv_u z k i x).1 k i = x := by simp [mv_u, va_up, upd]
theorem tX_cells : ∀ q ∈ tX, q.1 < 34 ∧ q.1 ≠ 3 ∧ q.1 ≠ 23 ∧ q.1 ≠ 26 ∧ q.1 ≠ 31 := by decide
theorem tX_keys : ∀ q ∈ tX, q.2 ≠ 7 ∧ q.2 ≠ 8 ∧ q.2 ≠ 14 ∧ q.2 ≠ 18 ∧ q.2 ≠ 21 ∧ q.2 ≠ 22 ∧ q.2 ≠ 23 ∧ q.2 ≠ 24 ∧ q.2 ≠ 25 ∧ q.2 ≠ 26 ∧ q.2 ≠ 27 ∧ q.2 ≠ 28 ∧ q.2 ≠ 30 ∧ q.2 ≠ 31 := by decide
/-- a plain array of the class' side, not the counties -/
theorem rX_arr {u : hM} {z : mv_Z} (h : rX u z) (cell key i c : Nat) (hc : (cell, key) ∈ tX) (hk : key ≠ 1) : rX (hu u key i c) (mv_u z cell i (nI c)) := by
  obtain ⟨h1, h2, h3, h4, h5, h6, h7, h8⟩ := h
  obtain ⟨c1, c2, c3, c4, c5⟩ := tX_cells _ hc
  obtain ⟨k7, k8, k14, k18, k21, k22, k23, k24, k25, k26, k27, k28, k30, k31⟩ := tX_keys _ hc
  dsimp only at c1 c2 c3 c4 c5 k7 k8 k14 k18 k21 k22 k23 k24 k25 k26 k27 k28 k30 k31
  unfold rX
  rw [hu_key k7.symm, hu_key k8.symm, hu_key k14.symm, hu_key k18.symm, hu_key k21.symm, hu_key k22.symm, hu_key k23.symm, hu_key k24.symm, hu_key k25.symm, hu_key k26.symm, hu_key k27.symm, hu_key k28.symm, hu_key k30.symm, hu_key k31.symm, hu_key hk.symm]
  rw [mv_u_ne (q := 3) c2.symm, mv_u_ne (q := 23) c3.symm, mv_u_ne (q := 26) c4.symm, mv_u_ne (q := 31) c5.symm, mv_u_ne (q := 67) (by omega)]
  refine ⟨rT_arr rOkX h1 hc i c, h2, h3, h4, h5, fun a ha => ?_, h7, h8⟩
  rw [mv_u_ne (q := 34 + 4 * a) (by omega), mv_u_ne (q := 35 + 4 * a) (by omega), mv_u_ne (q := 36 + 4 * a) (by omega), mv_u_ne (q := 37 + 4 * a) (by omega)]
  exact h6 a ha
def sX0 : List (Nat × Nat × Nat) := [(3, 6, 0), (3, 7, 2), (10, 4, 9), (21, 3, 16), (27, 1, 19)]
theorem sX0_in : ∀ q ∈ sX0, q ∈ sX ∧ q.1 < 28 ∧ q.1 ≠ 23 ∧ q.1 ≠ 26 ∧ ¬ (q.1 = 3 ∧ q.2.1 = 8) ∧ ¬ (q.1 = 3 ∧ q.2.1 = 9) := by decide
theorem sX0_keys : ∀ q ∈ sX0, q.2.2 ≠ 1 ∧ q.2.2 ≠ 7 ∧ q.2.2 ≠ 8 ∧ q.2.2 ≠ 14 ∧ q.2.2 ≠ 18 ∧ q.2.2 ≠ 21 ∧ q.2.2 ≠ 22 ∧ q.2.2 ≠ 23 ∧ q.2.2 ≠ 24 ∧ q.2.2 ≠ 25 ∧ q.2.2 ≠ 26 ∧ q.2.2 ≠ 27 ∧ q.2.2 ≠ 28 ∧ q.2.2 ≠ 30 ∧ q.2.2 ≠ 31 := by decide
theorem mv_u_sl {z : mv_Z} {k i q j : Nat} {x : Int32} (h : ¬ (k = q ∧ i = j)) : (mv_u z k i x).1 q j = z.1 q j := by
  by_cases e : q = k
  · subst e
    exact mv_u_at (fun e => h ⟨rfl, e.symm⟩)
  · rw [mv_u_ne e]
theorem rX_sc {u : hM} {z : mv_Z} (h : rX u z) (cell slot key c : Nat) (hc : (cell, slot, key) ∈ sX0) : rX (hu u key 0 c) (mv_u z cell slot (nI c)) := by
  obtain ⟨h1, h2, h3, h4, h5, h6, h7, h8⟩ := h
  obtain ⟨c0, c1, c2, c3, c4, c5⟩ := sX0_in _ hc
  obtain ⟨k1, k7, k8, k14, k18, k21, k22, k23, k24, k25, k26, k27, k28, k30, k31⟩ := sX0_keys _ hc
  dsimp only at c0 c1 c2 c3 c4 c5 k1 k7 k8 k14 k18 k21 k22 k23 k24 k25 k26 k27 k28 k30 k31
  unfold rX
  rw [hu_key k1.symm, hu_key k7.symm, hu_key k8.symm, hu_key k14.symm, hu_key k18.symm, hu_key k21.symm, hu_key k22.symm, hu_key k23.symm, hu_key k24.symm, hu_key k25.symm, hu_key k26.symm, hu_key k27.symm, hu_key k28.symm, hu_key k30.symm, hu_key k31.symm]
  rw [mv_u_sl c4, mv_u_sl c5, mv_u_ne (q := 23) c2.symm, mv_u_ne (q := 26) c3.symm, mv_u_ne (q := 31) (by omega), mv_u_ne (q := 67) (by omega)]
  refine ⟨rT_sc rOkX h1 c0 c, h2, h3, h4, h5, fun a ha => ?_, h7, h8⟩
  rw [mv_u_ne (q := 34 + 4 * a) (by omega), mv_u_ne (q := 35 + 4 * a) (by omega), mv_u_ne (q := 36 + 4 * a) (by omega), mv_u_ne (q := 37 + 4 * a) (by omega)]
  exact h6 a ha
/-- cells that are no part of the class' side: what a method uses for itself -/
theorem rX_free {u : hM} {z : mv_Z} (h : rX u z) (cell i : Nat) (x : Int32) (hu8 : u 21 0 ≤ 8) (hc : cell ∈ [1, 5, 15, 17, 18, 19, 20, 33]) : rX u (mv_u z cell i x) := by
  obtain ⟨h1, h2, h3, h4, h5, h6, h7, h8⟩ := h
  have e : ∀ c ∈ [1, 5, 15, 17, 18, 19, 20, 33], c < 34 ∧ c ≠ 3 ∧ c ≠ 23 ∧ c ≠ 26 ∧ c ≠ 31 ∧ (∀ q ∈ tX, q.1 ≠ c) ∧ ∀ q ∈ sX, q.1 ≠ c := by decide
  obtain ⟨c1, c2, c3, c4, c5, c6, c7⟩ := e _ hc
  unfold rX
  rw [mv_u_ne (q := 3) c2.symm, mv_u_ne (q := 23) c3.symm, mv_u_ne (q := 26) c4.symm, mv_u_ne (q := 31) c5.symm, mv_u_ne (q := 67) (by omega)]
  refine ⟨rT_out h1 cell i x c6 (fun q hq hh => c7 q hq hh.1), h2, h3, h4, h5, fun a ha => ?_, h7, h8⟩
  rw [mv_u_ne (q := 34 + 4 * a) (by omega), mv_u_ne (q := 35 + 4 * a) (by omega), mv_u_ne (q := 36 + 4 * a) (by omega), mv_u_ne (q := 37 + 4 * a) (by omega)]
  exact h6 a ha
theorem tM_cells : ∀ q ∈ tM, 68 < q.1 ∧ q.1 ≠ 84 ∧ q.1 ≠ 89 ∧ q.1 ≠ 90 ∧ q.1 ≠ 91 ∧ q.1 ≠ 92 ∧ q.1 ≠ 93 ∧ q.1 ≠ 82 := by decide
theorem tM_keys : ∀ q ∈ tM, q.2 ≠ 8 ∧ q.2 ≠ 14 ∧ q.2 ≠ 21 ∧ q.2 ≠ 22 ∧ q.2 ≠ 23 ∧ q.2 ≠ 24 ∧ q.2 ≠ 25 ∧ q.2 ≠ 26 ∧ q.2 ≠ 30 ∧ q.2 ≠ 31 := by decide
theorem rM_arr {u : hM} {z : mv_Z} (h : rM u z) (cell key i c : Nat) (hc : (cell, key) ∈ tM) : rM (hu u key i c) (mv_u z cell i (nI c)) := by
  obtain ⟨h1, h3, h4, h6, h8⟩ := h
  obtain ⟨c1, c2, c3, c4, c5, c6, c7, c8⟩ := tM_cells _ hc
  obtain ⟨k8, k14, k21, k22, k23, k24, k25, k26, k30, k31⟩ := tM_keys _ hc
  dsimp only at c1 c2 c3 c4 c5 c6 c7 c8 k8 k14 k21 k22 k23 k24 k25 k26 k30 k31
  unfold rM
  rw [hu_key k8.symm, hu_key k14.symm, hu_key k21.symm, hu_key k22.symm, hu_key k23.symm, hu_key k24.symm, hu_key k25.symm, hu_key k26.symm, hu_key k30.symm, hu_key k31.symm]
  rw [mv_u_ne (q := 68) (by omega), mv_u_ne (q := 84) c2.symm, mv_u_ne (q := 89) c3.symm, mv_u_ne (q := 90) c4.symm, mv_u_ne (q := 91) c5.symm, mv_u_ne (q := 92) c6.symm, mv_u_ne (q := 93) c7.symm, mv_u_ne (q := 82) c8.symm]
  exact ⟨rT_arr rOkM h1 hc i c, h3, h4, h6, h8⟩
def sM0 : List (Nat × Nat × Nat) := [(68, 1, 0), (68, 4, 2), (68, 11, 9), (68, 23, 16), (68, 27, 19), (68, 36, 27)]
theorem sM0_in : ∀ q ∈ sM0, q ∈ sM ∧ q.1 = 68 ∧ ¬ (q.1 = 68 ∧ q.2.1 = 9) := by decide
theorem sM0_keys : ∀ q ∈ sM0, q.2.2 ≠ 8 ∧ q.2.2 ≠ 14 ∧ q.2.2 ≠ 21 ∧ q.2.2 ≠ 22 ∧ q.2.2 ≠ 23 ∧ q.2.2 ≠ 24 ∧ q.2.2 ≠ 25 ∧ q.2.2 ≠ 26 ∧ q.2.2 ≠ 30 ∧ q.2.2 ≠ 31 := by decide
theorem rM_sc {u : hM} {z : mv_Z} (h : rM u z) (slot key c : Nat) (hc : (68, slot, key) ∈ sM0) : rM (hu u key 0 c) (mv_u z 68 slot (nI c)) := by
  obtain ⟨h1, h3, h4, h6, h8⟩ := h
  obtain ⟨c0, -, c4⟩ := sM0_in _ hc
  obtain ⟨k8, k14, k21, k22, k23, k24, k25, k26, k30, k31⟩ := sM0_keys _ hc
  dsimp only at c0 c4 k8 k14 k21 k22 k23 k24 k25 k26 k30 k31
  unfold rM
  rw [hu_key k8.symm, hu_key k14.symm, hu_key k21.symm, hu_key k22.symm, hu_key k23.symm, hu_key k24.symm, hu_key k25.symm, hu_key k26.symm, hu_key k30.symm, hu_key k31.symm]
  rw [mv_u_sl c4, mv_u_ne (q := 84) (by omega), mv_u_ne (q := 89) (by omega), mv_u_ne (q := 90) (by omega), mv_u_ne (q := 91) (by omega), mv_u_ne (q := 92) (by omega), mv_u_ne (q := 93) (by omega), mv_u_ne (q := 82) (by omega)]
  exact ⟨rT_sc rOkM h1 c0 c, h3, h4, h6, h8⟩
/-- cells and slots that the reference uses for itself: away, might, goes, back; thrown, at, number -/
theorem rM_free {u : hM} {z : mv_Z} (h : rM u z) (cell i : Nat) (x : Int32) (hc : cell ∈ [75, 80, 81, 83] ∨ (cell = 68 ∧ i ∈ [0, 34, 35])) : rM u (mv_u z cell i x) := by
  obtain ⟨h1, h3, h4, h6, h8⟩ := h
  have e1 : ∀ c ∈ [75, 80, 81, 83], c ≠ 68 ∧ c ≠ 84 ∧ c ≠ 89 ∧ c ≠ 90 ∧ c ≠ 91 ∧ c ≠ 92 ∧ c ≠ 93 ∧ c ≠ 82 ∧ (∀ q ∈ tM, q.1 ≠ c) ∧ ∀ q ∈ sM, q.1 ≠ c := by decide
  have e2 : ∀ i ∈ [0, 34, 35], i ≠ 9 ∧ (∀ q ∈ tM, q.1 ≠ 68) ∧ ∀ q ∈ sM, ¬ (q.1 = 68 ∧ q.2.1 = i) := by decide
  unfold rM
  rcases hc with hc | ⟨rfl, hc⟩
  · obtain ⟨c1, c2, c3, c4, c5, c6, c7, c8, c9, c10⟩ := e1 _ hc
    rw [mv_u_ne (q := 68) c1.symm, mv_u_ne (q := 84) c2.symm, mv_u_ne (q := 89) c3.symm, mv_u_ne (q := 90) c4.symm, mv_u_ne (q := 91) c5.symm, mv_u_ne (q := 92) c6.symm, mv_u_ne (q := 93) c7.symm, mv_u_ne (q := 82) c8.symm]
    exact ⟨rT_out h1 cell i x c9 (fun q hq hh => c10 q hq hh.1), h3, h4, h6, h8⟩
  · obtain ⟨c1, c2, c3⟩ := e2 _ hc
    rw [mv_u_sl (fun e => c1 e.2), mv_u_ne (q := 84) (by decide), mv_u_ne (q := 89) (by decide), mv_u_ne (q := 90) (by decide), mv_u_ne (q := 91) (by decide), mv_u_ne (q := 92) (by decide), mv_u_ne (q := 93) (by decide), mv_u_ne (q := 82) (by decide)]
    exact ⟨rT_out h1 68 i x c2 c3, h3, h4, h6, h8⟩
/-- a call of the class, of the reference: from numbers u to numbers u1, with the answer r -/
def xR (y : Nat) (as : List Value) (u : hM) (z : mv_Z) (r : Value) (u1 : hM) : Prop := ∃ z1, mv_Runs 20 y (.ref 0 :: as) (mv_E z) (some r) (mv_E z1) ∧ rX u1 z1 ∧ fX z z1
def mR (y : Nat) (as : List Value) (u : hM) (z : mv_Z) (r : Value) (u1 : hM) : Prop := ∃ z1, mv_Runs 20 y (.ref 68 :: as) (mv_E z) (some r) (mv_E z1) ∧ rM u1 z1 ∧ fM z z1
theorem rX_s {u : hM} {z : mv_Z} (h : rX u z) (cell slot key : Nat) (hc : (cell, slot, key) ∈ sX) : z.1 cell slot = nI (u key 0) := h.1.2 _ hc
theorem rX_a {u : hM} {z : mv_Z} (h : rX u z) (cell key : Nat) (hc : (cell, key) ∈ tX) (i : Nat) : z.1 cell i = nI (u key i) := congrFun (h.1.1 _ hc) i
theorem rM_s {u : hM} {z : mv_Z} (h : rM u z) (slot key : Nat) (hc : (68, slot, key) ∈ sM) : z.1 68 slot = nI (u key 0) := h.1.2 _ hc
theorem rM_a {u : hM} {z : mv_Z} (h : rM u z) (cell key : Nat) (hc : (cell, key) ∈ tM) (i : Nat) : z.1 cell i = nI (u key i) := congrFun (h.1.1 _ hc) i
end
section
section
theorem lgc_val (x y : Int64) : (x.toInt < y.toInt ∧ lg_cmp x y = -1) ∨ (x.toInt = y.toInt ∧ lg_cmp x y = 0) ∨ (y.toInt < x.toInt ∧ lg_cmp x y = 1) := by
  unfold lg_cmp
  rcases Int.lt_trichotomy x.toInt y.toInt with h | h | h
  · have h1 : ¬ y < x := by rw [Int64.lt_iff_toInt_lt]; omega
    have h2 : ¬ x = y := by rintro rfl; omega
    exact Or.inl ⟨h, by rw [if_neg h1, if_neg h2]⟩
  · have h2 : x = y := Int64.toInt_inj.mp h
    have h1 : ¬ y < x := by rw [Int64.lt_iff_toInt_lt]; omega
    exact Or.inr (Or.inl ⟨h, by rw [if_neg h1, if_pos h2]⟩)
  · have h1 : y < x := by rw [Int64.lt_iff_toInt_lt]; omega
    exact Or.inr (Or.inr ⟨h, by rw [if_pos h1]⟩)
theorem lgc_lt (x y : Int64) : lg_cmp x y < 0 ↔ x.toInt < y.toInt := by
  rcases lgc_val x y with ⟨h, e⟩ | ⟨h, e⟩ | ⟨h, e⟩ <;> rw [e, i32_lt] <;> simp only [i32_0, i32_1, i32_m1] <;> omega
theorem lgc_gt (x y : Int64) : 0 < lg_cmp x y ↔ y.toInt < x.toInt := by
  rcases lgc_val x y with ⟨h, e⟩ | ⟨h, e⟩ | ⟨h, e⟩ <;> rw [e, i32_lt] <;> simp only [i32_0, i32_1, i32_m1] <;> omega
theorem r_in (z : mv_Z) (x y w : Int64) : mv_Runs 1 113 [.long x, .long y, .long w] (mv_E z) (some (.int (if y.toInt ≤ x.toInt ∧ x.toInt ≤ w.toInt then 1 else 0))) (mv_E z) := by
  refine mv_start pX11_in (some .boolean) [some (.long x), none, some (.long y), none, some (.long w), none] rfl rfl rfl rfl (fun V C => ?_)
  refine mv_lload_n C rfl rfl ?_
  refine mv_lload_n C rfl rfl ?_
  refine mv_lcmp C rfl ?_
  refine mv_if_lt C rfl (fun c3 => ?_) (fun c3 => ?_)
  · first | rw [lgc_lt] at c3 | rw [lgc_gt] at c3
    refine mv_iconst C rfl ?_
    refine mv_ireturn C rfl (by first | exact mv_okZ1 | exact mv_okZ0) ?_ ?_
    all_goals (clear C; first | rfl | grind)
  · first | rw [lgc_lt] at c3 | rw [lgc_gt] at c3
    refine mv_lload_n C rfl rfl ?_
    refine mv_lload C rfl rfl ?_
    refine mv_lcmp C rfl ?_
    refine mv_if_gt C rfl (fun c10 => ?_) (fun c10 => ?_)
    · first | rw [lgc_lt] at c10 | rw [lgc_gt] at c10
      refine mv_iconst C rfl ?_
      refine mv_ireturn C rfl (by first | exact mv_okZ1 | exact mv_okZ0) ?_ ?_
      all_goals (clear C; first | rfl | grind)
    · first | rw [lgc_lt] at c10 | rw [lgc_gt] at c10
      refine mv_iconst C rfl ?_
      refine mv_goto C rfl ?_
      refine mv_ireturn C rfl (by first | exact mv_okZ1 | exact mv_okZ0) ?_ ?_
      all_goals (clear C; first | rfl | grind)
theorem r_inI (z : mv_Z) (x : Int32) (y w : Int64) (p : Prop) [Decidable p] (hp : (y.toInt ≤ x.toInt ∧ x.toInt ≤ w.toInt) ↔ p) : mv_Runs 1 113 [.long x.toInt64, .long y, .long w] (mv_E z) (some (.int (if p then 1 else 0))) (mv_E z) := by
  have := r_in z x.toInt64 y w
  rw [Int32.toInt_toInt64] at this
  simpa only [hp] using this
theorem p64 {n : Nat} (h : n < 2 ^ 31) : ((nI n - 1 : Int32).toInt64).toInt = (n : Int) - 1 := by
  rw [Int32.toInt_toInt64]
  cases n with
  | zero => rfl
  | succ k => rw [nI_pred, nI_toInt (by omega)]; omega
theorem l64_0 : (0 : Int64).toInt = 0 := rfl
theorem l64_1 : (1 : Int64).toInt = 1 := rfl
theorem l64_m1 : (-1 : Int64).toInt = -1 := rfl
theorem l64_5 : (5 : Int64).toInt = 5 := rfl
theorem l64_12 : (12 : Int64).toInt = 12 := rfl
theorem l64_31 : (31 : Int64).toInt = 31 := rfl
theorem l64_47 : (47 : Int64).toInt = 47 := rfl
theorem l64_32767 : (32767 : Int64).toInt = 32767 := rfl
theorem l64_mio : (1000000 : Int64).toInt = 1000000 := rfl
theorem inN {x : Int32} {n : Nat} (h : n < 2 ^ 31) : ((0 : Int64).toInt ≤ x.toInt ∧ x.toInt ≤ ((nI n - 1 : Int32).toInt64).toInt) ↔ (0 ≤ x ∧ x < nI n) := by
  rw [p64 h, i32_le, i32_lt, nI_toInt h, i32_0, l64_0]; omega
theorem r_mIsParish (z : mv_Z) (x : Int32) (n : Nat) (hn : z.1 68 1 = nI n) (h24 : n ≤ 24) : mv_Runs 2 115 [.ref 68, .int x] (mv_E z) (some (.int (if 0 ≤ x ∧ x < nI n then 1 else 0))) (mv_E z) := by
  refine mv_start pX11_isParish (some .boolean) [some (.ref 68), some (.int x)] rfl rfl rfl rfl (fun V C => ?_)
  refine mv_iload_n C rfl rfl ?_
  refine mv_i2l C rfl ?_
  refine mv_lconst C rfl ?_
  refine mv_aload_n C rfl rfl ?_
  refine mv_getJ C rfl rfl rfl hn ?_
  refine mv_iconst C rfl ?_
  refine mv_isub C rfl ?_
  refine mv_i2l C rfl ?_
  refine mv_cS C rfl (r_inI _ _ _ _ _ (inN (by omega))) (by decide) rfl (Nat.le_of_ble_eq_true rfl) (Nat.le_refl _) (Nat.le_refl _) rfl ?_
  refine mv_ireturn C rfl mv_okZi ?_ ?_
  all_goals rfl
theorem r_mIsHour (z : mv_Z) (x : Int32) : mv_Runs 2 116 [.int x] (mv_E z) (some (.int (if 0 ≤ x ∧ x < 48 then 1 else 0))) (mv_E z) := by
  refine mv_start pX11_isHour (some .boolean) [some (.int x)] rfl rfl rfl rfl (fun V C => ?_)
  refine mv_iload_n C rfl rfl ?_
  refine mv_i2l C rfl ?_
  refine mv_lconst C rfl ?_
  refine mv_ldc2_w C rfl ?_
  refine mv_cS C rfl (r_inI _ _ _ _ (0 ≤ x ∧ x < 48) (by rw [i32_le, i32_lt, i32_0, i32_48, l64_0, l64_47]; omega)) (by decide) rfl (Nat.le_of_ble_eq_true rfl) (Nat.le_refl _) (Nat.le_refl _) rfl ?_
  refine mv_ireturn C rfl mv_okZi ?_ ?_
  all_goals rfl
theorem r_mFact (z : mv_Z) (k i o h : Int32) (n : Nat) (hn : z.1 68 11 = nI n) (h40 : n ≤ 40) : mv_Runs 3 124 [.ref 68, .int k, .int i, .int o, .int h] (mv_E z) (some (.int (if ¬ i = 0 ∧ (0 ≤ h ∧ h < 48) ∧ n < 40 then nI n else -1))) (mv_E (if ¬ i = 0 ∧ (0 ≤ h ∧ h < 48) ∧ n < 40 then mv_u (mv_u (mv_u (mv_u (mv_u z 76 n k) 77 n o) 78 n h) 79 n 0) 68 11 (nI (n + 1)) else z)) := by
  refine mv_start pX11_fact (some .int) [some (.ref 68), some (.int k), some (.int i), some (.int o), some (.int h)] rfl rfl rfl rfl (fun V C => ?_)
  refine mv_iload_n C rfl rfl ?_
  refine mv_if_eq C rfl (fun c1 => ?_) (fun c1 => ?_)
  · try simp only [b01, b10, Classical.not_not] at c1
    try simp (disch := omega) only [lit_0, lit_1, lit_2, lit_3, lit_4, lit_5, lit_6, lit_7, lit_8, lit_9, lit_10, lit_11, lit_12, lit_23, lit_24, lit_30, lit_31, lit_32, lit_39, lit_40, lit_41, lit_46, lit_47, lit_48, lit_96, lit_99, lit_100, lit_255, lit_999, lit_1000, lit_2024, lit_32767, lit_1000000, nI_ltI, nI_leI, nI_eq, Nat.not_lt, Nat.not_le] at c1
    try simp only [unl_0, unl_1, unl_2, unl_3, unl_4, unl_5, unl_6, unl_7, unl_8, unl_9, unl_10, unl_11, unl_12, unl_23, unl_24, unl_30, unl_31, unl_32, unl_39, unl_40, unl_41, unl_46, unl_47, unl_48, unl_96, unl_99, unl_100, unl_255, unl_999, unl_1000, unl_2024, unl_32767, unl_1000000] at c1
    refine mv_iconst C rfl ?_
    refine mv_ireturn C rfl mv_okI ?_ ?_
    all_goals (clear C; grind)
  · try simp only [b01, b10, Classical.not_not] at c1
    try simp (disch := omega) only [lit_0, lit_1, lit_2, lit_3, lit_4, lit_5, lit_6, lit_7, lit_8, lit_9, lit_10, lit_11, lit_12, lit_23, lit_24, lit_30, lit_31, lit_32, lit_39, lit_40, lit_41, lit_46, lit_47, lit_48, lit_96, lit_99, lit_100, lit_255, lit_999, lit_1000, lit_2024, lit_32767, lit_1000000, nI_ltI, nI_leI, nI_eq, Nat.not_lt, Nat.not_le] at c1
    try simp only [unl_0, unl_1, unl_2, unl_3, unl_4, unl_5, unl_6, unl_7, unl_8, unl_9, unl_10, unl_11, unl_12, unl_23, unl_24, unl_30, unl_31, unl_32, unl_39, unl_40, unl_41, unl_46, unl_47, unl_48, unl_96, unl_99, unl_100, unl_255, unl_999, unl_1000, unl_2024, unl_32767, unl_1000000] at c1
    refine mv_iload C rfl rfl ?_
    refine mv_cS C rfl (mv_up (r_mIsHour _ _) rfl) (by decide) rfl (Nat.le_of_ble_eq_true rfl) (Nat.le_refl _) (Nat.le_refl _) rfl ?_
    refine mv_if_eq C rfl (fun c9 => ?_) (fun c9 => ?_)
    · try simp only [b01, b10, Classical.not_not] at c9
      try simp (disch := omega) only [lit_0, lit_1, lit_2, lit_3, lit_4, lit_5, lit_6, lit_7, lit_8, lit_9, lit_10, lit_11, lit_12, lit_23, lit_24, lit_30, lit_31, lit_32, lit_39, lit_40, lit_41, lit_46, lit_47, lit_48, lit_96, lit_99, lit_100, lit_255, lit_999, lit_1000, lit_2024, lit_32767, lit_1000000, nI_ltI, nI_leI, nI_eq, Nat.not_lt, Nat.not_le] at c9
      try simp only [unl_0, unl_1, unl_2, unl_3, unl_4, unl_5, unl_6, unl_7, unl_8, unl_9, unl_10, unl_11, unl_12, unl_23, unl_24, unl_30, unl_31, unl_32, unl_39, unl_40, unl_41, unl_46, unl_47, unl_48, unl_96, unl_99, unl_100, unl_255, unl_999, unl_1000, unl_2024, unl_32767, unl_1000000] at c9
      refine mv_iconst C rfl ?_
      refine mv_ireturn C rfl mv_okI ?_ ?_
      all_goals (clear C; grind)
    · try simp only [b01, b10, Classical.not_not] at c9
      try simp (disch := omega) only [lit_0, lit_1, lit_2, lit_3, lit_4, lit_5, lit_6, lit_7, lit_8, lit_9, lit_10, lit_11, lit_12, lit_23, lit_24, lit_30, lit_31, lit_32, lit_39, lit_40, lit_41, lit_46, lit_47, lit_48, lit_96, lit_99, lit_100, lit_255, lit_999, lit_1000, lit_2024, lit_32767, lit_1000000, nI_ltI, nI_leI, nI_eq, Nat.not_lt, Nat.not_le] at c9
      try simp only [unl_0, unl_1, unl_2, unl_3, unl_4, unl_5, unl_6, unl_7, unl_8, unl_9, unl_10, unl_11, unl_12, unl_23, unl_24, unl_30, unl_31, unl_32, unl_39, unl_40, unl_41, unl_46, unl_47, unl_48, unl_96, unl_99, unl_100, unl_255, unl_999, unl_1000, unl_2024, unl_32767, unl_1000000] at c9
      refine mv_aload_n C rfl rfl ?_
      refine mv_getJ C rfl rfl rfl hn ?_
      refine mv_bipush C rfl ?_
      refine mv_icmp_ne C rfl (fun c18 => ?_) (fun c18 => ?_)
      · try simp only [b01, b10, Classical.not_not] at c18
        try simp (disch := omega) only [lit_0, lit_1, lit_2, lit_3, lit_4, lit_5, lit_6, lit_7, lit_8, lit_9, lit_10, lit_11, lit_12, lit_23, lit_24, lit_30, lit_31, lit_32, lit_39, lit_40, lit_41, lit_46, lit_47, lit_48, lit_96, lit_99, lit_100, lit_255, lit_999, lit_1000, lit_2024, lit_32767, lit_1000000, nI_ltI, nI_leI, nI_eq, Nat.not_lt, Nat.not_le] at c18
        try simp only [unl_0, unl_1, unl_2, unl_3, unl_4, unl_5, unl_6, unl_7, unl_8, unl_9, unl_10, unl_11, unl_12, unl_23, unl_24, unl_30, unl_31, unl_32, unl_39, unl_40, unl_41, unl_46, unl_47, unl_48, unl_96, unl_99, unl_100, unl_255, unl_999, unl_1000, unl_2024, unl_32767, unl_1000000] at c18
        refine mv_aload_n C rfl rfl ?_
        refine mv_getR C rfl rfl rfl ?_
        refine mv_aload_n C rfl rfl ?_
        refine mv_getJ C rfl rfl rfl hn ?_
        refine mv_iload_n C rfl rfl ?_
        refine mv_ast C rfl rfl rfl (by omega) ?_
        refine mv_aload_n C rfl rfl ?_
        refine mv_getR C rfl rfl rfl ?_
        refine mv_aload_n C rfl rfl ?_
        refine mv_getJ C rfl rfl rfl hn ?_
        refine mv_iload_n C rfl rfl ?_
        refine mv_ast C rfl rfl rfl (by omega) ?_
        refine mv_aload_n C rfl rfl ?_
        refine mv_getR C rfl rfl rfl ?_
        refine mv_aload_n C rfl rfl ?_
        refine mv_getJ C rfl rfl rfl hn ?_
        refine mv_iload C rfl rfl ?_
        refine mv_ast C rfl rfl rfl (by omega) ?_
        refine mv_aload_n C rfl rfl ?_
        refine mv_getR C rfl rfl rfl ?_
        refine mv_aload_n C rfl rfl ?_
        refine mv_getJ C rfl rfl rfl hn ?_
        refine mv_iconst C rfl ?_
        refine mv_zst C rfl rfl rfl (by omega) (by simp) ?_
        refine mv_aload_n C rfl rfl ?_
        refine mv_dup C rfl rfl ?_
        refine mv_getJ C rfl rfl rfl hn ?_
        refine mv_iconst C rfl ?_
        refine mv_iadd C rfl ?_
        refine mv_top (nI_1 _) ?_
        refine mv_putI C rfl rfl rfl rfl ?_
        refine mv_aload_n C rfl rfl ?_
        refine mv_getJ C rfl rfl rfl (show _ = nI (n + 1) from rfl) ?_
        refine mv_iconst C rfl ?_
        refine mv_isub C rfl ?_
        refine mv_top (nI_pred _) ?_
        refine mv_ireturn C rfl mv_okI ?_ ?_
        all_goals (clear C; grind)
      · try simp only [b01, b10, Classical.not_not] at c18
        try simp (disch := omega) only [lit_0, lit_1, lit_2, lit_3, lit_4, lit_5, lit_6, lit_7, lit_8, lit_9, lit_10, lit_11, lit_12, lit_23, lit_24, lit_30, lit_31, lit_32, lit_39, lit_40, lit_41, lit_46, lit_47, lit_48, lit_96, lit_99, lit_100, lit_255, lit_999, lit_1000, lit_2024, lit_32767, lit_1000000, nI_ltI, nI_leI, nI_eq, Nat.not_lt, Nat.not_le] at c18
        try simp only [unl_0, unl_1, unl_2, unl_3, unl_4, unl_5, unl_6, unl_7, unl_8, unl_9, unl_10, unl_11, unl_12, unl_23, unl_24, unl_30, unl_31, unl_32, unl_39, unl_40, unl_41, unl_46, unl_47, unl_48, unl_96, unl_99, unl_100, unl_255, unl_999, unl_1000, unl_2024, unl_32767, unl_1000000] at c18
        refine mv_iconst C rfl ?_
        refine mv_ireturn C rfl mv_okI ?_ ?_
        all_goals (clear C; grind)
-- the answers and numbers of the simple calls
def a_parish (u : hM) (c : Int32) : Int32 := if (0 ≤ c ∧ c < 6) ∧ u 0 0 < 24 then nI (u 0 0) else -1
def o_parish (u : hM) (c : Int32) : hM := if (0 ≤ c ∧ c < 6) ∧ u 0 0 < 24 then hu (hu u 1 (u 0 0) c.toNatClampNeg) 0 0 (u 0 0 + 1) else u
theorem x_parish (u : hM) (z : mv_Z) (c : Int32) (hi : hI u) (h : rX u z) : xR 72 [.int c] u z (.int (a_parish u c)) (o_parish u c) := by
  have hn := rX_s h 3 6 0 (by decide)
  have R : mv_Runs 3 72 [.ref 0, .int c] (mv_E z) (some (.int (a_parish u c))) (mv_E (if (0 ≤ c ∧ c < 6) ∧ u 0 0 < 24 then mv_u (mv_u z 4 (u 0 0) c) 3 6 (nI (u 0 0 + 1)) else z)) := by
    refine mv_start pX10_parish (some .int) [some (.ref 0), some (.int c)] rfl rfl rfl rfl (fun V C => ?_)
    refine mv_aload_n C rfl rfl ?_
    refine mv_getR C rfl rfl rfl ?_
    refine mv_iload_n C rfl rfl ?_
    refine mv_cV C rfl (r_addParish _ _ _ hn hi.1) (by decide) rfl rfl rfl (Nat.le_of_ble_eq_true rfl) (Nat.le_refl _) (Nat.le_refl _) rfl ?_
    refine mv_ireturn C rfl mv_okI ?_ ?_
    all_goals rfl
  refine ⟨_, mv_up R rfl, ?_, ?_⟩
  · unfold o_parish
    by_cases hc : (0 ≤ c ∧ c < 6) ∧ u 0 0 < 24
    · rw [if_pos hc, if_pos hc]
      have e := nI_nn hc.1.1
      rw [e, nI_clamp (by have := nI_rngc hc.1.1 (show c < nI 6 from hc.1.2) (by decide); omega)]
      generalize c.toNatClampNeg = k
      refine rX_sc ?_ 3 6 0 (u 0 0 + 1) (by decide)
      obtain ⟨h1, h2, h3, h4, h5, h6, h7, h8⟩ := h
      refine ⟨rT_arr rOkX h1 (by decide) _ _, h2, h3, h4, h5, fun a ha => ?_, fun q hq => ?_, h8⟩
      · rw [mv_u_ne (by omega), mv_u_ne (by omega), mv_u_ne (by omega), mv_u_ne (by omega)]
        exact h6 a ha
      · have := hi.2.2.2.2.2.2.2.2.2.2.2.2.2.2.2.2.2.2.2.1 q hq
        have hq2 : ¬ u 28 q = u 0 0 := by omega
        show (mv_u z 4 (u 0 0) (nI k)).1 31 q = nI (hu u 1 (u 0 0) k 1 (u 28 q))
        rw [mv_u_ne (by decide), hu_ix hq2]
        exact h7 q hq
    · rw [if_neg hc, if_neg hc]; exact h
  · by_cases hc : (0 ≤ c ∧ c < 6) ∧ u 0 0 < 24
    · rw [if_pos hc]; exact fX_u (fX_u fX_rf (by decide)) (by decide)
    · rw [if_neg hc]; exact fX_rf
theorem m_parish (u : hM) (z : mv_Z) (c : Int32) (hi : hI u) (h : rM u z) : mR 117 [.int c] u z (.int (a_parish u c)) (o_parish u c) := by
  have hn := rM_s h 1 0 (by decide)
  have h24 := hi.1
  have R : mv_Runs 3 117 [.ref 68, .int c] (mv_E z) (some (.int (a_parish u c))) (mv_E (if (0 ≤ c ∧ c < 6) ∧ u 0 0 < 24 then mv_u (mv_u (mv_u z 68 0 0) 69 (u 0 0) c) 68 1 (nI (u 0 0 + 1)) else mv_u z 68 0 0)) := by
    unfold a_parish
    refine mv_start pX11_parish (some .int) [some (.ref 68), some (.int c)] rfl rfl rfl rfl (fun V C => ?_)
    refine mv_aload_n C rfl rfl ?_
    refine mv_iconst C rfl ?_
    refine mv_putI C rfl rfl rfl rfl ?_
    refine mv_iload_n C rfl rfl ?_
    refine mv_i2l C rfl ?_
    refine mv_lconst C rfl ?_
    refine mv_ldc2_w C rfl ?_
    refine mv_cS C rfl (mv_up (r_inI _ _ _ _ (0 ≤ c ∧ c < 6) (by rw [i32_le, i32_lt, i32_0, i32_6, l64_0, l64_5]; omega)) rfl) (by decide) rfl (Nat.le_of_ble_eq_true rfl) (Nat.le_refl _) (Nat.le_refl _) rfl ?_
    refine mv_if_eq C rfl (fun c14 => ?_) (fun c14 => ?_)
    · try simp only [b01, b10, Classical.not_not] at c14
      try simp (disch := omega) only [lit_0, lit_1, lit_2, lit_3, lit_4, lit_5, lit_6, lit_7, lit_8, lit_9, lit_10, lit_11, lit_12, lit_23, lit_24, lit_30, lit_31, lit_32, lit_39, lit_40, lit_41, lit_46, lit_47, lit_48, lit_96, lit_99, lit_100, lit_255, lit_999, lit_1000, lit_2024, lit_32767, lit_1000000, nI_ltI, nI_leI, nI_eq, Nat.not_lt, Nat.not_le] at c14
      try simp only [unl_0, unl_1, unl_2, unl_3, unl_4, unl_5, unl_6, unl_7, unl_8, unl_9, unl_10, unl_11, unl_12, unl_23, unl_24, unl_30, unl_31, unl_32, unl_39, unl_40, unl_41, unl_46, unl_47, unl_48, unl_96, unl_99, unl_100, unl_255, unl_999, unl_1000, unl_2024, unl_32767, unl_1000000] at c14
      refine mv_iconst C rfl ?_
      refine mv_ireturn C rfl mv_okI ?_ ?_
      all_goals (clear C; grind)
    · try simp only [b01, b10, Classical.not_not] at c14
      try simp (disch := omega) only [lit_0, lit_1, lit_2, lit_3, lit_4, lit_5, lit_6, lit_7, lit_8, lit_9, lit_10, lit_11, lit_12, lit_23, lit_24, lit_30, lit_31, lit_32, lit_39, lit_40, lit_41, lit_46, lit_47, lit_48, lit_96, lit_99, lit_100, lit_255, lit_999, lit_1000, lit_2024, lit_32767, lit_1000000, nI_ltI, nI_leI, nI_eq, Nat.not_lt, Nat.not_le] at c14
      try simp only [unl_0, unl_1, unl_2, unl_3, unl_4, unl_5, unl_6, unl_7, unl_8, unl_9, unl_10, unl_11, unl_12, unl_23, unl_24, unl_30, unl_31, unl_32, unl_39, unl_40, unl_41, unl_46, unl_47, unl_48, unl_96, unl_99, unl_100, unl_255, unl_999, unl_1000, unl_2024, unl_32767, unl_1000000] at c14
      refine mv_aload_n C rfl rfl ?_
      refine mv_getJ C rfl rfl rfl hn ?_
      refine mv_bipush C rfl ?_
      refine mv_icmp_ne C rfl (fun c23 => ?_) (fun c23 => ?_)
      · try simp only [b01, b10, Classical.not_not] at c23
        try simp (disch := omega) only [lit_0, lit_1, lit_2, lit_3, lit_4, lit_5, lit_6, lit_7, lit_8, lit_9, lit_10, lit_11, lit_12, lit_23, lit_24, lit_30, lit_31, lit_32, lit_39, lit_40, lit_41, lit_46, lit_47, lit_48, lit_96, lit_99, lit_100, lit_255, lit_999, lit_1000, lit_2024, lit_32767, lit_1000000, nI_ltI, nI_leI, nI_eq, Nat.not_lt, Nat.not_le] at c23
        try simp only [unl_0, unl_1, unl_2, unl_3, unl_4, unl_5, unl_6, unl_7, unl_8, unl_9, unl_10, unl_11, unl_12, unl_23, unl_24, unl_30, unl_31, unl_32, unl_39, unl_40, unl_41, unl_46, unl_47, unl_48, unl_96, unl_99, unl_100, unl_255, unl_999, unl_1000, unl_2024, unl_32767, unl_1000000] at c23
        refine mv_aload_n C rfl rfl ?_
        refine mv_getR C rfl rfl rfl ?_
        refine mv_aload_n C rfl rfl ?_
        refine mv_getJ C rfl rfl rfl hn ?_
        refine mv_iload_n C rfl rfl ?_
        refine mv_ast C rfl rfl rfl (by omega) ?_
        refine mv_aload_n C rfl rfl ?_
        refine mv_dup C rfl rfl ?_
        refine mv_getJ C rfl rfl rfl hn ?_
        refine mv_iconst C rfl ?_
        refine mv_iadd C rfl ?_
        refine mv_top (nI_1 _) ?_
        refine mv_putI C rfl rfl rfl rfl ?_
        refine mv_aload_n C rfl rfl ?_
        refine mv_getJ C rfl rfl rfl (show _ = nI (u 0 0 + 1) from rfl) ?_
        refine mv_iconst C rfl ?_
        refine mv_isub C rfl ?_
        refine mv_top (nI_pred _) ?_
        refine mv_ireturn C rfl mv_okI ?_ ?_
        all_goals (clear C; grind)
      · try simp only [b01, b10, Classical.not_not] at c23
        try simp (disch := omega) only [lit_0, lit_1, lit_2, lit_3, lit_4, lit_5, lit_6, lit_7, lit_8, lit_9, lit_10, lit_11, lit_12, lit_23, lit_24, lit_30, lit_31, lit_32, lit_39, lit_40, lit_41, lit_46, lit_47, lit_48, lit_96, lit_99, lit_100, lit_255, lit_999, lit_1000, lit_2024, lit_32767, lit_1000000, nI_ltI, nI_leI, nI_eq, Nat.not_lt, Nat.not_le] at c23
        try simp only [unl_0, unl_1, unl_2, unl_3, unl_4, unl_5, unl_6, unl_7, unl_8, unl_9, unl_10, unl_11, unl_12, unl_23, unl_24, unl_30, unl_31, unl_32, unl_39, unl_40, unl_41, unl_46, unl_47, unl_48, unl_96, unl_99, unl_100, unl_255, unl_999, unl_1000, unl_2024, unl_32767, unl_1000000] at c23
        refine mv_iconst C rfl ?_
        refine mv_ireturn C rfl mv_okI ?_ ?_
        all_goals (clear C; grind)
  refine ⟨_, mv_up R rfl, ?_, ?_⟩
  · unfold o_parish
    have h0 := rM_free h 68 0 0 (Or.inr ⟨rfl, by decide⟩)
    by_cases hc : (0 ≤ c ∧ c < 6) ∧ u 0 0 < 24
    · rw [if_pos hc, if_pos hc]
      have e := nI_nn hc.1.1
      rw [e, nI_clamp (by have := nI_rngc hc.1.1 (show c < nI 6 from hc.1.2) (by decide); omega)]
      exact rM_sc (rM_arr h0 69 1 _ _ (by decide)) 1 0 _ (by decide)
    · rw [if_neg hc, if_neg hc]; exact h0
  · by_cases hc : (0 ≤ c ∧ c < 6) ∧ u 0 0 < 24
    · rw [if_pos hc]; exact fM_u (fM_u (fM_u fM_rf (by decide)) (by decide)) (by decide)
    · rw [if_neg hc]; exact fM_u fM_rf (by decide)
end
end
section
section
theorem r1 {c : Prop} [Decidable c] (h : c) : (if c then (1 : Int32) else 0) = 1 := if_pos h
theorem r0 {c : Prop} [Decidable c] (h : ¬ c) : (if c then (1 : Int32) else 0) = 0 := if_neg h
theorem cl_le {x : Int32} {n : Nat} (h : 0 ≤ x) (h1 : x < nI n) (hn : n < 2 ^ 31) : x.toNatClampNeg < n := (nI_rngc h h1 hn).1
-- road
def a_road (u : hM) (a b h : Int32) : Int32 := if (0 ≤ a ∧ a < nI (u 0 0)) ∧ (0 ≤ b ∧ b < nI (u 0 0)) ∧ ¬ a = b ∧ (1 ≤ h ∧ h ≤ 12) ∧ u 2 0 < 40 then nI (u 2 0) else -1
def o_road (u : hM) (a b h : Int32) : hM := if (0 ≤ a ∧ a < nI (u 0 0)) ∧ (0 ≤ b ∧ b < nI (u 0 0)) ∧ ¬ a = b ∧ (1 ≤ h ∧ h ≤ 12) ∧ u 2 0 < 40 then hu (hu (hu (hu u 3 (u 2 0) a.toNatClampNeg) 4 (u 2 0) b.toNatClampNeg) 5 (u 2 0) h.toNatClampNeg) 2 0 (u 2 0 + 1) else u
theorem i32_1le {h : Int32} (hh : 1 ≤ h) : 0 ≤ h := by rw [i32_le] at *; simp only [i32_0, i32_1] at *; omega
theorem x_road (u : hM) (z : mv_Z) (a b h : Int32) (hi : hI u) (hz : rX u z) : xR 73 [.int a, .int b, .int h] u z (.int (a_road u a b h)) (o_road u a b h) := by
  have hn := rX_s hz 3 7 2 (by decide)
  have hp := rX_s hz 3 6 0 (by decide)
  have h40 := hi.2.2.1
  have R0 := r_addRoad z a b h _ hn h40
  rw [hp] at R0
  have R : mv_Runs 3 73 [.ref 0, .int a, .int b, .int h] (mv_E z) (some (.int (a_road u a b h))) (mv_E (if (0 ≤ a ∧ a < nI (u 0 0)) ∧ (0 ≤ b ∧ b < nI (u 0 0)) ∧ ¬ a = b ∧ (1 ≤ h ∧ h ≤ 12) ∧ u 2 0 < 40 then mv_u (mv_u (mv_u (mv_u z 6 (u 2 0) a) 7 (u 2 0) b) 8 (u 2 0) h) 3 7 (nI (u 2 0 + 1)) else z)) := by
    refine mv_start pX10_road (some .int) [some (.ref 0), some (.int a), some (.int b), some (.int h)] rfl rfl rfl rfl (fun V C => ?_)
    refine mv_aload_n C rfl rfl ?_
    refine mv_getR C rfl rfl rfl ?_
    refine mv_iload_n C rfl rfl ?_
    refine mv_iload_n C rfl rfl ?_
    refine mv_iload_n C rfl rfl ?_
    refine mv_cV C rfl R0 (by decide) rfl rfl rfl (Nat.le_of_ble_eq_true rfl) (Nat.le_refl _) (Nat.le_refl _) rfl ?_
    refine mv_ireturn C rfl mv_okI ?_ ?_
    all_goals rfl
  refine ⟨_, mv_up R rfl, ?_, ?_⟩
  · unfold o_road
    split
    · rename_i hc
      obtain ⟨⟨a1, a2⟩, ⟨b1, b2⟩, -, ⟨c1, c2⟩, -⟩ := hc
      have ea := nI_nn a1
      have eb := nI_nn b1
      have eh := nI_nn (i32_1le c1)
      generalize a.toNatClampNeg = ka at *
      generalize b.toNatClampNeg = kb at *
      generalize h.toNatClampNeg = kh at *
      subst ea; subst eb; subst eh
      exact rX_sc (rX_arr (rX_arr (rX_arr hz 6 3 _ _ (by decide) (by decide)) 7 4 _ _ (by decide) (by decide)) 8 5 _ _ (by decide) (by decide)) 3 7 2 _ (by decide)
    · exact hz
  · split
    · exact fX_u (fX_u (fX_u (fX_u fX_rf (by decide)) (by decide)) (by decide)) (by decide)
    · exact fX_rf
theorem m_road (u : hM) (z : mv_Z) (a b h : Int32) (hi : hI u) (hz : rM u z) : mR 118 [.int a, .int b, .int h] u z (.int (a_road u a b h)) (o_road u a b h) := by
  have hn := rM_s hz 4 2 (by decide)
  have hp := rM_s hz 1 0 (by decide)
  have h40 := hi.2.2.1
  have h24 := hi.1
  have R : mv_Runs 3 118 [.ref 68, .int a, .int b, .int h] (mv_E z) (some (.int (a_road u a b h))) (mv_E (if (0 ≤ a ∧ a < nI (u 0 0)) ∧ (0 ≤ b ∧ b < nI (u 0 0)) ∧ ¬ a = b ∧ (1 ≤ h ∧ h ≤ 12) ∧ u 2 0 < 40 then mv_u (mv_u (mv_u (mv_u (mv_u z 68 0 0) 71 (u 2 0) a) 72 (u 2 0) b) 73 (u 2 0) h) 68 4 (nI (u 2 0 + 1)) else mv_u z 68 0 0)) := by
    unfold a_road
    refine mv_start pX11_road (some .int) [some (.ref 68), some (.int a), some (.int b), some (.int h)] rfl rfl rfl rfl (fun V C => ?_)
    refine mv_aload_n C rfl rfl ?_
    refine mv_iconst C rfl ?_
    refine mv_putI C rfl rfl rfl rfl ?_
    refine mv_aload_n C rfl rfl ?_
    refine mv_iload_n C rfl rfl ?_
    refine mv_cV C rfl (r_mIsParish _ _ _ hp h24) (by decide) rfl rfl rfl (Nat.le_of_ble_eq_true rfl) (Nat.le_refl _) (Nat.le_refl _) rfl ?_
    refine mv_if_eq C rfl (fun c10 => ?_) (fun c10 => ?_)
    · try simp only [b01, b10, Classical.not_not] at c10
      try simp (disch := omega) only [lit_0, lit_1, lit_2, lit_3, lit_4, lit_5, lit_6, lit_7, lit_8, lit_9, lit_10, lit_11, lit_12, lit_23, lit_24, lit_30, lit_31, lit_32, lit_39, lit_40, lit_41, lit_46, lit_47, lit_48, lit_96, lit_99, lit_100, lit_255, lit_999, lit_1000, lit_2024, lit_32767, lit_1000000, nI_ltI, nI_leI, nI_eq, Nat.not_lt, Nat.not_le] at c10
      try simp only [unl_0, unl_1, unl_2, unl_3, unl_4, unl_5, unl_6, unl_7, unl_8, unl_9, unl_10, unl_11, unl_12, unl_23, unl_24, unl_30, unl_31, unl_32, unl_39, unl_40, unl_41, unl_46, unl_47, unl_48, unl_96, unl_99, unl_100, unl_255, unl_999, unl_1000, unl_2024, unl_32767, unl_1000000] at c10
      refine mv_iconst C rfl ?_
      refine mv_ireturn C rfl mv_okI ?_ ?_
      all_goals (clear C; clear hi; grind)
    · try simp only [b01, b10, Classical.not_not] at c10
      try simp (disch := omega) only [lit_0, lit_1, lit_2, lit_3, lit_4, lit_5, lit_6, lit_7, lit_8, lit_9, lit_10, lit_11, lit_12, lit_23, lit_24, lit_30, lit_31, lit_32, lit_39, lit_40, lit_41, lit_46, lit_47, lit_48, lit_96, lit_99, lit_100, lit_255, lit_999, lit_1000, lit_2024, lit_32767, lit_1000000, nI_ltI, nI_leI, nI_eq, Nat.not_lt, Nat.not_le] at c10
      try simp only [unl_0, unl_1, unl_2, unl_3, unl_4, unl_5, unl_6, unl_7, unl_8, unl_9, unl_10, unl_11, unl_12, unl_23, unl_24, unl_30, unl_31, unl_32, unl_39, unl_40, unl_41, unl_46, unl_47, unl_48, unl_96, unl_99, unl_100, unl_255, unl_999, unl_1000, unl_2024, unl_32767, unl_1000000] at c10
      refine mv_aload_n C rfl rfl ?_
      refine mv_iload_n C rfl rfl ?_
      refine mv_cV C rfl (r_mIsParish _ _ _ hp h24) (by decide) rfl rfl rfl (Nat.le_of_ble_eq_true rfl) (Nat.le_refl _) (Nat.le_refl _) rfl ?_
      refine mv_if_eq C rfl (fun c18 => ?_) (fun c18 => ?_)
      · try simp only [b01, b10, Classical.not_not] at c18
        try simp (disch := omega) only [lit_0, lit_1, lit_2, lit_3, lit_4, lit_5, lit_6, lit_7, lit_8, lit_9, lit_10, lit_11, lit_12, lit_23, lit_24, lit_30, lit_31, lit_32, lit_39, lit_40, lit_41, lit_46, lit_47, lit_48, lit_96, lit_99, lit_100, lit_255, lit_999, lit_1000, lit_2024, lit_32767, lit_1000000, nI_ltI, nI_leI, nI_eq, Nat.not_lt, Nat.not_le] at c18
        try simp only [unl_0, unl_1, unl_2, unl_3, unl_4, unl_5, unl_6, unl_7, unl_8, unl_9, unl_10, unl_11, unl_12, unl_23, unl_24, unl_30, unl_31, unl_32, unl_39, unl_40, unl_41, unl_46, unl_47, unl_48, unl_96, unl_99, unl_100, unl_255, unl_999, unl_1000, unl_2024, unl_32767, unl_1000000] at c18
        refine mv_iconst C rfl ?_
        refine mv_ireturn C rfl mv_okI ?_ ?_
        all_goals (clear C; clear hi; grind)
      · try simp only [b01, b10, Classical.not_not] at c18
        try simp (disch := omega) only [lit_0, lit_1, lit_2, lit_3, lit_4, lit_5, lit_6, lit_7, lit_8, lit_9, lit_10, lit_11, lit_12, lit_23, lit_24, lit_30, lit_31, lit_32, lit_39, lit_40, lit_41, lit_46, lit_47, lit_48, lit_96, lit_99, lit_100, lit_255, lit_999, lit_1000, lit_2024, lit_32767, lit_1000000, nI_ltI, nI_leI, nI_eq, Nat.not_lt, Nat.not_le] at c18
        try simp only [unl_0, unl_1, unl_2, unl_3, unl_4, unl_5, unl_6, unl_7, unl_8, unl_9, unl_10, unl_11, unl_12, unl_23, unl_24, unl_30, unl_31, unl_32, unl_39, unl_40, unl_41, unl_46, unl_47, unl_48, unl_96, unl_99, unl_100, unl_255, unl_999, unl_1000, unl_2024, unl_32767, unl_1000000] at c18
        refine mv_iload_n C rfl rfl ?_
        refine mv_iload_n C rfl rfl ?_
        refine mv_icmp_eq C rfl (fun c23 => ?_) (fun c23 => ?_)
        · try simp only [b01, b10, Classical.not_not] at c23
          try simp (disch := omega) only [lit_0, lit_1, lit_2, lit_3, lit_4, lit_5, lit_6, lit_7, lit_8, lit_9, lit_10, lit_11, lit_12, lit_23, lit_24, lit_30, lit_31, lit_32, lit_39, lit_40, lit_41, lit_46, lit_47, lit_48, lit_96, lit_99, lit_100, lit_255, lit_999, lit_1000, lit_2024, lit_32767, lit_1000000, nI_ltI, nI_leI, nI_eq, Nat.not_lt, Nat.not_le] at c23
          try simp only [unl_0, unl_1, unl_2, unl_3, unl_4, unl_5, unl_6, unl_7, unl_8, unl_9, unl_10, unl_11, unl_12, unl_23, unl_24, unl_30, unl_31, unl_32, unl_39, unl_40, unl_41, unl_46, unl_47, unl_48, unl_96, unl_99, unl_100, unl_255, unl_999, unl_1000, unl_2024, unl_32767, unl_1000000] at c23
          refine mv_iconst C rfl ?_
          refine mv_ireturn C rfl mv_okI ?_ ?_
          all_goals (clear C; clear hi; grind)
        · try simp only [b01, b10, Classical.not_not] at c23
          try simp (disch := omega) only [lit_0, lit_1, lit_2, lit_3, lit_4, lit_5, lit_6, lit_7, lit_8, lit_9, lit_10, lit_11, lit_12, lit_23, lit_24, lit_30, lit_31, lit_32, lit_39, lit_40, lit_41, lit_46, lit_47, lit_48, lit_96, lit_99, lit_100, lit_255, lit_999, lit_1000, lit_2024, lit_32767, lit_1000000, nI_ltI, nI_leI, nI_eq, Nat.not_lt, Nat.not_le] at c23
          try simp only [unl_0, unl_1, unl_2, unl_3, unl_4, unl_5, unl_6, unl_7, unl_8, unl_9, unl_10, unl_11, unl_12, unl_23, unl_24, unl_30, unl_31, unl_32, unl_39, unl_40, unl_41, unl_46, unl_47, unl_48, unl_96, unl_99, unl_100, unl_255, unl_999, unl_1000, unl_2024, unl_32767, unl_1000000] at c23
          refine mv_iload_n C rfl rfl ?_
          refine mv_i2l C rfl ?_
          refine mv_lconst C rfl ?_
          refine mv_ldc2_w C rfl ?_
          refine mv_cS C rfl (mv_up (r_inI _ _ _ _ (1 ≤ h ∧ h ≤ 12) (by rw [i32_le, i32_le, i32_1, i32_12, l64_1, l64_12])) rfl) (by decide) rfl (Nat.le_of_ble_eq_true rfl) (Nat.le_refl _) (Nat.le_refl _) rfl ?_
          refine mv_if_eq C rfl (fun c35 => ?_) (fun c35 => ?_)
          · try simp only [b01, b10, Classical.not_not] at c35
            try simp (disch := omega) only [lit_0, lit_1, lit_2, lit_3, lit_4, lit_5, lit_6, lit_7, lit_8, lit_9, lit_10, lit_11, lit_12, lit_23, lit_24, lit_30, lit_31, lit_32, lit_39, lit_40, lit_41, lit_46, lit_47, lit_48, lit_96, lit_99, lit_100, lit_255, lit_999, lit_1000, lit_2024, lit_32767, lit_1000000, nI_ltI, nI_leI, nI_eq, Nat.not_lt, Nat.not_le] at c35
            try simp only [unl_0, unl_1, unl_2, unl_3, unl_4, unl_5, unl_6, unl_7, unl_8, unl_9, unl_10, unl_11, unl_12, unl_23, unl_24, unl_30, unl_31, unl_32, unl_39, unl_40, unl_41, unl_46, unl_47, unl_48, unl_96, unl_99, unl_100, unl_255, unl_999, unl_1000, unl_2024, unl_32767, unl_1000000] at c35
            refine mv_iconst C rfl ?_
            refine mv_ireturn C rfl mv_okI ?_ ?_
            all_goals (clear C; clear hi; grind)
          · try simp only [b01, b10, Classical.not_not] at c35
            try simp (disch := omega) only [lit_0, lit_1, lit_2, lit_3, lit_4, lit_5, lit_6, lit_7, lit_8, lit_9, lit_10, lit_11, lit_12, lit_23, lit_24, lit_30, lit_31, lit_32, lit_39, lit_40, lit_41, lit_46, lit_47, lit_48, lit_96, lit_99, lit_100, lit_255, lit_999, lit_1000, lit_2024, lit_32767, lit_1000000, nI_ltI, nI_leI, nI_eq, Nat.not_lt, Nat.not_le] at c35
            try simp only [unl_0, unl_1, unl_2, unl_3, unl_4, unl_5, unl_6, unl_7, unl_8, unl_9, unl_10, unl_11, unl_12, unl_23, unl_24, unl_30, unl_31, unl_32, unl_39, unl_40, unl_41, unl_46, unl_47, unl_48, unl_96, unl_99, unl_100, unl_255, unl_999, unl_1000, unl_2024, unl_32767, unl_1000000] at c35
            refine mv_aload_n C rfl rfl ?_
            refine mv_getJ C rfl rfl rfl hn ?_
            refine mv_bipush C rfl ?_
            refine mv_icmp_ne C rfl (fun c44 => ?_) (fun c44 => ?_)
            · try simp only [b01, b10, Classical.not_not] at c44
              try simp (disch := omega) only [lit_0, lit_1, lit_2, lit_3, lit_4, lit_5, lit_6, lit_7, lit_8, lit_9, lit_10, lit_11, lit_12, lit_23, lit_24, lit_30, lit_31, lit_32, lit_39, lit_40, lit_41, lit_46, lit_47, lit_48, lit_96, lit_99, lit_100, lit_255, lit_999, lit_1000, lit_2024, lit_32767, lit_1000000, nI_ltI, nI_leI, nI_eq, Nat.not_lt, Nat.not_le] at c44
              try simp only [unl_0, unl_1, unl_2, unl_3, unl_4, unl_5, unl_6, unl_7, unl_8, unl_9, unl_10, unl_11, unl_12, unl_23, unl_24, unl_30, unl_31, unl_32, unl_39, unl_40, unl_41, unl_46, unl_47, unl_48, unl_96, unl_99, unl_100, unl_255, unl_999, unl_1000, unl_2024, unl_32767, unl_1000000] at c44
              refine mv_aload_n C rfl rfl ?_
              refine mv_getR C rfl rfl rfl ?_
              refine mv_aload_n C rfl rfl ?_
              refine mv_getJ C rfl rfl rfl hn ?_
              refine mv_iload_n C rfl rfl ?_
              refine mv_ast C rfl rfl rfl (by omega) ?_
              refine mv_aload_n C rfl rfl ?_
              refine mv_getR C rfl rfl rfl ?_
              refine mv_aload_n C rfl rfl ?_
              refine mv_getJ C rfl rfl rfl hn ?_
              refine mv_iload_n C rfl rfl ?_
              refine mv_ast C rfl rfl rfl (by omega) ?_
              refine mv_aload_n C rfl rfl ?_
              refine mv_getR C rfl rfl rfl ?_
              refine mv_aload_n C rfl rfl ?_
              refine mv_getJ C rfl rfl rfl hn ?_
              refine mv_iload_n C rfl rfl ?_
              refine mv_ast C rfl rfl rfl (by omega) ?_
              refine mv_aload_n C rfl rfl ?_
              refine mv_dup C rfl rfl ?_
              refine mv_getJ C rfl rfl rfl hn ?_
              refine mv_iconst C rfl ?_
              refine mv_iadd C rfl ?_
              refine mv_top (nI_1 _) ?_
              refine mv_putI C rfl rfl rfl rfl ?_
              refine mv_aload_n C rfl rfl ?_
              refine mv_getJ C rfl rfl rfl (show _ = nI (u 2 0 + 1) from rfl) ?_
              refine mv_iconst C rfl ?_
              refine mv_isub C rfl ?_
              refine mv_top (nI_pred _) ?_
              refine mv_ireturn C rfl mv_okI ?_ ?_
              all_goals (clear C; clear hi; grind)
            · try simp only [b01, b10, Classical.not_not] at c44
              try simp (disch := omega) only [lit_0, lit_1, lit_2, lit_3, lit_4, lit_5, lit_6, lit_7, lit_8, lit_9, lit_10, lit_11, lit_12, lit_23, lit_24, lit_30, lit_31, lit_32, lit_39, lit_40, lit_41, lit_46, lit_47, lit_48, lit_96, lit_99, lit_100, lit_255, lit_999, lit_1000, lit_2024, lit_32767, lit_1000000, nI_ltI, nI_leI, nI_eq, Nat.not_lt, Nat.not_le] at c44
              try simp only [unl_0, unl_1, unl_2, unl_3, unl_4, unl_5, unl_6, unl_7, unl_8, unl_9, unl_10, unl_11, unl_12, unl_23, unl_24, unl_30, unl_31, unl_32, unl_39, unl_40, unl_41, unl_46, unl_47, unl_48, unl_96, unl_99, unl_100, unl_255, unl_999, unl_1000, unl_2024, unl_32767, unl_1000000] at c44
              refine mv_iconst C rfl ?_
              refine mv_ireturn C rfl mv_okI ?_ ?_
              all_goals (clear C; clear hi; grind)
  refine ⟨_, mv_up R rfl, ?_, ?_⟩
  · unfold o_road
    have h0 := rM_free hz 68 0 0 (Or.inr ⟨rfl, by decide⟩)
    split
    · rename_i hc
      obtain ⟨⟨a1, a2⟩, ⟨b1, b2⟩, -, ⟨c1, c2⟩, -⟩ := hc
      have ea := nI_nn a1
      have eb := nI_nn b1
      have eh := nI_nn (i32_1le c1)
      generalize a.toNatClampNeg = ka at *
      generalize b.toNatClampNeg = kb at *
      generalize h.toNatClampNeg = kh at *
      subst ea; subst eb; subst eh
      exact rM_sc (rM_arr (rM_arr (rM_arr h0 71 3 _ _ (by decide)) 72 4 _ _ (by decide)) 73 5 _ _ (by decide)) 4 2 _ (by decide)
    · exact h0
  · split
    · exact fM_u (fM_u (fM_u (fM_u (fM_u fM_rf (by decide)) (by decide)) (by decide)) (by decide)) (by decide)
    · exact fM_u fM_rf (by decide)
-- shut
def a_shut (u : hM) (r : Int32) : Int32 := if 0 ≤ r ∧ r < nI (u 2 0) then 1 else 0
def o_shut (u : hM) (r : Int32) (v : Nat) : hM := if 0 ≤ r ∧ r < nI (u 2 0) then hu u 6 r.toNatClampNeg v else u
theorem v01 {v : Nat} (h : v ≤ 1) : nI v = 0 ∨ nI v = 1 := by
  rcases (show v = 0 ∨ v = 1 by omega) with rfl | rfl
  · exact Or.inl rfl
  · exact Or.inr rfl
theorem x_shut (u : hM) (z : mv_Z) (r : Int32) (v : Nat) (hv : v ≤ 1) (hi : hI u) (hz : rX u z) : xR 74 [.int r, .int (nI v)] u z (.int (a_shut u r)) (o_shut u r v) := by
  have hn := rX_s hz 3 7 2 (by decide)
  have h40 := hi.2.2.1
  have R0 := r_hasRoad z r
  rw [hn] at R0
  unfold a_shut o_shut
  by_cases hc : 0 ≤ r ∧ r < nI (u 2 0)
  · have e := nI_rngc hc.1 hc.2 (by omega)
    rw [if_pos hc] at R0 ⊢
    rw [if_pos hc]
    generalize r.toNatClampNeg = k at *
    obtain ⟨hk, rfl⟩ := e
    refine ⟨_, mv_up (d := 3) (S1 := mv_E (mv_u z 9 k (nI v))) ?_ rfl, rX_arr hz 9 6 _ _ (by decide) (by decide), fX_u fX_rf (by decide)⟩
    refine mv_start pX10_shut (some .boolean) [some (.ref 0), some (.int (nI k)), some (.int (nI v))] rfl rfl rfl rfl (fun V C => ?_)
    refine mv_aload_n C rfl rfl ?_
    refine mv_getR C rfl rfl rfl ?_
    refine mv_iload_n C rfl rfl ?_
    refine mv_cV C rfl (mv_up R0 rfl) (by decide) rfl rfl rfl (Nat.le_of_ble_eq_true rfl) (Nat.le_refl _) (Nat.le_refl _) rfl ?_
    refine mv_if_ne C rfl (fun c8 => ?_) (fun c8 => ?_)
    · refine mv_aload_n C rfl rfl ?_
      refine mv_getR C rfl rfl rfl ?_
      refine mv_getR C rfl rfl rfl ?_
      refine mv_iload_n C rfl rfl ?_
      refine mv_iload_n C rfl rfl ?_
      refine mv_zst C rfl rfl rfl (by omega) (v01 hv) ?_
      refine mv_iconst C rfl ?_
      refine mv_ireturn C rfl mv_okZ1 ?_ ?_
      all_goals rfl
    · exact absurd c8 (by decide)
  · rw [if_neg hc] at R0 ⊢
    rw [if_neg hc]
    refine ⟨_, mv_up (d := 3) (S1 := mv_E z) ?_ rfl, hz, fX_rf⟩
    refine mv_start pX10_shut (some .boolean) [some (.ref 0), some (.int r), some (.int (nI v))] rfl rfl rfl rfl (fun V C => ?_)
    refine mv_aload_n C rfl rfl ?_
    refine mv_getR C rfl rfl rfl ?_
    refine mv_iload_n C rfl rfl ?_
    refine mv_cV C rfl (mv_up R0 rfl) (by decide) rfl rfl rfl (Nat.le_of_ble_eq_true rfl) (Nat.le_refl _) (Nat.le_refl _) rfl ?_
    refine mv_if_ne C rfl (fun c8 => ?_) (fun c8 => ?_)
    · exact absurd rfl c8
    · refine mv_iconst C rfl ?_
      refine mv_ireturn C rfl mv_okZ0 ?_ ?_
      all_goals rfl
theorem m_shut (u : hM) (z : mv_Z) (r : Int32) (v : Nat) (hv : v ≤ 1) (hi : hI u) (hz : rM u z) : mR 119 [.int r, .int (nI v)] u z (.int (a_shut u r)) (o_shut u r v) := by
  have hn := rM_s hz 4 2 (by decide)
  have h40 := hi.2.2.1
  have h0 := rM_free hz 68 0 0 (Or.inr ⟨rfl, by decide⟩)
  have R0 := r_inI (mv_u z 68 0 0) r 0 (nI (u 2 0) - 1 : Int32).toInt64 _ (inN (by omega))
  unfold a_shut o_shut
  by_cases hc : 0 ≤ r ∧ r < nI (u 2 0)
  · have e := nI_rngc hc.1 hc.2 (by omega)
    rw [if_pos hc] at R0 ⊢
    rw [if_pos hc]
    generalize r.toNatClampNeg = k at *
    obtain ⟨hk, rfl⟩ := e
    refine ⟨_, mv_up (d := 3) (S1 := mv_E (mv_u (mv_u z 68 0 0) 74 k (nI v))) ?_ rfl, rM_arr h0 74 6 _ _ (by decide), fM_u (fM_u fM_rf (by decide)) (by decide)⟩
    refine mv_start pX11_shut (some .boolean) [some (.ref 68), some (.int (nI k)), some (.int (nI v))] rfl rfl rfl rfl (fun V C => ?_)
    refine mv_aload_n C rfl rfl ?_
    refine mv_iconst C rfl ?_
    refine mv_putI C rfl rfl rfl rfl ?_
    refine mv_iload_n C rfl rfl ?_
    refine mv_i2l C rfl ?_
    refine mv_lconst C rfl ?_
    refine mv_aload_n C rfl rfl ?_
    refine mv_getJ C rfl rfl rfl hn ?_
    refine mv_iconst C rfl ?_
    refine mv_isub C rfl ?_
    refine mv_i2l C rfl ?_
    refine mv_cS C rfl (mv_up R0 rfl) (by decide) rfl (Nat.le_of_ble_eq_true rfl) (Nat.le_refl _) (Nat.le_refl _) rfl ?_
    refine mv_if_ne C rfl (fun c18 => ?_) (fun c18 => ?_)
    · refine mv_aload_n C rfl rfl ?_
      refine mv_getR C rfl rfl rfl ?_
      refine mv_iload_n C rfl rfl ?_
      refine mv_iload_n C rfl rfl ?_
      refine mv_zst C rfl rfl rfl (by omega) (v01 hv) ?_
      refine mv_iconst C rfl ?_
      refine mv_ireturn C rfl mv_okZ1 ?_ ?_
      all_goals rfl
    · exact absurd c18 (by decide)
  · rw [if_neg hc] at R0 ⊢
    rw [if_neg hc]
    refine ⟨_, mv_up (d := 3) (S1 := mv_E (mv_u z 68 0 0)) ?_ rfl, h0, fM_u fM_rf (by decide)⟩
    refine mv_start pX11_shut (some .boolean) [some (.ref 68), some (.int r), some (.int (nI v))] rfl rfl rfl rfl (fun V C => ?_)
    refine mv_aload_n C rfl rfl ?_
    refine mv_iconst C rfl ?_
    refine mv_putI C rfl rfl rfl rfl ?_
    refine mv_iload_n C rfl rfl ?_
    refine mv_i2l C rfl ?_
    refine mv_lconst C rfl ?_
    refine mv_aload_n C rfl rfl ?_
    refine mv_getJ C rfl rfl rfl hn ?_
    refine mv_iconst C rfl ?_
    refine mv_isub C rfl ?_
    refine mv_i2l C rfl ?_
    refine mv_cS C rfl (mv_up R0 rfl) (by decide) rfl (Nat.le_of_ble_eq_true rfl) (Nat.le_refl _) (Nat.le_refl _) rfl ?_
    refine mv_if_ne C rfl (fun c18 => ?_) (fun c18 => ?_)
    · exact absurd rfl c18
    · refine mv_iconst C rfl ?_
      refine mv_ireturn C rfl mv_okZ0 ?_ ?_
      all_goals rfl
-- strike
def a_strike (u : hM) (f : Int32) : Int32 := if 0 ≤ f ∧ f < nI (u 9 0) then 1 else 0
def o_strike (u : hM) (f : Int32) (v : Nat) : hM := if 0 ≤ f ∧ f < nI (u 9 0) then hu u 13 f.toNatClampNeg v else u
theorem x_strike (u : hM) (z : mv_Z) (r : Int32) (v : Nat) (hv : v ≤ 1) (hi : hI u) (hz : rX u z) : xR 82 [.int r, .int (nI v)] u z (.int (a_strike u r)) (o_strike u r v) := by
  have hn := rX_s hz 10 4 9 (by decide)
  have h40 := hi.2.2.2.2.2.2.2.1
  unfold a_strike o_strike
  by_cases hc : 0 ≤ r ∧ r < nI (u 9 0)
  · have e := nI_rngc hc.1 hc.2 (by omega)
    rw [if_pos hc, if_pos hc]
    generalize r.toNatClampNeg = k at *
    obtain ⟨hk, rfl⟩ := e
    refine ⟨_, mv_up (d := 3) (S1 := mv_E (mv_u z 14 k (nI v))) ?_ rfl, rX_arr hz 14 13 _ _ (by decide) (by decide), fX_u fX_rf (by decide)⟩
    refine mv_start pX10_strike (some .boolean) [some (.ref 0), some (.int (nI k)), some (.int (nI v))] rfl rfl rfl rfl (fun V C => ?_)
    refine mv_iload_n C rfl rfl ?_
    refine mv_if_lt C rfl (fun c1 => ?_) (fun c1 => ?_)
    · exact absurd c1 (nI_pos (by omega))
    · refine mv_iload_n C rfl rfl ?_
      refine mv_aload_n C rfl rfl ?_
      refine mv_getR C rfl rfl rfl ?_
      refine mv_getJ C rfl rfl rfl hn ?_
      refine mv_icmp_lt C rfl (fun c12 => ?_) (fun c12 => ?_)
      · refine mv_aload_n C rfl rfl ?_
        refine mv_getR C rfl rfl rfl ?_
        refine mv_getR C rfl rfl rfl ?_
        refine mv_iload_n C rfl rfl ?_
        refine mv_iload_n C rfl rfl ?_
        refine mv_zst C rfl rfl rfl (by omega) (v01 hv) ?_
        refine mv_iconst C rfl ?_
        refine mv_ireturn C rfl mv_okZ1 ?_ ?_
        all_goals rfl
      · exact absurd hc.2 c12
  · rw [if_neg hc, if_neg hc]
    refine ⟨_, mv_up (d := 3) (S1 := mv_E z) ?_ rfl, hz, fX_rf⟩
    refine mv_start pX10_strike (some .boolean) [some (.ref 0), some (.int r), some (.int (nI v))] rfl rfl rfl rfl (fun V C => ?_)
    refine mv_iload_n C rfl rfl ?_
    refine mv_if_lt C rfl (fun c1 => ?_) (fun c1 => ?_)
    · refine mv_iconst C rfl ?_
      refine mv_ireturn C rfl mv_okZ0 ?_ ?_
      all_goals rfl
    · refine mv_iload_n C rfl rfl ?_
      refine mv_aload_n C rfl rfl ?_
      refine mv_getR C rfl rfl rfl ?_
      refine mv_getJ C rfl rfl rfl hn ?_
      refine mv_icmp_lt C rfl (fun c12 => ?_) (fun c12 => ?_)
      · exact absurd ⟨(by rw [i32_lt] at c1; rw [i32_le]; omega), c12⟩ hc
      · refine mv_iconst C rfl ?_
        refine mv_ireturn C rfl mv_okZ0 ?_ ?_
        all_goals rfl
theorem m_strike (u : hM) (z : mv_Z) (r : Int32) (v : Nat) (hv : v ≤ 1) (hi : hI u) (hz : rM u z) : mR 128 [.int r, .int (nI v)] u z (.int (a_strike u r)) (o_strike u r v) := by
  have hn := rM_s hz 11 9 (by decide)
  have h40 := hi.2.2.2.2.2.2.2.1
  have h0 := rM_free hz 68 0 0 (Or.inr ⟨rfl, by decide⟩)
  have R0 := r_inI (mv_u z 68 0 0) r 0 (nI (u 9 0) - 1 : Int32).toInt64 _ (inN (by omega))
  unfold a_strike o_strike
  by_cases hc : 0 ≤ r ∧ r < nI (u 9 0)
  · have e := nI_rngc hc.1 hc.2 (by omega)
    rw [if_pos hc] at R0 ⊢
    rw [if_pos hc]
    generalize r.toNatClampNeg = k at *
    obtain ⟨hk, rfl⟩ := e
    refine ⟨_, mv_up (d := 3) (S1 := mv_E (mv_u (mv_u z 68 0 0) 79 k (nI v))) ?_ rfl, rM_arr h0 79 13 _ _ (by decide), fM_u (fM_u fM_rf (by decide)) (by decide)⟩
    refine mv_start pX11_strike (some .boolean) [some (.ref 68), some (.int (nI k)), some (.int (nI v))] rfl rfl rfl rfl (fun V C => ?_)
    refine mv_aload_n C rfl rfl ?_
    refine mv_iconst C rfl ?_
    refine mv_putI C rfl rfl rfl rfl ?_
    refine mv_iload_n C rfl rfl ?_
    refine mv_i2l C rfl ?_
    refine mv_lconst C rfl ?_
    refine mv_aload_n C rfl rfl ?_
    refine mv_getJ C rfl rfl rfl hn ?_
    refine mv_iconst C rfl ?_
    refine mv_isub C rfl ?_
    refine mv_i2l C rfl ?_
    refine mv_cS C rfl (mv_up R0 rfl) (by decide) rfl (Nat.le_of_ble_eq_true rfl) (Nat.le_refl _) (Nat.le_refl _) rfl ?_
    refine mv_if_ne C rfl (fun c18 => ?_) (fun c18 => ?_)
    · refine mv_aload_n C rfl rfl ?_
      refine mv_getR C rfl rfl rfl ?_
      refine mv_iload_n C rfl rfl ?_
      refine mv_iload_n C rfl rfl ?_
      refine mv_zst C rfl rfl rfl (by omega) (v01 hv) ?_
      refine mv_iconst C rfl ?_
      refine mv_ireturn C rfl mv_okZ1 ?_ ?_
      all_goals rfl
    · exact absurd c18 (by decide)
  · rw [if_neg hc] at R0 ⊢
    rw [if_neg hc]
    refine ⟨_, mv_up (d := 3) (S1 := mv_E (mv_u z 68 0 0)) ?_ rfl, h0, fM_u fM_rf (by decide)⟩
    refine mv_start pX11_strike (some .boolean) [some (.ref 68), some (.int r), some (.int (nI v))] rfl rfl rfl rfl (fun V C => ?_)
    refine mv_aload_n C rfl rfl ?_
    refine mv_iconst C rfl ?_
    refine mv_putI C rfl rfl rfl rfl ?_
    refine mv_iload_n C rfl rfl ?_
    refine mv_i2l C rfl ?_
    refine mv_lconst C rfl ?_
    refine mv_aload_n C rfl rfl ?_
    refine mv_getJ C rfl rfl rfl hn ?_
    refine mv_iconst C rfl ?_
    refine mv_isub C rfl ?_
    refine mv_i2l C rfl ?_
    refine mv_cS C rfl (mv_up R0 rfl) (by decide) rfl (Nat.le_of_ble_eq_true rfl) (Nat.le_refl _) (Nat.le_refl _) rfl ?_
    refine mv_if_ne C rfl (fun c18 => ?_) (fun c18 => ?_)
    · exact absurd rfl c18
    · refine mv_iconst C rfl ?_
      refine mv_ireturn C rfl mv_okZ0 ?_ ?_
      all_goals rfl
end
end
section
section
-- exit
def a_exit (u : hM) (p : Int32) : Int32 := if 0 ≤ p ∧ p < nI (u 0 0) then 1 else 0
def o_exit (u : hM) (p : Int32) (v : Nat) : hM := if 0 ≤ p ∧ p < nI (u 0 0) then hu u 7 p.toNatClampNeg v else u
theorem rX_ex {u : hM} {z : mv_Z} (h : rX u z) (p v : Nat) (hp : p < 24) (x : Int32) (hx : ∀ i, i < 32 → hbit x i = if i = p then decide (v = 1) else hbit (z.1 3 8) i) : rX (hu u 7 p v) (mv_u z 3 8 x) := by
  obtain ⟨h1, h2, h3, h4, h5, h6, h7, h8⟩ := h
  unfold rX
  rw [hu_key (k1 := 8) (by decide), hu_key (k1 := 14) (by decide), hu_key (k1 := 18) (by decide), hu_key (k1 := 21) (by decide), hu_key (k1 := 22) (by decide), hu_key (k1 := 23) (by decide), hu_key (k1 := 24) (by decide), hu_key (k1 := 25) (by decide), hu_key (k1 := 26) (by decide), hu_key (k1 := 27) (by decide), hu_key (k1 := 28) (by decide), hu_key (k1 := 30) (by decide), hu_key (k1 := 31) (by decide), hu_key (k1 := 1) (by decide)]
  rw [mv_u_sl (q := 3) (j := 9) (by decide), mv_u_ne (q := 23) (by decide), mv_u_ne (q := 26) (by decide), mv_u_ne (q := 31) (by decide), mv_u_ne (q := 67) (by decide), mv_u_eq]
  refine ⟨rT_keys (rT_out h1 3 8 x (by decide) (by decide)) ?_ ?_, fun i hi => ?_, h3, h4, h5, fun a ha => ?_, h7, h8⟩
  · exact fun q hq => hu_key ((tX_keys q hq).1)
  · have : ∀ q ∈ sX, q.2.2 ≠ 7 := by decide
    exact fun q hq => by rw [hu_key (this q hq)]
  · rw [hx i hi]
    by_cases e : i = p
    · subst e; simp [hu_self, hp]
    · rw [if_neg e, hu_ix e]; exact h2 i hi
  · rw [mv_u_ne (q := 34 + 4 * a) (by omega), mv_u_ne (q := 35 + 4 * a) (by omega), mv_u_ne (q := 36 + 4 * a) (by omega), mv_u_ne (q := 37 + 4 * a) (by omega)]
    exact h6 a ha
theorem x_exit (u : hM) (z : mv_Z) (r : Int32) (v : Nat) (hv : v ≤ 1) (hi : hI u) (hz : rX u z) : xR 75 [.int r, .int (nI v)] u z (.int (a_exit u r)) (o_exit u r v) := by
  have hn := rX_s hz 3 6 0 (by decide)
  have h40 := hi.1
  have R0 := r_hasParish z r
  rw [hn] at R0
  unfold a_exit o_exit
  by_cases hc : 0 ≤ r ∧ r < nI (u 0 0)
  · have e := nI_rngc hc.1 hc.2 (by omega)
    rw [if_pos hc] at R0 ⊢
    rw [if_pos hc]
    generalize r.toNatClampNeg = k at *
    obtain ⟨hk, rfl⟩ := e
    rcases (show v = 0 ∨ v = 1 by omega) with rfl | rfl
    · refine ⟨_, mv_up (d := 3) (S1 := mv_E (mv_u z 3 8 (z.1 3 8 &&& ((1 <<< (nI k &&& 31)) ^^^ (-1))))) ?_ rfl, rX_ex hz _ _ (by omega) _ (fun i hi => ?_), fX_u fX_rf (by decide)⟩
      · refine mv_start pX10_exit (some .boolean) [some (.ref 0), some (.int (nI k)), some (.int (nI 0))] rfl rfl rfl rfl (fun V C => ?_)
        refine mv_aload_n C rfl rfl ?_
        refine mv_getR C rfl rfl rfl ?_
        refine mv_iload_n C rfl rfl ?_
        refine mv_cV C rfl (mv_up R0 rfl) (by decide) rfl rfl rfl (Nat.le_of_ble_eq_true rfl) (Nat.le_refl _) (Nat.le_refl _) rfl ?_
        refine mv_if_ne C rfl (fun c8 => ?_) (fun c8 => ?_)
        · refine mv_aload_n C rfl rfl ?_
          refine mv_getR C rfl rfl rfl ?_
          refine mv_iload_n C rfl rfl ?_
          refine mv_if_eq C rfl (fun c18 => ?_) (fun c18 => ?_)
          · refine mv_aload_n C rfl rfl ?_
            refine mv_getR C rfl rfl rfl ?_
            refine mv_getI C rfl rfl rfl ?_
            refine mv_iload_n C rfl rfl ?_
            refine mv_cS C rfl (mv_up (r_bit _ _) rfl) (by decide) rfl (Nat.le_of_ble_eq_true rfl) (Nat.le_refl _) (Nat.le_refl _) rfl ?_
            refine mv_iconst C rfl ?_
            refine mv_ixor C rfl ?_
            refine mv_iand C rfl ?_
            refine mv_putI C rfl rfl rfl rfl ?_
            refine mv_iconst C rfl ?_
            refine mv_ireturn C rfl mv_okZ1 ?_ ?_
            all_goals rfl
          · exact absurd rfl c18
        · exact absurd c8 (by decide)
      · rw [hb_and, hb_not _ hi, hb_bit (by omega) hi]
        by_cases e : i = k
        · simp [e]
        · simp [e]
    · refine ⟨_, mv_up (d := 3) (S1 := mv_E (mv_u z 3 8 (z.1 3 8 ||| (1 <<< (nI k &&& 31))))) ?_ rfl, rX_ex hz _ _ (by omega) _ (fun i hi => ?_), fX_u fX_rf (by decide)⟩
      · refine mv_start pX10_exit (some .boolean) [some (.ref 0), some (.int (nI k)), some (.int (nI 1))] rfl rfl rfl rfl (fun V C => ?_)
        refine mv_aload_n C rfl rfl ?_
        refine mv_getR C rfl rfl rfl ?_
        refine mv_iload_n C rfl rfl ?_
        refine mv_cV C rfl (mv_up R0 rfl) (by decide) rfl rfl rfl (Nat.le_of_ble_eq_true rfl) (Nat.le_refl _) (Nat.le_refl _) rfl ?_
        refine mv_if_ne C rfl (fun c8 => ?_) (fun c8 => ?_)
        · refine mv_aload_n C rfl rfl ?_
          refine mv_getR C rfl rfl rfl ?_
          refine mv_iload_n C rfl rfl ?_
          refine mv_if_eq C rfl (fun c18 => ?_) (fun c18 => ?_)
          · exact absurd c18 (by decide)
          · refine mv_aload_n C rfl rfl ?_
            refine mv_getR C rfl rfl rfl ?_
            refine mv_getI C rfl rfl rfl ?_
            refine mv_iload_n C rfl rfl ?_
            refine mv_cS C rfl (mv_up (r_bit _ _) rfl) (by decide) rfl (Nat.le_of_ble_eq_true rfl) (Nat.le_refl _) (Nat.le_refl _) rfl ?_
            refine mv_ior C rfl ?_
            refine mv_goto C rfl ?_
            refine mv_putI C rfl rfl rfl rfl ?_
            refine mv_iconst C rfl ?_
            refine mv_ireturn C rfl mv_okZ1 ?_ ?_
            all_goals rfl
        · exact absurd c8 (by decide)
      · rw [hb_or, hb_bit (by omega) hi]
        by_cases e : i = k
        · simp [e]
        · simp [e]
  · rw [if_neg hc] at R0 ⊢
    rw [if_neg hc]
    refine ⟨_, mv_up (d := 3) (S1 := mv_E z) ?_ rfl, hz, fX_rf⟩
    refine mv_start pX10_exit (some .boolean) [some (.ref 0), some (.int r), some (.int (nI v))] rfl rfl rfl rfl (fun V C => ?_)
    refine mv_aload_n C rfl rfl ?_
    refine mv_getR C rfl rfl rfl ?_
    refine mv_iload_n C rfl rfl ?_
    refine mv_cV C rfl (mv_up R0 rfl) (by decide) rfl rfl rfl (Nat.le_of_ble_eq_true rfl) (Nat.le_refl _) (Nat.le_refl _) rfl ?_
    refine mv_if_ne C rfl (fun c8 => ?_) (fun c8 => ?_)
    · exact absurd rfl c8
    · refine mv_iconst C rfl ?_
      refine mv_ireturn C rfl mv_okZ0 ?_ ?_
      all_goals rfl
theorem m_exit (u : hM) (z : mv_Z) (r : Int32) (v : Nat) (hv : v ≤ 1) (hi : hI u) (hz : rM u z) : mR 120 [.int r, .int (nI v)] u z (.int (a_exit u r)) (o_exit u r v) := by
  have hn := rM_s hz 1 0 (by decide)
  have h40 := hi.1
  have h0 := rM_free hz 68 0 0 (Or.inr ⟨rfl, by decide⟩)
  have R0 := r_mIsParish (mv_u z 68 0 0) r _ hn h40
  unfold a_exit o_exit
  by_cases hc : 0 ≤ r ∧ r < nI (u 0 0)
  · have e := nI_rngc hc.1 hc.2 (by omega)
    rw [if_pos hc] at R0 ⊢
    rw [if_pos hc]
    generalize r.toNatClampNeg = k at *
    obtain ⟨hk, rfl⟩ := e
    refine ⟨_, mv_up (d := 3) (S1 := mv_E (mv_u (mv_u z 68 0 0) 70 k (nI v))) ?_ rfl, rM_arr h0 70 7 _ _ (by decide), fM_u (fM_u fM_rf (by decide)) (by decide)⟩
    refine mv_start pX11_exit (some .boolean) [some (.ref 68), some (.int (nI k)), some (.int (nI v))] rfl rfl rfl rfl (fun V C => ?_)
    refine mv_aload_n C rfl rfl ?_
    refine mv_iconst C rfl ?_
    refine mv_putI C rfl rfl rfl rfl ?_
    refine mv_aload_n C rfl rfl ?_
    refine mv_iload_n C rfl rfl ?_
    refine mv_cV C rfl (mv_up R0 rfl) (by decide) rfl rfl rfl (Nat.le_of_ble_eq_true rfl) (Nat.le_refl _) (Nat.le_refl _) rfl ?_
    refine mv_if_ne C rfl (fun c10 => ?_) (fun c10 => ?_)
    · refine mv_aload_n C rfl rfl ?_
      refine mv_getR C rfl rfl rfl ?_
      refine mv_iload_n C rfl rfl ?_
      refine mv_iload_n C rfl rfl ?_
      refine mv_zst C rfl rfl rfl (by omega) (v01 hv) ?_
      refine mv_iconst C rfl ?_
      refine mv_ireturn C rfl mv_okZ1 ?_ ?_
      all_goals rfl
    · exact absurd c10 (by decide)
  · rw [if_neg hc] at R0 ⊢
    rw [if_neg hc]
    refine ⟨_, mv_up (d := 3) (S1 := mv_E (mv_u z 68 0 0)) ?_ rfl, h0, fM_u fM_rf (by decide)⟩
    refine mv_start pX11_exit (some .boolean) [some (.ref 68), some (.int r), some (.int (nI v))] rfl rfl rfl rfl (fun V C => ?_)
    refine mv_aload_n C rfl rfl ?_
    refine mv_iconst C rfl ?_
    refine mv_putI C rfl rfl rfl rfl ?_
    refine mv_aload_n C rfl rfl ?_
    refine mv_iload_n C rfl rfl ?_
    refine mv_cV C rfl (mv_up R0 rfl) (by decide) rfl rfl rfl (Nat.le_of_ble_eq_true rfl) (Nat.le_refl _) (Nat.le_refl _) rfl ?_
    refine mv_if_ne C rfl (fun c10 => ?_) (fun c10 => ?_)
    · exact absurd rfl c10
    · refine mv_iconst C rfl ?_
      refine mv_ireturn C rfl mv_okZ0 ?_ ?_
      all_goals rfl
-- begin
def a_begin (u : hM) (p : Int32) : Int32 := if 0 ≤ p ∧ p < nI (u 0 0) then 1 else 0
def o_begin (u : hM) (p : Int32) : hM := if 0 ≤ p ∧ p < nI (u 0 0) then hu u 8 0 (p.toNatClampNeg + 1) else u
theorem rX_st {u : hM} {z : mv_Z} (h : rX u z) (p : Nat) : rX (hu u 8 0 (p + 1)) (mv_u z 3 9 (nI p)) := by
  obtain ⟨h1, h2, h3, h4, h5, h6, h7, h8⟩ := h
  unfold rX
  rw [hu_key (k1 := 7) (by decide), hu_key (k1 := 14) (by decide), hu_key (k1 := 18) (by decide), hu_key (k1 := 21) (by decide), hu_key (k1 := 22) (by decide), hu_key (k1 := 23) (by decide), hu_key (k1 := 24) (by decide), hu_key (k1 := 25) (by decide), hu_key (k1 := 26) (by decide), hu_key (k1 := 27) (by decide), hu_key (k1 := 28) (by decide), hu_key (k1 := 30) (by decide), hu_key (k1 := 31) (by decide), hu_key (k1 := 1) (by decide)]
  rw [mv_u_sl (q := 3) (j := 8) (by decide), mv_u_ne (q := 23) (by decide), mv_u_ne (q := 26) (by decide), mv_u_ne (q := 31) (by decide), mv_u_ne (q := 67) (by decide), mv_u_eq]
  refine ⟨rT_keys (rT_out h1 3 9 _ (by decide) (by decide)) ?_ ?_, h2, by rw [hu_self]; rfl, h4, h5, fun a ha => ?_, h7, h8⟩
  · exact fun q hq => hu_key ((tX_keys q hq).2.1)
  · have : ∀ q ∈ sX, q.2.2 ≠ 8 := by decide
    exact fun q hq => by rw [hu_key (this q hq)]
  · rw [mv_u_ne (q := 34 + 4 * a) (by omega), mv_u_ne (q := 35 + 4 * a) (by omega), mv_u_ne (q := 36 + 4 * a) (by omega), mv_u_ne (q := 37 + 4 * a) (by omega)]
    exact h6 a ha
theorem rM_st {u : hM} {z : mv_Z} (h : rM u z) (p : Nat) : rM (hu u 8 0 (p + 1)) (mv_u z 68 9 (nI p)) := by
  obtain ⟨h1, h3, h4, h6, h8⟩ := h
  unfold rM
  rw [hu_key (k1 := 14) (by decide), hu_key (k1 := 21) (by decide), hu_key (k1 := 22) (by decide), hu_key (k1 := 23) (by decide), hu_key (k1 := 24) (by decide), hu_key (k1 := 25) (by decide), hu_key (k1 := 26) (by decide), hu_key (k1 := 30) (by decide), hu_key (k1 := 31) (by decide)]
  rw [mv_u_eq, mv_u_ne (q := 84) (by decide), mv_u_ne (q := 89) (by decide), mv_u_ne (q := 90) (by decide), mv_u_ne (q := 91) (by decide), mv_u_ne (q := 92) (by decide), mv_u_ne (q := 93) (by decide), mv_u_ne (q := 82) (by decide)]
  refine ⟨rT_keys (rT_out h1 68 9 _ (by decide) (by decide)) ?_ ?_, by rw [hu_self]; rfl, h4, h6, h8⟩
  · exact fun q hq => hu_key ((tM_keys q hq).1)
  · have : ∀ q ∈ sM, q.2.2 ≠ 8 := by decide
    exact fun q hq => by rw [hu_key (this q hq)]
theorem x_begin (u : hM) (z : mv_Z) (r : Int32) (hi : hI u) (hz : rX u z) : xR 76 [.int r] u z (.int (a_begin u r)) (o_begin u r) := by
  have hn := rX_s hz 3 6 0 (by decide)
  have h40 := hi.1
  have R0 := r_hasParish z r
  rw [hn] at R0
  unfold a_begin o_begin
  by_cases hc : 0 ≤ r ∧ r < nI (u 0 0)
  · have e := nI_rngc hc.1 hc.2 (by omega)
    rw [if_pos hc] at R0 ⊢
    rw [if_pos hc]
    generalize r.toNatClampNeg = k at *
    obtain ⟨hk, rfl⟩ := e
    refine ⟨_, mv_up (d := 3) (S1 := mv_E (mv_u z 3 9 (nI k))) ?_ rfl, rX_st hz _, fX_u fX_rf (by decide)⟩
    refine mv_start pX10_begin (some .boolean) [some (.ref 0), some (.int (nI k))] rfl rfl rfl rfl (fun V C => ?_)
    refine mv_aload_n C rfl rfl ?_
    refine mv_getR C rfl rfl rfl ?_
    refine mv_iload_n C rfl rfl ?_
    refine mv_cV C rfl (mv_up R0 rfl) (by decide) rfl rfl rfl (Nat.le_of_ble_eq_true rfl) (Nat.le_refl _) (Nat.le_refl _) rfl ?_
    refine mv_if_ne C rfl (fun c8 => ?_) (fun c8 => ?_)
    · refine mv_aload_n C rfl rfl ?_
      refine mv_getR C rfl rfl rfl ?_
      refine mv_iload_n C rfl rfl ?_
      refine mv_putI C rfl rfl rfl rfl ?_
      refine mv_iconst C rfl ?_
      refine mv_ireturn C rfl mv_okZ1 ?_ ?_
      all_goals rfl
    · exact absurd c8 (by decide)
  · rw [if_neg hc] at R0 ⊢
    rw [if_neg hc]
    refine ⟨_, mv_up (d := 3) (S1 := mv_E z) ?_ rfl, hz, fX_rf⟩
    refine mv_start pX10_begin (some .boolean) [some (.ref 0), some (.int r)] rfl rfl rfl rfl (fun V C => ?_)
    refine mv_aload_n C rfl rfl ?_
    refine mv_getR C rfl rfl rfl ?_
    refine mv_iload_n C rfl rfl ?_
    refine mv_cV C rfl (mv_up R0 rfl) (by decide) rfl rfl rfl (Nat.le_of_ble_eq_true rfl) (Nat.le_refl _) (Nat.le_refl _) rfl ?_
    refine mv_if_ne C rfl (fun c8 => ?_) (fun c8 => ?_)
    · exact absurd rfl c8
    · refine mv_iconst C rfl ?_
      refine mv_ireturn C rfl mv_okZ0 ?_ ?_
      all_goals rfl
theorem m_begin (u : hM) (z : mv_Z) (r : Int32) (hi : hI u) (hz : rM u z) : mR 121 [.int r] u z (.int (a_begin u r)) (o_begin u r) := by
  have hn := rM_s hz 1 0 (by decide)
  have h40 := hi.1
  have h0 := rM_free hz 68 0 0 (Or.inr ⟨rfl, by decide⟩)
  have R0 := r_mIsParish (mv_u z 68 0 0) r _ hn h40
  unfold a_begin o_begin
  by_cases hc : 0 ≤ r ∧ r < nI (u 0 0)
  · have e := nI_rngc hc.1 hc.2 (by omega)
    rw [if_pos hc] at R0 ⊢
    rw [if_pos hc]
    generalize r.toNatClampNeg = k at *
    obtain ⟨hk, rfl⟩ := e
    refine ⟨_, mv_up (d := 3) (S1 := mv_E (mv_u (mv_u z 68 0 0) 68 9 (nI k))) ?_ rfl, rM_st h0 _, fM_u (fM_u fM_rf (by decide)) (by decide)⟩
    refine mv_start pX11_begin (some .boolean) [some (.ref 68), some (.int (nI k))] rfl rfl rfl rfl (fun V C => ?_)
    refine mv_aload_n C rfl rfl ?_
    refine mv_iconst C rfl ?_
    refine mv_putI C rfl rfl rfl rfl ?_
    refine mv_aload_n C rfl rfl ?_
    refine mv_iload_n C rfl rfl ?_
    refine mv_cV C rfl (mv_up R0 rfl) (by decide) rfl rfl rfl (Nat.le_of_ble_eq_true rfl) (Nat.le_refl _) (Nat.le_refl _) rfl ?_
    refine mv_if_ne C rfl (fun c10 => ?_) (fun c10 => ?_)
    · refine mv_aload_n C rfl rfl ?_
      refine mv_iload_n C rfl rfl ?_
      refine mv_putI C rfl rfl rfl rfl ?_
      refine mv_iconst C rfl ?_
      refine mv_ireturn C rfl mv_okZ1 ?_ ?_
      all_goals rfl
    · exact absurd c10 (by decide)
  · rw [if_neg hc] at R0 ⊢
    rw [if_neg hc]
    refine ⟨_, mv_up (d := 3) (S1 := mv_E (mv_u z 68 0 0)) ?_ rfl, h0, fM_u fM_rf (by decide)⟩
    refine mv_start pX11_begin (some .boolean) [some (.ref 68), some (.int r)] rfl rfl rfl rfl (fun V C => ?_)
    refine mv_aload_n C rfl rfl ?_
    refine mv_iconst C rfl ?_
    refine mv_putI C rfl rfl rfl rfl ?_
    refine mv_aload_n C rfl rfl ?_
    refine mv_iload_n C rfl rfl ?_
    refine mv_cV C rfl (mv_up R0 rfl) (by decide) rfl rfl rfl (Nat.le_of_ble_eq_true rfl) (Nat.le_refl _) (Nat.le_refl _) rfl ?_
    refine mv_if_ne C rfl (fun c10 => ?_) (fun c10 => ?_)
    · exact absurd rfl c10
    · refine mv_iconst C rfl ?_
      refine mv_ireturn C rfl mv_okZ0 ?_ ?_
      all_goals rfl
-- seen, vain, guarded
def a_fact (u : hM) (key : Nat) (o h : Int32) : Int32 := if (0 ≤ o ∧ o < nI (u key 0)) ∧ (0 ≤ h ∧ h < 48) ∧ u 9 0 < 40 then nI (u 9 0) else -1
def o_fact (u : hM) (key : Nat) (k : Nat) (o h : Int32) : hM := if (0 ≤ o ∧ o < nI (u key 0)) ∧ (0 ≤ h ∧ h < 48) ∧ u 9 0 < 40 then hu (hu (hu (hu u 10 (u 9 0) k) 11 (u 9 0) o.toNatClampNeg) 12 (u 9 0) h.toNatClampNeg) 9 0 (u 9 0 + 1) else u
theorem x_seen (u : hM) (z : mv_Z) (o h : Int32) (hi : hI u) (hz : rX u z) : xR 79 [.int o, .int h] u z (.int (a_fact u 0 o h)) (o_fact u 0 0 o h) := by
  have hn := rX_s hz 3 6 0 (by decide)
  have hf := rX_s hz 10 4 9 (by decide)
  have h40 : u 9 0 ≤ 40 := hi.2.2.2.2.2.2.2.1
  have R0 := r_hasParish z o
  rw [hn] at R0
  have R1 := r_factsAdd z 0 o h _ hf h40
  unfold a_fact o_fact
  by_cases hc : 0 ≤ o ∧ o < nI (u 0 0)
  · rw [if_pos hc] at R0
    refine ⟨_, mv_up (d := 3) (S1 := mv_E (if (0 ≤ h ∧ h < 48) ∧ u 9 0 < 40 then mv_u (mv_u (mv_u (mv_u z 11 (u 9 0) 0) 12 (u 9 0) o) 13 (u 9 0) h) 10 4 (nI (u 9 0 + 1)) else z)) ?_ rfl, ?_, ?_⟩
    · have e1 : (if (0 ≤ o ∧ o < nI (u 0 0)) ∧ (0 ≤ h ∧ h < 48) ∧ u 9 0 < 40 then nI (u 9 0) else -1) = (if (0 ≤ h ∧ h < 48) ∧ u 9 0 < 40 then nI (u 9 0) else -1) := by simp only [hc, and_self, true_and]
      rw [e1]
      refine mv_start pX10_seen (some .int) [some (.ref 0), some (.int o), some (.int h)] rfl rfl rfl rfl (fun V C => ?_)
      refine mv_aload_n C rfl rfl ?_
      refine mv_getR C rfl rfl rfl ?_
      refine mv_iload_n C rfl rfl ?_
      refine mv_cV C rfl (mv_up R0 rfl) (by decide) rfl rfl rfl (Nat.le_of_ble_eq_true rfl) (Nat.le_refl _) (Nat.le_refl _) rfl ?_
      refine mv_if_eq C rfl (fun c8 => ?_) (fun c8 => ?_)
      · exact absurd c8 (by decide)
      · refine mv_aload_n C rfl rfl ?_
        refine mv_getR C rfl rfl rfl ?_
        refine mv_iconst C rfl ?_
        refine mv_iload_n C rfl rfl ?_
        refine mv_iload_n C rfl rfl ?_
        refine mv_cV C rfl R1 (by decide) rfl rfl rfl (Nat.le_of_ble_eq_true rfl) (Nat.le_refl _) (Nat.le_refl _) rfl ?_
        refine mv_goto C rfl ?_
        refine mv_ireturn C rfl mv_okI ?_ ?_
        all_goals rfl
    · by_cases h2 : (0 ≤ h ∧ h < 48) ∧ u 9 0 < 40
      · rw [if_pos h2, if_pos (show (0 ≤ o ∧ o < nI (u 0 0)) ∧ (0 ≤ h ∧ h < 48) ∧ u 9 0 < 40 from ⟨hc, h2⟩)]
        have eo := nI_nn hc.1
        have eh := nI_nn h2.1.1
        generalize o.toNatClampNeg = ko at *
        generalize h.toNatClampNeg = kh at *
        subst eo; subst eh
        exact rX_sc (rX_arr (rX_arr (rX_arr hz 11 10 _ _ (by decide) (by decide)) 12 11 _ _ (by decide) (by decide)) 13 12 _ _ (by decide) (by decide)) 10 4 9 _ (by decide)
      · rw [if_neg h2, if_neg (show ¬ ((0 ≤ o ∧ o < nI (u 0 0)) ∧ (0 ≤ h ∧ h < 48) ∧ u 9 0 < 40) from fun q => h2 q.2)]; exact hz
    · split
      · exact fX_u (fX_u (fX_u (fX_u fX_rf (by decide)) (by decide)) (by decide)) (by decide)
      · exact fX_rf
  · rw [if_neg hc] at R0
    rw [if_neg (fun q => hc q.1), if_neg (fun q => hc q.1)]
    refine ⟨_, mv_up (d := 3) (S1 := mv_E z) ?_ rfl, hz, fX_rf⟩
    refine mv_start pX10_seen (some .int) [some (.ref 0), some (.int o), some (.int h)] rfl rfl rfl rfl (fun V C => ?_)
    refine mv_aload_n C rfl rfl ?_
    refine mv_getR C rfl rfl rfl ?_
    refine mv_iload_n C rfl rfl ?_
    refine mv_cV C rfl (mv_up R0 rfl) (by decide) rfl rfl rfl (Nat.le_of_ble_eq_true rfl) (Nat.le_refl _) (Nat.le_refl _) rfl ?_
    refine mv_if_eq C rfl (fun c8 => ?_) (fun c8 => ?_)
    · refine mv_iconst C rfl ?_
      refine mv_ireturn C rfl mv_okI ?_ ?_
      all_goals rfl
    · exact absurd rfl c8
theorem x_vain (u : hM) (z : mv_Z) (o h : Int32) (hi : hI u) (hz : rX u z) : xR 80 [.int o, .int h] u z (.int (a_fact u 0 o h)) (o_fact u 0 1 o h) := by
  have hn := rX_s hz 3 6 0 (by decide)
  have hf := rX_s hz 10 4 9 (by decide)
  have h40 : u 9 0 ≤ 40 := hi.2.2.2.2.2.2.2.1
  have R0 := r_hasParish z o
  rw [hn] at R0
  have R1 := r_factsAdd z 1 o h _ hf h40
  unfold a_fact o_fact
  by_cases hc : 0 ≤ o ∧ o < nI (u 0 0)
  · rw [if_pos hc] at R0
    refine ⟨_, mv_up (d := 3) (S1 := mv_E (if (0 ≤ h ∧ h < 48) ∧ u 9 0 < 40 then mv_u (mv_u (mv_u (mv_u z 11 (u 9 0) 1) 12 (u 9 0) o) 13 (u 9 0) h) 10 4 (nI (u 9 0 + 1)) else z)) ?_ rfl, ?_, ?_⟩
    · have e1 : (if (0 ≤ o ∧ o < nI (u 0 0)) ∧ (0 ≤ h ∧ h < 48) ∧ u 9 0 < 40 then nI (u 9 0) else -1) = (if (0 ≤ h ∧ h < 48) ∧ u 9 0 < 40 then nI (u 9 0) else -1) := by simp only [hc, and_self, true_and]
      rw [e1]
      refine mv_start pX10_vain (some .int) [some (.ref 0), some (.int o), some (.int h)] rfl rfl rfl rfl (fun V C => ?_)
      refine mv_aload_n C rfl rfl ?_
      refine mv_getR C rfl rfl rfl ?_
      refine mv_iload_n C rfl rfl ?_
      refine mv_cV C rfl (mv_up R0 rfl) (by decide) rfl rfl rfl (Nat.le_of_ble_eq_true rfl) (Nat.le_refl _) (Nat.le_refl _) rfl ?_
      refine mv_if_eq C rfl (fun c8 => ?_) (fun c8 => ?_)
      · exact absurd c8 (by decide)
      · refine mv_aload_n C rfl rfl ?_
        refine mv_getR C rfl rfl rfl ?_
        refine mv_iconst C rfl ?_
        refine mv_iload_n C rfl rfl ?_
        refine mv_iload_n C rfl rfl ?_
        refine mv_cV C rfl R1 (by decide) rfl rfl rfl (Nat.le_of_ble_eq_true rfl) (Nat.le_refl _) (Nat.le_refl _) rfl ?_
        refine mv_goto C rfl ?_
        refine mv_ireturn C rfl mv_okI ?_ ?_
        all_goals rfl
    · by_cases h2 : (0 ≤ h ∧ h < 48) ∧ u 9 0 < 40
      · rw [if_pos h2, if_pos (show (0 ≤ o ∧ o < nI (u 0 0)) ∧ (0 ≤ h ∧ h < 48) ∧ u 9 0 < 40 from ⟨hc, h2⟩)]
        have eo := nI_nn hc.1
        have eh := nI_nn h2.1.1
        generalize o.toNatClampNeg = ko at *
        generalize h.toNatClampNeg = kh at *
        subst eo; subst eh
        exact rX_sc (rX_arr (rX_arr (rX_arr hz 11 10 _ _ (by decide) (by decide)) 12 11 _ _ (by decide) (by decide)) 13 12 _ _ (by decide) (by decide)) 10 4 9 _ (by decide)
      · rw [if_neg h2, if_neg (show ¬ ((0 ≤ o ∧ o < nI (u 0 0)) ∧ (0 ≤ h ∧ h < 48) ∧ u 9 0 < 40) from fun q => h2 q.2)]; exact hz
    · split
      · exact fX_u (fX_u (fX_u (fX_u fX_rf (by decide)) (by decide)) (by decide)) (by decide)
      · exact fX_rf
  · rw [if_neg hc] at R0
    rw [if_neg (fun q => hc q.1), if_neg (fun q => hc q.1)]
    refine ⟨_, mv_up (d := 3) (S1 := mv_E z) ?_ rfl, hz, fX_rf⟩
    refine mv_start pX10_vain (some .int) [some (.ref 0), some (.int o), some (.int h)] rfl rfl rfl rfl (fun V C => ?_)
    refine mv_aload_n C rfl rfl ?_
    refine mv_getR C rfl rfl rfl ?_
    refine mv_iload_n C rfl rfl ?_
    refine mv_cV C rfl (mv_up R0 rfl) (by decide) rfl rfl rfl (Nat.le_of_ble_eq_true rfl) (Nat.le_refl _) (Nat.le_refl _) rfl ?_
    refine mv_if_eq C rfl (fun c8 => ?_) (fun c8 => ?_)
    · refine mv_iconst C rfl ?_
      refine mv_ireturn C rfl mv_okI ?_ ?_
      all_goals rfl
    · exact absurd rfl c8
theorem x_guarded (u : hM) (z : mv_Z) (o h : Int32) (hi : hI u) (hz : rX u z) : xR 81 [.int o, .int h] u z (.int (a_fact u 2 o h)) (o_fact u 2 2 o h) := by
  have hn := rX_s hz 3 7 2 (by decide)
  have hf := rX_s hz 10 4 9 (by decide)
  have h40 : u 9 0 ≤ 40 := hi.2.2.2.2.2.2.2.1
  have R0 := r_hasRoad z o
  rw [hn] at R0
  have R1 := r_factsAdd z 2 o h _ hf h40
  unfold a_fact o_fact
  by_cases hc : 0 ≤ o ∧ o < nI (u 2 0)
  · rw [if_pos hc] at R0
    refine ⟨_, mv_up (d := 3) (S1 := mv_E (if (0 ≤ h ∧ h < 48) ∧ u 9 0 < 40 then mv_u (mv_u (mv_u (mv_u z 11 (u 9 0) 2) 12 (u 9 0) o) 13 (u 9 0) h) 10 4 (nI (u 9 0 + 1)) else z)) ?_ rfl, ?_, ?_⟩
    · have e1 : (if (0 ≤ o ∧ o < nI (u 2 0)) ∧ (0 ≤ h ∧ h < 48) ∧ u 9 0 < 40 then nI (u 9 0) else -1) = (if (0 ≤ h ∧ h < 48) ∧ u 9 0 < 40 then nI (u 9 0) else -1) := by simp only [hc, and_self, true_and]
      rw [e1]
      refine mv_start pX10_guarded (some .int) [some (.ref 0), some (.int o), some (.int h)] rfl rfl rfl rfl (fun V C => ?_)
      refine mv_aload_n C rfl rfl ?_
      refine mv_getR C rfl rfl rfl ?_
      refine mv_iload_n C rfl rfl ?_
      refine mv_cV C rfl (mv_up R0 rfl) (by decide) rfl rfl rfl (Nat.le_of_ble_eq_true rfl) (Nat.le_refl _) (Nat.le_refl _) rfl ?_
      refine mv_if_eq C rfl (fun c8 => ?_) (fun c8 => ?_)
      · exact absurd c8 (by decide)
      · refine mv_aload_n C rfl rfl ?_
        refine mv_getR C rfl rfl rfl ?_
        refine mv_iconst C rfl ?_
        refine mv_iload_n C rfl rfl ?_
        refine mv_iload_n C rfl rfl ?_
        refine mv_cV C rfl R1 (by decide) rfl rfl rfl (Nat.le_of_ble_eq_true rfl) (Nat.le_refl _) (Nat.le_refl _) rfl ?_
        refine mv_goto C rfl ?_
        refine mv_ireturn C rfl mv_okI ?_ ?_
        all_goals rfl
    · by_cases h2 : (0 ≤ h ∧ h < 48) ∧ u 9 0 < 40
      · rw [if_pos h2, if_pos (show (0 ≤ o ∧ o < nI (u 2 0)) ∧ (0 ≤ h ∧ h < 48) ∧ u 9 0 < 40 from ⟨hc, h2⟩)]
        have eo := nI_nn hc.1
        have eh := nI_nn h2.1.1
        generalize o.toNatClampNeg = ko at *
        generalize h.toNatClampNeg = kh at *
        subst eo; subst eh
        exact rX_sc (rX_arr (rX_arr (rX_arr hz 11 10 _ _ (by decide) (by decide)) 12 11 _ _ (by decide) (by decide)) 13 12 _ _ (by decide) (by decide)) 10 4 9 _ (by decide)
      · rw [if_neg h2, if_neg (show ¬ ((0 ≤ o ∧ o < nI (u 2 0)) ∧ (0 ≤ h ∧ h < 48) ∧ u 9 0 < 40) from fun q => h2 q.2)]; exact hz
    · split
      · exact fX_u (fX_u (fX_u (fX_u fX_rf (by decide)) (by decide)) (by decide)) (by decide)
      · exact fX_rf
  · rw [if_neg hc] at R0
    rw [if_neg (fun q => hc q.1), if_neg (fun q => hc q.1)]
    refine ⟨_, mv_up (d := 3) (S1 := mv_E z) ?_ rfl, hz, fX_rf⟩
    refine mv_start pX10_guarded (some .int) [some (.ref 0), some (.int o), some (.int h)] rfl rfl rfl rfl (fun V C => ?_)
    refine mv_aload_n C rfl rfl ?_
    refine mv_getR C rfl rfl rfl ?_
    refine mv_iload_n C rfl rfl ?_
    refine mv_cV C rfl (mv_up R0 rfl) (by decide) rfl rfl rfl (Nat.le_of_ble_eq_true rfl) (Nat.le_refl _) (Nat.le_refl _) rfl ?_
    refine mv_if_eq C rfl (fun c8 => ?_) (fun c8 => ?_)
    · refine mv_iconst C rfl ?_
      refine mv_ireturn C rfl mv_okI ?_ ?_
      all_goals rfl
    · exact absurd rfl c8
theorem m_seen (u : hM) (z : mv_Z) (o h : Int32) (hi : hI u) (hz : rM u z) : mR 125 [.int o, .int h] u z (.int (a_fact u 0 o h)) (o_fact u 0 0 o h) := by
  have hn := rM_s hz 1 0 (by decide)
  have hf := rM_s hz 11 9 (by decide)
  have h40 : u 9 0 ≤ 40 := hi.2.2.2.2.2.2.2.1
  have h0 := rM_free hz 68 0 0 (Or.inr ⟨rfl, by decide⟩)
  have R0 := r_mIsParish (mv_u z 68 0 0) o _ hn hi.1
  have R1 := r_mFact (mv_u z 68 0 0) 0 (if 0 ≤ o ∧ o < nI (u 0 0) then 1 else 0) o h _ hf h40
  have ec : (¬ (if 0 ≤ o ∧ o < nI (u 0 0) then (1 : Int32) else 0) = 0 ∧ (0 ≤ h ∧ h < 48) ∧ u 9 0 < 40) ↔ ((0 ≤ o ∧ o < nI (u 0 0)) ∧ (0 ≤ h ∧ h < 48) ∧ u 9 0 < 40) := by rw [b10]
  simp only [ec] at R1
  unfold a_fact o_fact
  refine ⟨_, mv_up (d := 4) (S1 := mv_E (if (0 ≤ o ∧ o < nI (u 0 0)) ∧ (0 ≤ h ∧ h < 48) ∧ u 9 0 < 40 then mv_u (mv_u (mv_u (mv_u (mv_u (mv_u z 68 0 0) 76 (u 9 0) 0) 77 (u 9 0) o) 78 (u 9 0) h) 79 (u 9 0) 0) 68 11 (nI (u 9 0 + 1)) else mv_u z 68 0 0)) ?_ rfl, ?_, ?_⟩
  · refine mv_start pX11_seen (some .int) [some (.ref 68), some (.int o), some (.int h)] rfl rfl rfl rfl (fun V C => ?_)
    refine mv_aload_n C rfl rfl ?_
    refine mv_iconst C rfl ?_
    refine mv_putI C rfl rfl rfl rfl ?_
    refine mv_aload_n C rfl rfl ?_
    refine mv_iconst C rfl ?_
    refine mv_aload_n C rfl rfl ?_
    refine mv_iload_n C rfl rfl ?_
    refine mv_cV C rfl (mv_up R0 rfl) (by decide) rfl rfl rfl (Nat.le_of_ble_eq_true rfl) (Nat.le_refl _) (Nat.le_refl _) rfl ?_
    refine mv_iload_n C rfl rfl ?_
    refine mv_iload_n C rfl rfl ?_
    refine mv_cV C rfl R1 (by decide) rfl rfl rfl (Nat.le_of_ble_eq_true rfl) (Nat.le_refl _) (Nat.le_refl _) rfl ?_
    refine mv_ireturn C rfl mv_okI ?_ ?_
    all_goals rfl
  · split
    · rename_i h2
      have eo := nI_nn h2.1.1
      have eh := nI_nn h2.2.1.1
      generalize o.toNatClampNeg = ko at *
      generalize h.toNatClampNeg = kh at *
      subst eo; subst eh
      have hs : u 13 (u 9 0) = 0 := (hi.2.2.2.2.2.2.2.2.2.1 (u 9 0)).2 (Nat.le_refl _)
      have h1 := rM_arr (rM_arr (rM_arr h0 76 10 (u 9 0) 0 (by decide)) 77 11 (u 9 0) ko (by decide)) 78 12 (u 9 0) kh (by decide)
      have h3 := rM_arr h1 79 13 (u 9 0) 0 (by decide)
      have e13 : hu (hu (hu (hu u 10 (u 9 0) 0) 11 (u 9 0) ko) 12 (u 9 0) kh) 13 (u 9 0) 0 = hu (hu (hu u 10 (u 9 0) 0) 11 (u 9 0) ko) 12 (u 9 0) kh := by
        funext a b
        by_cases e : a = 13 ∧ b = u 9 0
        · obtain ⟨rfl, rfl⟩ := e
          rw [hu_self]
          rw [hu_key (by decide), hu_key (by decide), hu_key (by decide)]
          exact hs.symm
        · simp only [hu]; rw [if_neg e]
      rw [e13] at h3
      exact rM_sc h3 11 9 _ (by decide)
    · exact h0
  · split
    · exact fM_u (fM_u (fM_u (fM_u (fM_u (fM_u fM_rf (by decide)) (by decide)) (by decide)) (by decide)) (by decide)) (by decide)
    · exact fM_u fM_rf (by decide)
theorem m_vain (u : hM) (z : mv_Z) (o h : Int32) (hi : hI u) (hz : rM u z) : mR 126 [.int o, .int h] u z (.int (a_fact u 0 o h)) (o_fact u 0 1 o h) := by
  have hn := rM_s hz 1 0 (by decide)
  have hf := rM_s hz 11 9 (by decide)
  have h40 : u 9 0 ≤ 40 := hi.2.2.2.2.2.2.2.1
  have h0 := rM_free hz 68 0 0 (Or.inr ⟨rfl, by decide⟩)
  have R0 := r_mIsParish (mv_u z 68 0 0) o _ hn hi.1
  have R1 := r_mFact (mv_u z 68 0 0) 1 (if 0 ≤ o ∧ o < nI (u 0 0) then 1 else 0) o h _ hf h40
  have ec : (¬ (if 0 ≤ o ∧ o < nI (u 0 0) then (1 : Int32) else 0) = 0 ∧ (0 ≤ h ∧ h < 48) ∧ u 9 0 < 40) ↔ ((0 ≤ o ∧ o < nI (u 0 0)) ∧ (0 ≤ h ∧ h < 48) ∧ u 9 0 < 40) := by rw [b10]
  simp only [ec] at R1
  unfold a_fact o_fact
  refine ⟨_, mv_up (d := 4) (S1 := mv_E (if (0 ≤ o ∧ o < nI (u 0 0)) ∧ (0 ≤ h ∧ h < 48) ∧ u 9 0 < 40 then mv_u (mv_u (mv_u (mv_u (mv_u (mv_u z 68 0 0) 76 (u 9 0) 1) 77 (u 9 0) o) 78 (u 9 0) h) 79 (u 9 0) 0) 68 11 (nI (u 9 0 + 1)) else mv_u z 68 0 0)) ?_ rfl, ?_, ?_⟩
  · refine mv_start pX11_vain (some .int) [some (.ref 68), some (.int o), some (.int h)] rfl rfl rfl rfl (fun V C => ?_)
    refine mv_aload_n C rfl rfl ?_
    refine mv_iconst C rfl ?_
    refine mv_putI C rfl rfl rfl rfl ?_
    refine mv_aload_n C rfl rfl ?_
    refine mv_iconst C rfl ?_
    refine mv_aload_n C rfl rfl ?_
    refine mv_iload_n C rfl rfl ?_
    refine mv_cV C rfl (mv_up R0 rfl) (by decide) rfl rfl rfl (Nat.le_of_ble_eq_true rfl) (Nat.le_refl _) (Nat.le_refl _) rfl ?_
    refine mv_iload_n C rfl rfl ?_
    refine mv_iload_n C rfl rfl ?_
    refine mv_cV C rfl R1 (by decide) rfl rfl rfl (Nat.le_of_ble_eq_true rfl) (Nat.le_refl _) (Nat.le_refl _) rfl ?_
    refine mv_ireturn C rfl mv_okI ?_ ?_
    all_goals rfl
  · split
    · rename_i h2
      have eo := nI_nn h2.1.1
      have eh := nI_nn h2.2.1.1
      generalize o.toNatClampNeg = ko at *
      generalize h.toNatClampNeg = kh at *
      subst eo; subst eh
      have hs : u 13 (u 9 0) = 0 := (hi.2.2.2.2.2.2.2.2.2.1 (u 9 0)).2 (Nat.le_refl _)
      have h1 := rM_arr (rM_arr (rM_arr h0 76 10 (u 9 0) 1 (by decide)) 77 11 (u 9 0) ko (by decide)) 78 12 (u 9 0) kh (by decide)
      have h3 := rM_arr h1 79 13 (u 9 0) 0 (by decide)
      have e13 : hu (hu (hu (hu u 10 (u 9 0) 1) 11 (u 9 0) ko) 12 (u 9 0) kh) 13 (u 9 0) 0 = hu (hu (hu u 10 (u 9 0) 1) 11 (u 9 0) ko) 12 (u 9 0) kh := by
        funext a b
        by_cases e : a = 13 ∧ b = u 9 0
        · obtain ⟨rfl, rfl⟩ := e
          rw [hu_self]
          rw [hu_key (by decide), hu_key (by decide), hu_key (by decide)]
          exact hs.symm
        · simp only [hu]; rw [if_neg e]
      rw [e13] at h3
      exact rM_sc h3 11 9 _ (by decide)
    · exact h0
  · split
    · exact fM_u (fM_u (fM_u (fM_u (fM_u (fM_u fM_rf (by decide)) (by decide)) (by decide)) (by decide)) (by decide)) (by decide)
    · exact fM_u fM_rf (by decide)
theorem m_guarded (u : hM) (z : mv_Z) (o h : Int32) (hi : hI u) (hz : rM u z) : mR 127 [.int o, .int h] u z (.int (a_fact u 2 o h)) (o_fact u 2 2 o h) := by
  have hn := rM_s hz 4 2 (by decide)
  have hf := rM_s hz 11 9 (by decide)
  have h40 : u 9 0 ≤ 40 := hi.2.2.2.2.2.2.2.1
  have h0 := rM_free hz 68 0 0 (Or.inr ⟨rfl, by decide⟩)
  have R0 := r_inI (mv_u z 68 0 0) o 0 (nI (u 2 0) - 1 : Int32).toInt64 _ (inN (by have := hi.2.2.1; omega))
  have R1 := r_mFact (mv_u z 68 0 0) 2 (if 0 ≤ o ∧ o < nI (u 2 0) then 1 else 0) o h _ hf h40
  have ec : (¬ (if 0 ≤ o ∧ o < nI (u 2 0) then (1 : Int32) else 0) = 0 ∧ (0 ≤ h ∧ h < 48) ∧ u 9 0 < 40) ↔ ((0 ≤ o ∧ o < nI (u 2 0)) ∧ (0 ≤ h ∧ h < 48) ∧ u 9 0 < 40) := by rw [b10]
  simp only [ec] at R1
  unfold a_fact o_fact
  refine ⟨_, mv_up (d := 4) (S1 := mv_E (if (0 ≤ o ∧ o < nI (u 2 0)) ∧ (0 ≤ h ∧ h < 48) ∧ u 9 0 < 40 then mv_u (mv_u (mv_u (mv_u (mv_u (mv_u z 68 0 0) 76 (u 9 0) 2) 77 (u 9 0) o) 78 (u 9 0) h) 79 (u 9 0) 0) 68 11 (nI (u 9 0 + 1)) else mv_u z 68 0 0)) ?_ rfl, ?_, ?_⟩
  · refine mv_start pX11_guarded (some .int) [some (.ref 68), some (.int o), some (.int h)] rfl rfl rfl rfl (fun V C => ?_)
    refine mv_aload_n C rfl rfl ?_
    refine mv_iconst C rfl ?_
    refine mv_putI C rfl rfl rfl rfl ?_
    refine mv_aload_n C rfl rfl ?_
    refine mv_iconst C rfl ?_
    refine mv_iload_n C rfl rfl ?_
    refine mv_i2l C rfl ?_
    refine mv_lconst C rfl ?_
    refine mv_aload_n C rfl rfl ?_
    refine mv_getJ C rfl rfl rfl hn ?_
    refine mv_iconst C rfl ?_
    refine mv_isub C rfl ?_
    refine mv_i2l C rfl ?_
    refine mv_cS C rfl (mv_up R0 rfl) (by decide) rfl (Nat.le_of_ble_eq_true rfl) (Nat.le_refl _) (Nat.le_refl _) rfl ?_
    refine mv_iload_n C rfl rfl ?_
    refine mv_iload_n C rfl rfl ?_
    refine mv_cV C rfl R1 (by decide) rfl rfl rfl (Nat.le_of_ble_eq_true rfl) (Nat.le_refl _) (Nat.le_refl _) rfl ?_
    refine mv_ireturn C rfl mv_okI ?_ ?_
    all_goals rfl
  · split
    · rename_i h2
      have eo := nI_nn h2.1.1
      have eh := nI_nn h2.2.1.1
      generalize o.toNatClampNeg = ko at *
      generalize h.toNatClampNeg = kh at *
      subst eo; subst eh
      have hs : u 13 (u 9 0) = 0 := (hi.2.2.2.2.2.2.2.2.2.1 (u 9 0)).2 (Nat.le_refl _)
      have h1 := rM_arr (rM_arr (rM_arr h0 76 10 (u 9 0) 2 (by decide)) 77 11 (u 9 0) ko (by decide)) 78 12 (u 9 0) kh (by decide)
      have h3 := rM_arr h1 79 13 (u 9 0) 0 (by decide)
      have e13 : hu (hu (hu (hu u 10 (u 9 0) 2) 11 (u 9 0) ko) 12 (u 9 0) kh) 13 (u 9 0) 0 = hu (hu (hu u 10 (u 9 0) 2) 11 (u 9 0) ko) 12 (u 9 0) kh := by
        funext a b
        by_cases e : a = 13 ∧ b = u 9 0
        · obtain ⟨rfl, rfl⟩ := e
          rw [hu_self]
          rw [hu_key (by decide), hu_key (by decide), hu_key (by decide)]
          exact hs.symm
        · simp only [hu]; rw [if_neg e]
      rw [e13] at h3
      exact rM_sc h3 11 9 _ (by decide)
    · exact h0
  · split
    · exact fM_u (fM_u (fM_u (fM_u (fM_u (fM_u fM_rf (by decide)) (by decide)) (by decide)) (by decide)) (by decide)) (by decide)
    · exact fM_u fM_rf (by decide)
end
end
section
section
def hsum (g : Nat → Nat) : Nat → Nat
  | 0 => 0
  | n + 1 => hsum g n + g n
theorem hsum_le {g : Nat → Nat} {c : Nat} (h : ∀ i, g i ≤ c) : ∀ n, hsum g n ≤ n * c
  | 0 => by simp [hsum]
  | n + 1 => by have := hsum_le h n; have := h n; simp only [hsum, Nat.succ_mul]; omega
theorem hsum_cong {g k : Nat → Nat} : ∀ n, (∀ i, i < n → g i = k i) → hsum g n = hsum k n
  | 0, _ => rfl
  | n + 1, h => by simp only [hsum]; rw [hsum_cong n (fun i hi => h i (by omega)), h n (by omega)]
theorem r_standing (z : mv_Z) (n : Nat) (s : Nat → Nat) (hn : z.1 10 4 = nI n) (hn40 : n ≤ 40) (hs : ∀ f, z.1 14 f = nI (s f)) (hs1 : ∀ f, s f ≤ 1) : mv_Runs 1 45 [.ref 10] (mv_E z) (some (.int (nI (hsum (fun f => 1 - s f) n)))) (mv_E z) := by
  refine mv_start pX5_standing (some .int) [some (.ref 10), none, none] rfl rfl rfl rfl (fun V C => ?_)
  have loop : ∀ (k i : Nat), i + k = n → V 4 [some (.ref 10), some (.int (nI (hsum (fun f => 1 - s f) i))), some (.int (nI i))] [] (mv_E z) := by
    intro k
    induction k with
    | zero =>
      intro i hi
      refine mv_iload_n C rfl rfl ?_
      refine mv_aload_n C rfl rfl ?_
      refine mv_getJ C rfl rfl rfl hn ?_
      refine mv_icmp_ge C rfl (fun c9 => ?_) (fun c9 => ?_)
      · refine mv_iload_n C rfl rfl ?_
        refine mv_ireturn C rfl mv_okI ?_ ?_
        all_goals (first | rfl | (rw [show i = n by omega]))
      · exact absurd (nI_le (by omega) (by omega)) c9
    | succ k ih =>
      intro i hi
      have h1 := hs1 i
      have e := ih (i + 1) (by omega)
      simp only [hsum] at e
      refine mv_iload_n C rfl rfl ?_
      refine mv_aload_n C rfl rfl ?_
      refine mv_getJ C rfl rfl rfl hn ?_
      refine mv_icmp_ge C rfl (fun c9 => ?_) (fun c9 => ?_)
      · exact absurd c9 (nI_ge (by omega) (by omega))
      · refine mv_aload_n C rfl rfl ?_
        refine mv_getR C rfl rfl rfl ?_
        refine mv_iload_n C rfl rfl ?_
        refine mv_zldJ C rfl rfl rfl (by omega) (hs i) ?_
        refine mv_if_ne C rfl (fun c18 => ?_) (fun c18 => ?_)
        · have h2 : s i = 1 := by (rcases (show s i = 0 ∨ s i = 1 by omega) with q | q; (rw [q] at c18; exact absurd rfl c18); exact q)
          rw [h2] at e
          refine mv_inc2 C rfl rfl ?_
          refine mv_goto C rfl ?_
          simp only [nI_1]
          exact e
        · have h2 : s i = 0 := by (rcases (show s i = 0 ∨ s i = 1 by omega) with q | q; exact q; (rw [q] at c18; exact absurd c18 (by decide)))
          rw [h2] at e
          refine mv_inc1 C rfl rfl ?_
          refine mv_inc2 C rfl rfl ?_
          refine mv_goto C rfl ?_
          simp only [nI_1]
          exact e
  refine mv_iconst C rfl ?_
  refine mv_is_n1 C rfl rfl ?_
  refine mv_iconst C rfl ?_
  refine mv_is_n2 C rfl rfl ?_
  exact loop n 0 (by omega)
theorem sw10 (x : Int32) : (x.toInt < 0 ∨ 9 < x.toInt) ∨ ∃ k, k < 10 ∧ x = nI k := by
  by_cases h : x.toInt < 0 ∨ 9 < x.toInt
  · exact Or.inl h
  · refine Or.inr ?_
    obtain ⟨j, hj, rfl⟩ := nI_rng (x := x) (n := 10) (by rw [i32_le, i32_0]; omega) (by rw [i32_lt, nI_toInt (by decide)]; omega) (by decide)
    exact ⟨j, hj, rfl⟩
def a_count (u : hM) (x : Int32) : Int32 := if x.toInt < 0 ∨ 9 < x.toInt then -1 else ([nI (u 0 0), nI (u 2 0), nI (u 9 0), nI (hsum (fun f => 1 - u 13 f) (u 9 0)), nI (u 16 0), nI (u 21 0), nI (u 27 0), nI (u 30 0), nI (u 19 0), hst (u 8 0)] : List Int32).getD x.toInt.toNat (-1)
theorem a_count_k (u : hM) {k : Nat} (hk : k < 10) : a_count u (nI k) = ([nI (u 0 0), nI (u 2 0), nI (u 9 0), nI (hsum (fun f => 1 - u 13 f) (u 9 0)), nI (u 16 0), nI (u 21 0), nI (u 27 0), nI (u 30 0), nI (u 19 0), hst (u 8 0)] : List Int32).getD k (-1) := by
  unfold a_count
  rw [nI_toInt (by omega), if_neg (by omega)]
  rfl
theorem x_count (u : hM) (z : mv_Z) (x : Int32) (hi : hI u) (hz : rX u z) : xR 77 [.int x] u z (.int (a_count u x)) u := by
  have R0 := r_standing z _ _ (rX_s hz 10 4 9 (by decide)) hi.2.2.2.2.2.2.2.1 (rX_a hz 14 13 (by decide)) (fun f => (hi.2.2.2.2.2.2.2.2.2.1 f).1)
  refine ⟨z, mv_up (d := 3) (S1 := mv_E z) ?_ rfl, hz, fX_rf⟩
  rcases sw10 x with h | ⟨k, hk, rfl⟩
  · refine mv_start pX10_count (some .int) [some (.ref 0), some (.int x)] rfl rfl rfl rfl (fun V C => ?_)
    refine mv_iload_n C rfl rfl ?_
    refine mv_tsw_out C rfl h rfl ?_
    refine mv_iconst C rfl ?_
    refine mv_ireturn C rfl mv_okI ?_ ?_
    all_goals first | rfl | (unfold a_count; rw [if_pos h])
  · rw [a_count_k u hk]
    have hk2 : k = 0 ∨ k = 1 ∨ k = 2 ∨ k = 3 ∨ k = 4 ∨ k = 5 ∨ k = 6 ∨ k = 7 ∨ k = 8 ∨ k = 9 := by omega
    rcases hk2 with rfl | rfl | rfl | rfl | rfl | rfl | rfl | rfl | rfl | rfl
    · refine mv_start pX10_count (some .int) [some (.ref 0), some (.int (nI 0))] rfl rfl rfl rfl (fun V C => ?_)
      refine mv_iload_n C rfl rfl ?_
      refine mv_tsw_in C rfl (by decide) (by decide) rfl rfl ?_
      refine mv_aload_n C rfl rfl ?_
      refine mv_getR C rfl rfl rfl ?_
      refine mv_getJ C rfl rfl rfl (rX_s hz 3 6 0 (by decide)) ?_
      refine mv_ireturn C rfl mv_okI ?_ ?_
      all_goals rfl
    · refine mv_start pX10_count (some .int) [some (.ref 0), some (.int (nI 1))] rfl rfl rfl rfl (fun V C => ?_)
      refine mv_iload_n C rfl rfl ?_
      refine mv_tsw_in C rfl (by decide) (by decide) rfl rfl ?_
      refine mv_aload_n C rfl rfl ?_
      refine mv_getR C rfl rfl rfl ?_
      refine mv_getJ C rfl rfl rfl (rX_s hz 3 7 2 (by decide)) ?_
      refine mv_ireturn C rfl mv_okI ?_ ?_
      all_goals rfl
    · refine mv_start pX10_count (some .int) [some (.ref 0), some (.int (nI 2))] rfl rfl rfl rfl (fun V C => ?_)
      refine mv_iload_n C rfl rfl ?_
      refine mv_tsw_in C rfl (by decide) (by decide) rfl rfl ?_
      refine mv_aload_n C rfl rfl ?_
      refine mv_getR C rfl rfl rfl ?_
      refine mv_getJ C rfl rfl rfl (rX_s hz 10 4 9 (by decide)) ?_
      refine mv_ireturn C rfl mv_okI ?_ ?_
      all_goals rfl
    · refine mv_start pX10_count (some .int) [some (.ref 0), some (.int (nI 3))] rfl rfl rfl rfl (fun V C => ?_)
      refine mv_iload_n C rfl rfl ?_
      refine mv_tsw_in C rfl (by decide) (by decide) rfl rfl ?_
      refine mv_aload_n C rfl rfl ?_
      refine mv_getR C rfl rfl rfl ?_
      refine mv_cV C rfl (mv_up R0 rfl) (by decide) rfl rfl rfl (Nat.le_of_ble_eq_true rfl) (Nat.le_refl _) (Nat.le_refl _) rfl ?_
      refine mv_ireturn C rfl mv_okI ?_ ?_
      all_goals rfl
    · refine mv_start pX10_count (some .int) [some (.ref 0), some (.int (nI 4))] rfl rfl rfl rfl (fun V C => ?_)
      refine mv_iload_n C rfl rfl ?_
      refine mv_tsw_in C rfl (by decide) (by decide) rfl rfl ?_
      refine mv_aload_n C rfl rfl ?_
      refine mv_getR C rfl rfl rfl ?_
      refine mv_getJ C rfl rfl rfl (rX_s hz 21 3 16 (by decide)) ?_
      refine mv_ireturn C rfl mv_okI ?_ ?_
      all_goals rfl
    · refine mv_start pX10_count (some .int) [some (.ref 0), some (.int (nI 5))] rfl rfl rfl rfl (fun V C => ?_)
      refine mv_iload_n C rfl rfl ?_
      refine mv_tsw_in C rfl (by decide) (by decide) rfl rfl ?_
      refine mv_aload_n C rfl rfl ?_
      refine mv_getR C rfl rfl rfl ?_
      refine mv_getJ C rfl rfl rfl (rX_s hz 29 4 21 (by decide)) ?_
      refine mv_ireturn C rfl mv_okI ?_ ?_
      all_goals rfl
    · refine mv_start pX10_count (some .int) [some (.ref 0), some (.int (nI 6))] rfl rfl rfl rfl (fun V C => ?_)
      refine mv_iload_n C rfl rfl ?_
      refine mv_tsw_in C rfl (by decide) (by decide) rfl rfl ?_
      refine mv_aload_n C rfl rfl ?_
      refine mv_getR C rfl rfl rfl ?_
      refine mv_getJ C rfl rfl rfl (rX_s hz 29 5 27 (by decide)) ?_
      refine mv_ireturn C rfl mv_okI ?_ ?_
      all_goals rfl
    · refine mv_start pX10_count (some .int) [some (.ref 0), some (.int (nI 7))] rfl rfl rfl rfl (fun V C => ?_)
      refine mv_iload_n C rfl rfl ?_
      refine mv_tsw_in C rfl (by decide) (by decide) rfl rfl ?_
      refine mv_aload_n C rfl rfl ?_
      refine mv_getR C rfl rfl rfl ?_
      refine mv_getJ C rfl rfl rfl (rX_s hz 66 1 30 (by decide)) ?_
      refine mv_ireturn C rfl mv_okI ?_ ?_
      all_goals rfl
    · refine mv_start pX10_count (some .int) [some (.ref 0), some (.int (nI 8))] rfl rfl rfl rfl (fun V C => ?_)
      refine mv_iload_n C rfl rfl ?_
      refine mv_tsw_in C rfl (by decide) (by decide) rfl rfl ?_
      refine mv_aload_n C rfl rfl ?_
      refine mv_getR C rfl rfl rfl ?_
      refine mv_getJ C rfl rfl rfl (rX_s hz 27 1 19 (by decide)) ?_
      refine mv_ireturn C rfl mv_okI ?_ ?_
      all_goals rfl
    · refine mv_start pX10_count (some .int) [some (.ref 0), some (.int (nI 9))] rfl rfl rfl rfl (fun V C => ?_)
      refine mv_iload_n C rfl rfl ?_
      refine mv_tsw_in C rfl (by decide) (by decide) rfl rfl ?_
      refine mv_aload_n C rfl rfl ?_
      refine mv_getR C rfl rfl rfl ?_
      refine mv_getJ C rfl rfl rfl hz.2.2.1 ?_
      refine mv_ireturn C rfl mv_okI ?_ ?_
      all_goals rfl
theorem m_count (u : hM) (z : mv_Z) (x : Int32) (hi : hI u) (hz : rM u z) : mR 122 [.int x] u z (.int (a_count u x)) u := by
  have hn := rM_s hz 11 9 (by decide)
  have hs := rM_a hz 79 13 (by decide)
  have hn40 := hi.2.2.2.2.2.2.2.1
  have hs1 : ∀ f, u 13 f ≤ 1 := fun f => (hi.2.2.2.2.2.2.2.2.2.1 f).1
  refine ⟨mv_u z 68 0 0, mv_up (d := 3) (S1 := mv_E (mv_u z 68 0 0)) ?_ rfl, rM_free hz 68 0 0 (Or.inr ⟨rfl, by decide⟩), fM_u fM_rf (by decide)⟩
  refine mv_start pX11_count (some .int) [some (.ref 68), some (.int x), none, none] rfl rfl rfl rfl (fun V C => ?_)
  have fin : V 40 [some (.ref 68), some (.int x), some (.int (nI (hsum (fun f => 1 - u 13 f) (u 9 0)))), none] [] (mv_E (mv_u z 68 0 0)) := by
    rcases sw10 x with h | ⟨k, hk, rfl⟩
    · refine mv_iload_n C rfl rfl ?_
      refine mv_tsw_out C rfl h rfl ?_
      refine mv_iconst C rfl ?_
      refine mv_ireturn C rfl mv_okI ?_ ?_
      all_goals first | rfl | (unfold a_count; rw [if_pos h])
    · rw [a_count_k u hk] at C
      have hk2 : k = 0 ∨ k = 1 ∨ k = 2 ∨ k = 3 ∨ k = 4 ∨ k = 5 ∨ k = 6 ∨ k = 7 ∨ k = 8 ∨ k = 9 := by omega
      rcases hk2 with rfl | rfl | rfl | rfl | rfl | rfl | rfl | rfl | rfl | rfl
      · refine mv_iload_n C rfl rfl ?_
        refine mv_tsw_in C rfl (by decide) (by decide) rfl rfl ?_
        refine mv_aload_n C rfl rfl ?_
        refine mv_getJ C rfl rfl rfl (rM_s hz 1 0 (by decide)) ?_
        refine mv_ireturn C rfl mv_okI ?_ ?_
        all_goals rfl
      · refine mv_iload_n C rfl rfl ?_
        refine mv_tsw_in C rfl (by decide) (by decide) rfl rfl ?_
        refine mv_aload_n C rfl rfl ?_
        refine mv_getJ C rfl rfl rfl (rM_s hz 4 2 (by decide)) ?_
        refine mv_ireturn C rfl mv_okI ?_ ?_
        all_goals rfl
      · refine mv_iload_n C rfl rfl ?_
        refine mv_tsw_in C rfl (by decide) (by decide) rfl rfl ?_
        refine mv_aload_n C rfl rfl ?_
        refine mv_getJ C rfl rfl rfl (rM_s hz 11 9 (by decide)) ?_
        refine mv_ireturn C rfl mv_okI ?_ ?_
        all_goals rfl
      · refine mv_iload_n C rfl rfl ?_
        refine mv_tsw_in C rfl (by decide) (by decide) rfl rfl ?_
        refine mv_iload_n C rfl rfl ?_
        refine mv_ireturn C rfl mv_okI ?_ ?_
        all_goals rfl
      · refine mv_iload_n C rfl rfl ?_
        refine mv_tsw_in C rfl (by decide) (by decide) rfl rfl ?_
        refine mv_aload_n C rfl rfl ?_
        refine mv_getJ C rfl rfl rfl (rM_s hz 23 16 (by decide)) ?_
        refine mv_ireturn C rfl mv_okI ?_ ?_
        all_goals rfl
      · refine mv_iload_n C rfl rfl ?_
        refine mv_tsw_in C rfl (by decide) (by decide) rfl rfl ?_
        refine mv_aload_n C rfl rfl ?_
        refine mv_getJ C rfl rfl rfl (rM_s hz 28 21 (by decide)) ?_
        refine mv_ireturn C rfl mv_okI ?_ ?_
        all_goals rfl
      · refine mv_iload_n C rfl rfl ?_
        refine mv_tsw_in C rfl (by decide) (by decide) rfl rfl ?_
        refine mv_aload_n C rfl rfl ?_
        refine mv_getJ C rfl rfl rfl (rM_s hz 36 27 (by decide)) ?_
        refine mv_ireturn C rfl mv_okI ?_ ?_
        all_goals rfl
      · refine mv_iload_n C rfl rfl ?_
        refine mv_tsw_in C rfl (by decide) (by decide) rfl rfl ?_
        refine mv_aload_n C rfl rfl ?_
        refine mv_getJ C rfl rfl rfl (rM_s hz 18 30 (by decide)) ?_
        refine mv_ireturn C rfl mv_okI ?_ ?_
        all_goals rfl
      · refine mv_iload_n C rfl rfl ?_
        refine mv_tsw_in C rfl (by decide) (by decide) rfl rfl ?_
        refine mv_aload_n C rfl rfl ?_
        refine mv_getJ C rfl rfl rfl (rM_s hz 27 19 (by decide)) ?_
        refine mv_ireturn C rfl mv_okI ?_ ?_
        all_goals rfl
      · refine mv_iload_n C rfl rfl ?_
        refine mv_tsw_in C rfl (by decide) (by decide) rfl rfl ?_
        refine mv_aload_n C rfl rfl ?_
        refine mv_getJ C rfl rfl rfl hz.2.1 ?_
        refine mv_ireturn C rfl mv_okI ?_ ?_
        all_goals rfl
  have loop : ∀ (k i : Nat), i + k = u 9 0 → V 9 [some (.ref 68), some (.int x), some (.int (nI (hsum (fun f => 1 - u 13 f) i))), some (.int (nI i))] [] (mv_E (mv_u z 68 0 0)) := by
    intro k
    induction k with
    | zero =>
      intro i hi
      refine mv_iload_n C rfl rfl ?_
      refine mv_aload_n C rfl rfl ?_
      refine mv_getJ C rfl rfl rfl hn ?_
      refine mv_icmp_ge C rfl (fun c14 => ?_) (fun c14 => ?_)
      · rw [show i = u 9 0 by omega]
        exact mv_forget C _ (mv_le3 _ _ _ _) fin
      · exact absurd (nI_le (by omega) (by omega)) c14
    | succ k ih =>
      intro i hi
      have h1 := hs1 i
      have e := ih (i + 1) (by omega)
      simp only [hsum] at e
      refine mv_iload_n C rfl rfl ?_
      refine mv_aload_n C rfl rfl ?_
      refine mv_getJ C rfl rfl rfl hn ?_
      refine mv_icmp_ge C rfl (fun c14 => ?_) (fun c14 => ?_)
      · exact absurd c14 (nI_ge (by omega) (by omega))
      · refine mv_iload_n C rfl rfl ?_
        refine mv_aload_n C rfl rfl ?_
        refine mv_getR C rfl rfl rfl ?_
        refine mv_iload_n C rfl rfl ?_
        refine mv_zldJ C rfl rfl rfl (by omega) (hs i) ?_
        refine mv_if_eq C rfl (fun c24 => ?_) (fun c24 => ?_)
        · have h2 : u 13 i = 0 := by (rcases (show u 13 i = 0 ∨ u 13 i = 1 by omega) with q | q; exact q; (rw [q] at c24; exact absurd c24 (by decide)))
          rw [h2] at e
          refine mv_iconst C rfl ?_
          refine mv_iadd C rfl ?_
          refine mv_is_n2 C rfl rfl ?_
          refine mv_inc3 C rfl rfl ?_
          refine mv_goto C rfl ?_
          first | (simp only [nI_1]; exact e) | (simp only [nI_1, show ∀ a : Nat, nI a + 0 = nI a from fun a => nI_add a 0]; exact e)
        · have h2 : u 13 i = 1 := by (rcases (show u 13 i = 0 ∨ u 13 i = 1 by omega) with q | q; (rw [q] at c24; exact absurd rfl c24); exact q)
          rw [h2] at e
          refine mv_iconst C rfl ?_
          refine mv_goto C rfl ?_
          refine mv_iadd C rfl ?_
          refine mv_is_n2 C rfl rfl ?_
          refine mv_inc3 C rfl rfl ?_
          refine mv_goto C rfl ?_
          first | (simp only [nI_1]; exact e) | (simp only [nI_1, show ∀ a : Nat, nI a + 0 = nI a from fun a => nI_add a 0]; exact e)
  refine mv_aload_n C rfl rfl ?_
  refine mv_iconst C rfl ?_
  refine mv_putI C rfl rfl rfl rfl ?_
  refine mv_iconst C rfl ?_
  refine mv_is_n2 C rfl rfl ?_
  refine mv_iconst C rfl ?_
  refine mv_is_n3 C rfl rfl ?_
  exact loop (u 9 0) 0 (by omega)
end
end
section
section
/-- a whole array anew -/
def mv_w (z : mv_Z) (c : Nat) (f : Nat → Int32) : mv_Z := (va_up z.1 c f, z.2)
theorem mv_w_self {z : mv_Z} {c : Nat} : mv_w z c (z.1 c) = z := by
  unfold mv_w; congr 1; funext k; by_cases h : k = c <;> simp [va_up, h]
theorem mv_w_get {z : mv_Z} {c : Nat} {f : Nat → Int32} : (mv_w z c f).1 c = f := by simp [mv_w, va_up]
theorem mv_w_ne {z : mv_Z} {c q : Nat} {f : Nat → Int32} (h : ¬ q = c) : (mv_w z c f).1 q = z.1 q := by simp [mv_w, va_up, h]
theorem mv_uw {z : mv_Z} {c i : Nat} {f : Nat → Int32} {x : Int32} : mv_u (mv_w z c f) c i x = mv_w z c (upd f i x) := by
  unfold mv_u mv_w
  congr 1
  funext k
  by_cases h : k = c
  · simp [va_up, h]
  · simp [va_up, h]
theorem fX_w {z z1 : mv_Z} (h : fX z z1) {k : Nat} {f : Nat → Int32} (hk : k < 68) : fX z (mv_w z1 k f) := fun q hq => by
  have : ¬ q = k := by omega
  exact ⟨by rw [mv_w_ne this]; exact (h q hq).1, (h q hq).2⟩
theorem fM_w {z z1 : mv_Z} (h : fM z z1) {k : Nat} {f : Nat → Int32} (hk : 68 ≤ k) : fM z (mv_w z1 k f) := fun q hq => by
  have : ¬ q = k := by omega
  exact ⟨by rw [mv_w_ne this]; exact (h q hq).1, (h q hq).2⟩
theorem upd_step {f : Nat → Nat} {g : Nat → Nat} {i : Nat} : upd (fun k => nI (if k < i then g k else f k)) i (nI (g i)) = fun k => nI (if k < i + 1 then g k else f k) := by
  funext k
  by_cases h : k = i
  · subst h; simp [upd]
  · simp only [upd, h, if_false]
    by_cases h1 : k < i
    · rw [if_pos h1, if_pos (by omega)]
    · rw [if_neg h1, if_neg (by omega)]
theorem rT_w {T : List (Nat × Nat)} {Sc : List (Nat × Nat × Nat)} (ok : rOk T Sc = true) {u u1 : hM} {z : mv_Z} (h : rT T Sc u z) {cell key : Nat} (hc : (cell, key) ∈ T) (hk : ∀ k, k ≠ key → u1 k = u k) : rT T Sc u1 (mv_w z cell (fun i => nI (u1 key i))) := by
  simp only [rOk, Bool.and_eq_true, List.all_eq_true] at ok
  refine ⟨fun q hq => ?_, fun q hq => ?_⟩
  · have hk2 := (ok.1 _ hc).1 q hq
    by_cases e : q.1 = cell
    · have e2 : q.2 = key := by simp [e] at hk2; exact hk2.symm
      rw [e, e2, mv_w_get]
    · have e2 : q.2 ≠ key := by
        intro e2
        have e3 : ¬ cell = q.1 := fun e4 => e e4.symm
        simp [e2, e3] at hk2
      rw [hk _ e2, mv_w_ne e]; exact h.1 q hq
  · have hk2 := (ok.1 _ hc).2 q hq
    simp only [Bool.and_eq_true, bne_iff_ne, ne_eq] at hk2
    have e : ¬ q.1 = cell := fun e => hk2.1 e.symm
    have e2 : q.2.2 ≠ key := fun e => hk2.2 e.symm
    rw [hk _ e2, mv_w_ne e]; exact h.2 q hq
theorem rX_w {u u1 : hM} {z : mv_Z} (h : rX u z) (cell key : Nat) (hc : (cell, key) ∈ tX) (hk1 : key ≠ 1) (hk : ∀ k, k ≠ key → u1 k = u k) : rX u1 (mv_w z cell (fun i => nI (u1 key i))) := by
  obtain ⟨h1, h2, h3, h4, h5, h6, h7, h8⟩ := h
  obtain ⟨c1, c2, c3, c4, c5⟩ := tX_cells _ hc
  obtain ⟨k7, k8, k14, k18, k21, k22, k23, k24, k25, k26, k27, k28, k30, k31⟩ := tX_keys _ hc
  dsimp only at c1 c2 c3 c4 c5 k7 k8 k14 k18 k21 k22 k23 k24 k25 k26 k27 k28 k30 k31
  have h10 := rT_w rOkX h1 hc hk
  unfold rX
  rw [hk 7 k7.symm, hk 8 k8.symm, hk 14 k14.symm, hk 18 k18.symm, hk 21 k21.symm, hk 22 k22.symm, hk 23 k23.symm, hk 24 k24.symm, hk 25 k25.symm, hk 26 k26.symm, hk 27 k27.symm, hk 28 k28.symm, hk 30 k30.symm, hk 31 k31.symm, hk 1 hk1.symm]
  rw [mv_w_ne (q := 3) c2.symm, mv_w_ne (q := 23) c3.symm, mv_w_ne (q := 26) c4.symm, mv_w_ne (q := 31) c5.symm, mv_w_ne (q := 67) (by omega)]
  refine ⟨h10, h2, h3, h4, h5, fun a ha => ?_, h7, h8⟩
  rw [mv_w_ne (q := 34 + 4 * a) (by omega), mv_w_ne (q := 35 + 4 * a) (by omega), mv_w_ne (q := 36 + 4 * a) (by omega), mv_w_ne (q := 37 + 4 * a) (by omega)]
  exact h6 a ha
theorem rM_w {u u1 : hM} {z : mv_Z} (h : rM u z) (cell key : Nat) (hc : (cell, key) ∈ tM) (hk : ∀ k, k ≠ key → u1 k = u k) : rM u1 (mv_w z cell (fun i => nI (u1 key i))) := by
  obtain ⟨h1, h3, h4, h6, h8⟩ := h
  obtain ⟨c1, c2, c3, c4, c5, c6, c7, c8⟩ := tM_cells _ hc
  obtain ⟨k8, k14, k21, k22, k23, k24, k25, k26, k30, k31⟩ := tM_keys _ hc
  dsimp only at c1 c2 c3 c4 c5 c6 c7 c8 k8 k14 k21 k22 k23 k24 k25 k26 k30 k31
  have h10 := rT_w rOkM h1 hc hk
  unfold rM
  rw [hk 8 k8.symm, hk 14 k14.symm, hk 21 k21.symm, hk 22 k22.symm, hk 23 k23.symm, hk 24 k24.symm, hk 25 k25.symm, hk 26 k26.symm, hk 30 k30.symm, hk 31 k31.symm]
  rw [mv_w_ne (q := 68) (by omega), mv_w_ne (q := 84) c2.symm, mv_w_ne (q := 89) c3.symm, mv_w_ne (q := 90) c4.symm, mv_w_ne (q := 91) c5.symm, mv_w_ne (q := 92) c6.symm, mv_w_ne (q := 93) c7.symm, mv_w_ne (q := 82) c8.symm]
  exact ⟨h10, h3, h4, h6, h8⟩
-- trait
theorem hst_of {v : Int32} (h : -1 ≤ v) : v = hst (v.toInt + 1).toNat := by
  rw [i32_le, i32_m1] at h
  by_cases h0 : v.toInt = -1
  · rw [h0]; exact Int32.toInt_inj.mp h0
  · obtain ⟨j, hj, rfl⟩ := nI_of (x := v) (by rw [i32_lt, i32_0]; omega)
    rw [nI_toInt hj]
    show nI j = hst ((j : Int) + 1).toNat
    rw [show ((j : Int) + 1).toNat = j + 1 by omega]
    rfl
theorem rX_val {u : hM} {z : mv_Z} (h : rX u z) (k v : Nat) : rX (hu u 14 k v) (mv_u z 23 k (hst v)) := by
  obtain ⟨h1, h2, h3, h4, h5, h6, h7, h8⟩ := h
  unfold rX
  rw [hu_key (k1 := 7) (by decide), hu_key (k1 := 8) (by decide), hu_key (k1 := 18) (by decide), hu_key (k1 := 21) (by decide), hu_key (k1 := 22) (by decide), hu_key (k1 := 23) (by decide), hu_key (k1 := 24) (by decide), hu_key (k1 := 25) (by decide), hu_key (k1 := 26) (by decide), hu_key (k1 := 27) (by decide), hu_key (k1 := 28) (by decide), hu_key (k1 := 30) (by decide), hu_key (k1 := 31) (by decide), hu_key (k1 := 1) (by decide)]
  rw [mv_u_ne (q := 3) (by decide), mv_u_ne (q := 26) (by decide), mv_u_ne (q := 31) (by decide), mv_u_ne (q := 67) (by decide)]
  refine ⟨rT_keys (rT_out h1 23 k _ (by decide) (fun q hq hh => (show ∀ q ∈ sX, q.1 ≠ 23 by decide) q hq hh.1)) ?_ ?_, h2, h3, ?_, h5, fun a ha => ?_, h7, h8⟩
  · exact fun q hq => hu_key ((tX_keys q hq).2.2.1)
  · have : ∀ q ∈ sX, q.2.2 ≠ 14 := by decide
    exact fun q hq => by rw [hu_key (this q hq)]
  · funext j
    by_cases e : j = k
    · subst e; rw [mv_u_eq, hu_self]
    · rw [mv_u_at e, hu_ix e, h4]
  · rw [mv_u_ne (q := 34 + 4 * a) (by omega), mv_u_ne (q := 35 + 4 * a) (by omega), mv_u_ne (q := 36 + 4 * a) (by omega), mv_u_ne (q := 37 + 4 * a) (by omega)]
    exact h6 a ha
theorem rM_val {u : hM} {z : mv_Z} (h : rM u z) (k v : Nat) : rM (hu u 14 k v) (mv_u z 84 k (hst v)) := by
  obtain ⟨h1, h3, h4, h6, h8⟩ := h
  unfold rM
  rw [hu_key (k1 := 8) (by decide), hu_key (k1 := 21) (by decide), hu_key (k1 := 22) (by decide), hu_key (k1 := 23) (by decide), hu_key (k1 := 24) (by decide), hu_key (k1 := 25) (by decide), hu_key (k1 := 26) (by decide), hu_key (k1 := 30) (by decide), hu_key (k1 := 31) (by decide)]
  rw [mv_u_ne (q := 68) (by decide), mv_u_ne (q := 89) (by decide), mv_u_ne (q := 90) (by decide), mv_u_ne (q := 91) (by decide), mv_u_ne (q := 92) (by decide), mv_u_ne (q := 93) (by decide), mv_u_ne (q := 82) (by decide)]
  refine ⟨rT_keys (rT_out h1 84 k _ (by decide) (fun q hq hh => (show ∀ q ∈ sM, q.1 ≠ 84 by decide) q hq hh.1)) ?_ ?_, h3, ?_, h6, h8⟩
  · exact fun q hq => hu_key ((tM_keys q hq).2.1)
  · have : ∀ q ∈ sM, q.2.2 ≠ 14 := by decide
    exact fun q hq => by rw [hu_key (this q hq)]
  · funext j
    by_cases e : j = k
    · subst e; rw [mv_u_eq, hu_self]
    · rw [mv_u_at e, hu_ix e, h4]
def c_trait (t v b : Int32) : Bool := decide (0 ≤ t ∧ t < 6) && decide (-1 ≤ v ∧ v ≤ 31) && decide (0 ≤ b ∧ b ≤ 31)
def a_trait (t v b : Int32) : Int32 := bif c_trait t v b then 1 else 0
def o_trait (u : hM) (t v b : Int32) : hM := bif c_trait t v b then hu (hu u 14 t.toNatClampNeg (v.toInt + 1).toNat) 15 t.toNatClampNeg b.toNatClampNeg else u
theorem r_set (z : mv_Z) (t v b : Int32) : mv_Runs 2 40 [.ref 22, .int t, .int v, .int b] (mv_E z) (some (.int (a_trait t v b))) (mv_E (bif c_trait t v b then mv_u (mv_u z 23 t.toNatClampNeg v) 24 t.toNatClampNeg b else z)) := by
  refine mv_start pX4_set (some .boolean) [some (.ref 22), some (.int t), some (.int v), some (.int b), none, none] rfl rfl rfl rfl (fun V C => ?_)
  have f2 : ∀ x5 : Int32, x5 = (if -1 ≤ v ∧ v ≤ 31 then 1 else 0) → V 34 [some (.ref 22), some (.int t), some (.int v), some (.int b), some (.int (if 0 ≤ t ∧ t < 6 then 1 else 0)), none] [.int x5] (mv_E z) := by
    intro x5 h5
    refine mv_is5 C rfl rfl ?_
    refine mv_iload C rfl rfl ?_
    refine mv_if_eq C rfl (fun c38 => ?_) (fun c38 => ?_)
    · have hT := b01.mp c38
      have hc : c_trait t v b = false := by simp only [c_trait, decide_eq_false hT, Bool.false_and]
      rw [hc] at C
      refine mv_iconst C rfl ?_
      refine mv_ireturn C rfl (by first | exact mv_okZ1 | exact mv_okZ0) ?_ ?_
      all_goals (first | rfl | (unfold a_trait; rw [hc]; rfl) | (rw [hc]; rfl))
    · have hT := b10.mp c38
      refine mv_iload C rfl rfl ?_
      refine mv_if_eq C rfl (fun c43 => ?_) (fun c43 => ?_)
      · rw [h5] at c43
        have hv := b01.mp c43
        have hc : c_trait t v b = false := by simp only [c_trait, decide_eq_false hv, Bool.false_and, Bool.and_false]
        rw [hc] at C
        refine mv_iconst C rfl ?_
        refine mv_ireturn C rfl (by first | exact mv_okZ1 | exact mv_okZ0) ?_ ?_
        all_goals (first | rfl | (unfold a_trait; rw [hc]; rfl) | (rw [hc]; rfl))
      · rw [h5] at c43
        have hv := b10.mp c43
        refine mv_iload_n C rfl rfl ?_
        refine mv_cS C rfl (r_isNumber _ _) (by decide) rfl (Nat.le_of_ble_eq_true rfl) (Nat.le_refl _) (Nat.le_refl _) rfl ?_
        refine mv_if_ne C rfl (fun c50 => ?_) (fun c50 => ?_)
        · have hb := b10.mp c50
          have hc : c_trait t v b = true := by simp only [c_trait, decide_eq_true hT, decide_eq_true hv, decide_eq_true hb, Bool.and_self]
          rw [hc] at C
          refine mv_aload_n C rfl rfl ?_
          refine mv_getR C rfl rfl rfl ?_
          refine mv_iload_n C rfl rfl ?_
          refine mv_iload_n C rfl rfl ?_
          refine mv_ast C rfl rfl (nI_nn hT.1) (cl_le hT.1 (show t < nI 6 from hT.2) (by decide)) ?_
          refine mv_aload_n C rfl rfl ?_
          refine mv_getR C rfl rfl rfl ?_
          refine mv_iload_n C rfl rfl ?_
          refine mv_iload_n C rfl rfl ?_
          refine mv_ast C rfl rfl (nI_nn hT.1) (cl_le hT.1 (show t < nI 6 from hT.2) (by decide)) ?_
          refine mv_iconst C rfl ?_
          refine mv_ireturn C rfl (by first | exact mv_okZ1 | exact mv_okZ0) ?_ ?_
          all_goals (first | rfl | (unfold a_trait; rw [hc]; rfl) | (rw [hc]; rfl))
        · have hb := b01.mp c50
          have hc : c_trait t v b = false := by simp only [c_trait, decide_eq_false hb, Bool.and_false]
          rw [hc] at C
          refine mv_iconst C rfl ?_
          refine mv_ireturn C rfl (by first | exact mv_okZ1 | exact mv_okZ0) ?_ ?_
          all_goals (first | rfl | (unfold a_trait; rw [hc]; rfl) | (rw [hc]; rfl))
  have f1 : ∀ x4 : Int32, x4 = (if 0 ≤ t ∧ t < 6 then 1 else 0) → V 15 [some (.ref 22), some (.int t), some (.int v), some (.int b), none, none] [.int x4] (mv_E z) := by
    intro x4 h4
    subst h4
    refine mv_is4 C rfl rfl ?_
    refine mv_iload_n C rfl rfl ?_
    refine mv_iconst C rfl ?_
    refine mv_icmp_eq C rfl (fun c19 => ?_) (fun c19 => ?_)
    · try simp only [b01, b10] at c19
      refine mv_iconst C rfl ?_
      refine mv_goto C rfl ?_
      refine f2 _ ?_
      clear f2
      first | rfl | (rw [if_pos (by clear C; simp only [i32_lt, i32_le, i32_eq, nI_toInt, i32_0, i32_1, i32_2, i32_3, i32_4, i32_5, i32_6, i32_7, i32_8, i32_10, i32_12, i32_23, i32_24, i32_30, i32_31, i32_32, i32_39, i32_40, i32_41, i32_46, i32_47, i32_48, i32_96, i32_99, i32_100, i32_255, i32_999, i32_2024, i32_32767, i32_1000000, i32_m1, i32_m2, i32_m3] at *; omega)]) | (rw [if_neg (by clear C; simp only [i32_lt, i32_le, i32_eq, nI_toInt, i32_0, i32_1, i32_2, i32_3, i32_4, i32_5, i32_6, i32_7, i32_8, i32_10, i32_12, i32_23, i32_24, i32_30, i32_31, i32_32, i32_39, i32_40, i32_41, i32_46, i32_47, i32_48, i32_96, i32_99, i32_100, i32_255, i32_999, i32_2024, i32_32767, i32_1000000, i32_m1, i32_m2, i32_m3] at *; omega)])
    · try simp only [b01, b10] at c19
      refine mv_iload_n C rfl rfl ?_
      refine mv_cS C rfl (r_isNumber _ _) (by decide) rfl (Nat.le_of_ble_eq_true rfl) (Nat.le_refl _) (Nat.le_refl _) rfl ?_
      refine mv_if_eq C rfl (fun c26 => ?_) (fun c26 => ?_)
      · try simp only [b01, b10] at c26
        refine mv_iconst C rfl ?_
        refine f2 _ ?_
        clear f2
        first | rfl | (rw [if_pos (by clear C; simp only [i32_lt, i32_le, i32_eq, nI_toInt, i32_0, i32_1, i32_2, i32_3, i32_4, i32_5, i32_6, i32_7, i32_8, i32_10, i32_12, i32_23, i32_24, i32_30, i32_31, i32_32, i32_39, i32_40, i32_41, i32_46, i32_47, i32_48, i32_96, i32_99, i32_100, i32_255, i32_999, i32_2024, i32_32767, i32_1000000, i32_m1, i32_m2, i32_m3] at *; omega)]) | (rw [if_neg (by clear C; simp only [i32_lt, i32_le, i32_eq, nI_toInt, i32_0, i32_1, i32_2, i32_3, i32_4, i32_5, i32_6, i32_7, i32_8, i32_10, i32_12, i32_23, i32_24, i32_30, i32_31, i32_32, i32_39, i32_40, i32_41, i32_46, i32_47, i32_48, i32_96, i32_99, i32_100, i32_255, i32_999, i32_2024, i32_32767, i32_1000000, i32_m1, i32_m2, i32_m3] at *; omega)])
      · try simp only [b01, b10] at c26
        refine mv_iconst C rfl ?_
        refine mv_goto C rfl ?_
        refine f2 _ ?_
        clear f2
        first | rfl | (rw [if_pos (by clear C; simp only [i32_lt, i32_le, i32_eq, nI_toInt, i32_0, i32_1, i32_2, i32_3, i32_4, i32_5, i32_6, i32_7, i32_8, i32_10, i32_12, i32_23, i32_24, i32_30, i32_31, i32_32, i32_39, i32_40, i32_41, i32_46, i32_47, i32_48, i32_96, i32_99, i32_100, i32_255, i32_999, i32_2024, i32_32767, i32_1000000, i32_m1, i32_m2, i32_m3] at *; omega)]) | (rw [if_neg (by clear C; simp only [i32_lt, i32_le, i32_eq, nI_toInt, i32_0, i32_1, i32_2, i32_3, i32_4, i32_5, i32_6, i32_7, i32_8, i32_10, i32_12, i32_23, i32_24, i32_30, i32_31, i32_32, i32_39, i32_40, i32_41, i32_46, i32_47, i32_48, i32_96, i32_99, i32_100, i32_255, i32_999, i32_2024, i32_32767, i32_1000000, i32_m1, i32_m2, i32_m3] at *; omega)])
  refine mv_iload_n C rfl rfl ?_
  refine mv_if_lt C rfl (fun c1 => ?_) (fun c1 => ?_)
  · refine mv_iconst C rfl ?_
    refine f1 _ ?_
    clear f1 f2
    first | rfl | (rw [if_pos (by clear C; simp only [i32_lt, i32_le, i32_eq, nI_toInt, i32_0, i32_1, i32_2, i32_3, i32_4, i32_5, i32_6, i32_7, i32_8, i32_10, i32_12, i32_23, i32_24, i32_30, i32_31, i32_32, i32_39, i32_40, i32_41, i32_46, i32_47, i32_48, i32_96, i32_99, i32_100, i32_255, i32_999, i32_2024, i32_32767, i32_1000000, i32_m1, i32_m2, i32_m3] at *; omega)]) | (rw [if_neg (by clear C; simp only [i32_lt, i32_le, i32_eq, nI_toInt, i32_0, i32_1, i32_2, i32_3, i32_4, i32_5, i32_6, i32_7, i32_8, i32_10, i32_12, i32_23, i32_24, i32_30, i32_31, i32_32, i32_39, i32_40, i32_41, i32_46, i32_47, i32_48, i32_96, i32_99, i32_100, i32_255, i32_999, i32_2024, i32_32767, i32_1000000, i32_m1, i32_m2, i32_m3] at *; omega)])
  · refine mv_iload_n C rfl rfl ?_
    refine mv_bipush C rfl ?_
    refine mv_icmp_ge C rfl (fun c7 => ?_) (fun c7 => ?_)
    · refine mv_iconst C rfl ?_
      refine f1 _ ?_
      clear f1 f2
      first | rfl | (rw [if_pos (by clear C; simp only [i32_lt, i32_le, i32_eq, nI_toInt, i32_0, i32_1, i32_2, i32_3, i32_4, i32_5, i32_6, i32_7, i32_8, i32_10, i32_12, i32_23, i32_24, i32_30, i32_31, i32_32, i32_39, i32_40, i32_41, i32_46, i32_47, i32_48, i32_96, i32_99, i32_100, i32_255, i32_999, i32_2024, i32_32767, i32_1000000, i32_m1, i32_m2, i32_m3] at *; omega)]) | (rw [if_neg (by clear C; simp only [i32_lt, i32_le, i32_eq, nI_toInt, i32_0, i32_1, i32_2, i32_3, i32_4, i32_5, i32_6, i32_7, i32_8, i32_10, i32_12, i32_23, i32_24, i32_30, i32_31, i32_32, i32_39, i32_40, i32_41, i32_46, i32_47, i32_48, i32_96, i32_99, i32_100, i32_255, i32_999, i32_2024, i32_32767, i32_1000000, i32_m1, i32_m2, i32_m3] at *; omega)])
    · refine mv_iconst C rfl ?_
      refine mv_goto C rfl ?_
      refine f1 _ ?_
      clear f1 f2
      first | rfl | (rw [if_pos (by clear C; simp only [i32_lt, i32_le, i32_eq, nI_toInt, i32_0, i32_1, i32_2, i32_3, i32_4, i32_5, i32_6, i32_7, i32_8, i32_10, i32_12, i32_23, i32_24, i32_30, i32_31, i32_32, i32_39, i32_40, i32_41, i32_46, i32_47, i32_48, i32_96, i32_99, i32_100, i32_255, i32_999, i32_2024, i32_32767, i32_1000000, i32_m1, i32_m2, i32_m3] at *; omega)]) | (rw [if_neg (by clear C; simp only [i32_lt, i32_le, i32_eq, nI_toInt, i32_0, i32_1, i32_2, i32_3, i32_4, i32_5, i32_6, i32_7, i32_8, i32_10, i32_12, i32_23, i32_24, i32_30, i32_31, i32_32, i32_39, i32_40, i32_41, i32_46, i32_47, i32_48, i32_96, i32_99, i32_100, i32_255, i32_999, i32_2024, i32_32767, i32_1000000, i32_m1, i32_m2, i32_m3] at *; omega)])
end
end
section
section
theorem x_trait (u : hM) (z : mv_Z) (t v b : Int32) (hi : hI u) (hz : rX u z) : xR 90 [.int t, .int v, .int b] u z (.int (a_trait t v b)) (o_trait u t v b) := by
  have hA : a_trait t v b = 0 ∨ a_trait t v b = 1 := by unfold a_trait; cases c_trait t v b <;> simp
  refine ⟨_, mv_up (d := 3) (S1 := mv_E (bif c_trait t v b then mv_u (mv_u z 23 t.toNatClampNeg v) 24 t.toNatClampNeg b else z)) ?_ rfl, ?_, ?_⟩
  · refine mv_start pX10_trait (some .boolean) [some (.ref 0), some (.int t), some (.int v), some (.int b)] rfl rfl rfl rfl (fun V C => ?_)
    refine mv_aload_n C rfl rfl ?_
    refine mv_getR C rfl rfl rfl ?_
    refine mv_getR C rfl rfl rfl ?_
    refine mv_iload_n C rfl rfl ?_
    refine mv_iload_n C rfl rfl ?_
    refine mv_iload_n C rfl rfl ?_
    refine mv_cV C rfl (r_set _ _ _ _) (by decide) rfl rfl rfl (Nat.le_of_ble_eq_true rfl) (Nat.le_refl _) (Nat.le_refl _) rfl ?_
    refine mv_ireturn C rfl (mv_okZ hA) ?_ ?_
    all_goals rfl
  · unfold o_trait
    cases hc : c_trait t v b with
    | false => exact hz
    | true =>
      simp only [c_trait, Bool.and_eq_true, decide_eq_true_eq] at hc
      obtain ⟨⟨ht, hv⟩, hb⟩ := hc
      have ev := hst_of hv.1
      have eb := nI_nn hb.1
      generalize t.toNatClampNeg = k at *
      generalize (v.toInt + 1).toNat = v1 at *
      generalize b.toNatClampNeg = b1 at *
      subst ev; subst eb
      exact rX_arr (rX_val hz k v1) 24 15 k b1 (by decide) (by decide)
  · cases c_trait t v b with
    | false => exact fX_rf
    | true => exact fX_u (fX_u fX_rf (by decide)) (by decide)
theorem m_trait (u : hM) (z : mv_Z) (t v b : Int32) (hi : hI u) (hz : rM u z) : mR 148 [.int t, .int v, .int b] u z (.int (a_trait t v b)) (o_trait u t v b) := by
  have h0 := rM_free hz 68 0 0 (Or.inr ⟨rfl, by decide⟩)
  refine ⟨_, mv_up (d := 3) (S1 := mv_E (bif c_trait t v b then mv_u (mv_u (mv_u z 68 0 0) 84 t.toNatClampNeg v) 85 t.toNatClampNeg b else mv_u z 68 0 0)) ?_ rfl, ?_, ?_⟩
  · refine mv_start pX11_trait (some .boolean) [some (.ref 68), some (.int t), some (.int v), some (.int b)] rfl rfl rfl rfl (fun V C => ?_)
    refine mv_aload_n C rfl rfl ?_
    refine mv_iconst C rfl ?_
    refine mv_putI C rfl rfl rfl rfl ?_
    refine mv_iload_n C rfl rfl ?_
    refine mv_i2l C rfl ?_
    refine mv_lconst C rfl ?_
    refine mv_ldc2_w C rfl ?_
    refine mv_cS C rfl (mv_up (r_inI _ _ _ _ (0 ≤ t ∧ t < 6) (by rw [i32_le, i32_lt, i32_0, i32_6, l64_0, l64_5]; omega)) rfl) (by decide) rfl (Nat.le_of_ble_eq_true rfl) (Nat.le_refl _) (Nat.le_refl _) rfl ?_
    refine mv_if_eq C rfl (fun c14 => ?_) (fun c14 => ?_)
    · have hT := b01.mp c14
      have hc : c_trait t v b = false := by simp only [c_trait, decide_eq_false hT, Bool.false_and]
      rw [hc] at C
      refine mv_iconst C rfl ?_
      refine mv_ireturn C rfl (by first | exact mv_okZ1 | exact mv_okZ0) ?_ ?_
      all_goals (first | rfl | (unfold a_trait; rw [hc]; rfl) | (rw [hc]; rfl))
    · have hT := b10.mp c14
      refine mv_iload_n C rfl rfl ?_
      refine mv_i2l C rfl ?_
      refine mv_ldc2_w C rfl ?_
      refine mv_ldc2_w C rfl ?_
      refine mv_cS C rfl (mv_up (r_inI _ _ _ _ (-1 ≤ v ∧ v ≤ 31) (by rw [i32_le, i32_le, i32_m1, i32_31, l64_m1, l64_31])) rfl) (by decide) rfl (Nat.le_of_ble_eq_true rfl) (Nat.le_refl _) (Nat.le_refl _) rfl ?_
      refine mv_if_eq C rfl (fun c28 => ?_) (fun c28 => ?_)
      · have hv := b01.mp c28
        have hc : c_trait t v b = false := by simp only [c_trait, decide_eq_false hv, Bool.false_and, Bool.and_false]
        rw [hc] at C
        refine mv_iconst C rfl ?_
        refine mv_ireturn C rfl (by first | exact mv_okZ1 | exact mv_okZ0) ?_ ?_
        all_goals (first | rfl | (unfold a_trait; rw [hc]; rfl) | (rw [hc]; rfl))
      · have hv := b10.mp c28
        refine mv_iload_n C rfl rfl ?_
        refine mv_i2l C rfl ?_
        refine mv_lconst C rfl ?_
        refine mv_ldc2_w C rfl ?_
        refine mv_cS C rfl (mv_up (r_inI _ _ _ _ (0 ≤ b ∧ b ≤ 31) (by rw [i32_le, i32_le, i32_0, i32_31, l64_0, l64_31])) rfl) (by decide) rfl (Nat.le_of_ble_eq_true rfl) (Nat.le_refl _) (Nat.le_refl _) rfl ?_
        refine mv_if_ne C rfl (fun c40 => ?_) (fun c40 => ?_)
        · have hb := b10.mp c40
          have hc : c_trait t v b = true := by simp only [c_trait, decide_eq_true hT, decide_eq_true hv, decide_eq_true hb, Bool.and_self]
          rw [hc] at C
          refine mv_aload_n C rfl rfl ?_
          refine mv_getR C rfl rfl rfl ?_
          refine mv_iload_n C rfl rfl ?_
          refine mv_iload_n C rfl rfl ?_
          refine mv_ast C rfl rfl (nI_nn hT.1) (cl_le hT.1 (show t < nI 6 from hT.2) (by decide)) ?_
          refine mv_aload_n C rfl rfl ?_
          refine mv_getR C rfl rfl rfl ?_
          refine mv_iload_n C rfl rfl ?_
          refine mv_iload_n C rfl rfl ?_
          refine mv_ast C rfl rfl (nI_nn hT.1) (cl_le hT.1 (show t < nI 6 from hT.2) (by decide)) ?_
          refine mv_iconst C rfl ?_
          refine mv_ireturn C rfl (by first | exact mv_okZ1 | exact mv_okZ0) ?_ ?_
          all_goals (first | rfl | (unfold a_trait; rw [hc]; rfl) | (rw [hc]; rfl))
        · have hb := b01.mp c40
          have hc : c_trait t v b = false := by simp only [c_trait, decide_eq_false hb, Bool.and_false]
          rw [hc] at C
          refine mv_iconst C rfl ?_
          refine mv_ireturn C rfl (by first | exact mv_okZ1 | exact mv_okZ0) ?_ ?_
          all_goals (first | rfl | (unfold a_trait; rw [hc]; rfl) | (rw [hc]; rfl))
  · unfold o_trait
    cases hc : c_trait t v b with
    | false => exact h0
    | true =>
      simp only [c_trait, Bool.and_eq_true, decide_eq_true_eq] at hc
      obtain ⟨⟨ht, hv⟩, hb⟩ := hc
      have ev := hst_of hv.1
      have eb := nI_nn hb.1
      generalize t.toNatClampNeg = k at *
      generalize (v.toInt + 1).toNat = v1 at *
      generalize b.toNatClampNeg = b1 at *
      subst ev; subst eb
      exact rM_arr (rM_val h0 k v1) 85 15 k b1 (by decide)
  · cases c_trait t v b with
    | false => exact fM_u fM_rf (by decide)
    | true => exact fM_u (fM_u (fM_u fM_rf (by decide)) (by decide)) (by decide)
-- telling
def hnb (u : hM) (n k : Nat) : Nat := if u 14 k = 0 then u 15 k else if 31 < u 15 k + n then 31 else u 15 k + n
def htell (u : hM) (n : Nat) : hM := fun k i => if k = 15 then (if i < 6 then hnb u n i else u 15 i) else u k i
def hts (u : hM) (n : Nat) : Nat := hsum (fun k => if u 14 k = 0 then 0 else hnb u n k) 6
def a_telling (u : hM) (n : Int32) : Int32 := if 0 ≤ n ∧ n ≤ 31 then nI (hts u n.toNatClampNeg) else -1
def o_telling (u : hM) (n : Int32) : hM := if 0 ≤ n ∧ n ≤ 31 then htell u n.toNatClampNeg else u
theorem min31a {x : Nat} (h : x < 2 ^ 31) : (if (31 : Int32) < nI x then (31 : Int32) else nI x) = nI (if 31 < x then 31 else x) := by
  rw [lit_31]
  by_cases q : 31 < x
  · rw [if_pos q, if_pos ((nI_ltI (by decide) h).mpr q)]
  · rw [if_neg q, if_neg (fun w => q ((nI_ltI (by decide) h).mp w))]
theorem min31b {x : Nat} (h : x < 2 ^ 31) : (if nI x < (31 : Int32) then nI x else (31 : Int32)) = nI (if 31 < x then 31 else x) := by
  rw [lit_31]
  by_cases q : x < 31
  · rw [if_pos ((nI_ltI h (by decide)).mpr q), if_neg (show ¬ 31 < x by omega)]
  · rw [if_neg (fun w => q ((nI_ltI h (by decide)).mp w))]
    by_cases q2 : 31 < x
    · rw [if_pos q2]
    · rw [if_neg q2, show x = 31 by omega]
theorem hst_ge {s : Nat} (hs : s < 2 ^ 31) : hst s < 0 ↔ s = 0 := by
  cases s with
  | zero => exact ⟨fun _ => rfl, fun _ => by decide⟩
  | succ n => simp only [hst]; exact ⟨fun h => absurd h (nI_pos (by omega)), fun h => by omega⟩
theorem r_tellOn (z : mv_Z) (u : hM) (n : Nat) (hn : n ≤ 31) (hv : z.1 23 = fun k => hst (u 14 k)) (hb : z.1 24 = fun k => nI (u 15 k)) (h1 : ∀ k, u 14 k ≤ 32 ∧ u 15 k ≤ 31) : mv_Runs 1 41 [.ref 22, .int (nI n)] (mv_E z) (some (.int (nI (hts u n)))) (mv_E (mv_w z 24 (fun k => nI (if k < 6 then hnb u n k else u 15 k)))) := by
  refine mv_start pX4_tellOn (some .int) [some (.ref 22), some (.int (nI n)), none, none] rfl rfl rfl rfl (fun V C => ?_)
  have loop : ∀ (k i : Nat), i + k = 6 → V 4 [some (.ref 22), some (.int (nI n)), some (.int (nI (hsum (fun k => if u 14 k = 0 then 0 else hnb u n k) i))), some (.int (nI i))] [] (mv_E (mv_w z 24 (fun k => nI (if k < i then hnb u n k else u 15 k)))) := by
    intro k
    induction k with
    | zero =>
      intro i hi
      obtain rfl : i = 6 := by omega
      refine mv_iload_n C rfl rfl ?_
      refine mv_bipush C rfl ?_
      refine mv_icmp_ge C rfl (fun c7 => ?_) (fun c7 => ?_)
      · refine mv_iload_n C rfl rfl ?_
        refine mv_ireturn C rfl mv_okI ?_ ?_
        all_goals rfl
      · exact absurd (by decide) c7
    | succ k ih =>
      intro i hi
      have e := ih (i + 1) (by omega)
      rw [← upd_step] at e
      simp only [hsum] at e
      have hi1 := h1 i
      have hv1 : (mv_w z 24 (fun k => nI (if k < i then hnb u n k else u 15 k))).1 23 i = hst (u 14 i) := by rw [mv_w_ne (by decide), hv]
      have hb1 : (mv_w z 24 (fun k => nI (if k < i then hnb u n k else u 15 k))).1 24 i = nI (u 15 i) := by rw [mv_w_get]; simp
      refine mv_iload_n C rfl rfl ?_
      refine mv_bipush C rfl ?_
      refine mv_icmp_ge C rfl (fun c7 => ?_) (fun c7 => ?_)
      · exact absurd c7 (nI_ge (b := 6) (by omega) (by decide))
      · refine mv_aload_n C rfl rfl ?_
        refine mv_getR C rfl rfl rfl ?_
        refine mv_iload_n C rfl rfl ?_
        refine mv_aldJ C rfl rfl rfl (by omega) hv1 ?_
        refine mv_iconst C rfl ?_
        refine mv_icmp_eq C rfl (fun c17 => ?_) (fun c17 => ?_)
        · have h2 := (hst_m1 (by omega)).mp c17
          rw [if_pos h2, show hnb u n i = u 15 i by (unfold hnb; rw [if_pos h2])] at e
          rw [show upd (fun k => nI (if k < i then hnb u n k else u 15 k)) i (nI (u 15 i)) = (fun k => nI (if k < i then hnb u n k else u 15 k)) by (funext q; simp only [upd]; split; (rename_i hq; subst hq; simp); rfl)] at e
          refine mv_inc3 C rfl rfl ?_
          refine mv_goto C rfl ?_
          simp only [nI_1]
          exact e
        · have h2 : ¬ u 14 i = 0 := fun q => c17 ((hst_m1 (by omega)).mpr q)
          rw [if_neg h2] at e
          refine mv_aload_n C rfl rfl ?_
          refine mv_getR C rfl rfl rfl ?_
          refine mv_iload_n C rfl rfl ?_
          refine mv_aload_n C rfl rfl ?_
          refine mv_getR C rfl rfl rfl ?_
          refine mv_iload_n C rfl rfl ?_
          refine mv_aldJ C rfl rfl rfl (by omega) hb1 ?_
          refine mv_iload_n C rfl rfl ?_
          refine mv_iadd C rfl ?_
          refine mv_top (nI_add _ _) ?_
          refine mv_bipush C rfl ?_
          refine mv_mmin C rfl rfl (Nat.le_of_ble_eq_true rfl) ?_
          refine mv_top (show _ = nI (hnb u n i) from ?_) ?_
          · (rw [min31a (by omega)]; unfold hnb; rw [if_neg h2])
          refine mv_ast C rfl rfl rfl (by omega) ?_
          refine mv_sto mv_uw ?_
          refine mv_iload_n C rfl rfl ?_
          refine mv_aload_n C rfl rfl ?_
          refine mv_getR C rfl rfl rfl ?_
          refine mv_iload_n C rfl rfl ?_
          refine mv_aldJ C rfl rfl rfl (by omega) (show _ = nI (hnb u n i) by (rw [mv_w_get]; simp [upd])) ?_
          refine mv_iadd C rfl ?_
          refine mv_top (nI_add _ _) ?_
          refine mv_is_n2 C rfl rfl ?_
          refine mv_inc3 C rfl rfl ?_
          refine mv_goto C rfl ?_
          simp only [nI_1]
          exact e
  refine mv_iconst C rfl ?_
  refine mv_is_n2 C rfl rfl ?_
  refine mv_iconst C rfl ?_
  refine mv_is_n3 C rfl rfl ?_
  refine mv_sto (z1 := mv_w z 24 (fun k => nI (if k < 0 then hnb u n k else u 15 k))) ?_ (loop 6 0 (by omega))
  rw [show (fun k => nI (if k < 0 then hnb u n k else u 15 k)) = z.1 24 by (rw [hb]; funext k; simp), mv_w_self]
theorem x_telling (u : hM) (z : mv_Z) (n : Int32) (hi : hI u) (hz : rX u z) : xR 91 [.int n] u z (.int (a_telling u n)) (o_telling u n) := by
  unfold a_telling o_telling
  have R0 := r_isNumber z n
  by_cases hc : 0 ≤ n ∧ n ≤ 31
  · rw [if_pos hc] at R0 ⊢
    rw [if_pos hc]
    obtain ⟨j, hj, rfl⟩ : ∃ j, j ≤ 31 ∧ n = nI j := by
      obtain ⟨j, hj, e⟩ := nI_rng (x := n) (n := 32) hc.1 (by have := hc.2; rw [i32_le, i32_31] at this; rw [i32_lt, nI_toInt (by decide)]; omega) (by decide)
      exact ⟨j, by omega, e⟩
    rw [nI_clamp (by omega)]
    have R1 := r_tellOn z u j hj hz.2.2.2.1 (funext fun k => rX_a hz 24 15 (by decide) k) hi.2.2.2.2.2.2.2.2.2.2.1
    refine ⟨_, mv_up (d := 2) (S1 := mv_E (mv_w z 24 (fun k => nI (if k < 6 then hnb u j k else u 15 k)))) ?_ rfl, ?_, fX_w fX_rf (by decide)⟩
    · refine mv_start pX10_telling (some .int) [some (.ref 0), some (.int (nI j))] rfl rfl rfl rfl (fun V C => ?_)
      refine mv_iload_n C rfl rfl ?_
      refine mv_cS C rfl R0 (by decide) rfl (Nat.le_of_ble_eq_true rfl) (Nat.le_refl _) (Nat.le_refl _) rfl ?_
      refine mv_if_eq C rfl (fun c4 => ?_) (fun c4 => ?_)
      · exact absurd c4 (by decide)
      · refine mv_aload_n C rfl rfl ?_
        refine mv_getR C rfl rfl rfl ?_
        refine mv_getR C rfl rfl rfl ?_
        refine mv_iload_n C rfl rfl ?_
        refine mv_cV C rfl R1 (by decide) rfl rfl rfl (Nat.le_of_ble_eq_true rfl) (Nat.le_refl _) (Nat.le_refl _) rfl ?_
        refine mv_goto C rfl ?_
        refine mv_ireturn C rfl mv_okI ?_ ?_
        all_goals rfl
    · have := rX_w (u1 := htell u j) hz 24 15 (by decide) (by decide) (fun k hk => by funext i; simp [htell, hk])
      simpa [htell] using this
  · rw [if_neg hc] at R0 ⊢
    rw [if_neg hc]
    refine ⟨_, mv_up (d := 2) (S1 := mv_E z) ?_ rfl, hz, fX_rf⟩
    refine mv_start pX10_telling (some .int) [some (.ref 0), some (.int n)] rfl rfl rfl rfl (fun V C => ?_)
    refine mv_iload_n C rfl rfl ?_
    refine mv_cS C rfl R0 (by decide) rfl (Nat.le_of_ble_eq_true rfl) (Nat.le_refl _) (Nat.le_refl _) rfl ?_
    refine mv_if_eq C rfl (fun c4 => ?_) (fun c4 => ?_)
    · refine mv_iconst C rfl ?_
      refine mv_ireturn C rfl mv_okI ?_ ?_
      all_goals rfl
    · exact absurd rfl c4
theorem m_telling (u : hM) (z : mv_Z) (n : Int32) (hi : hI u) (hz : rM u z) : mR 149 [.int n] u z (.int (a_telling u n)) (o_telling u n) := by
  have h0 := rM_free hz 68 0 0 (Or.inr ⟨rfl, by decide⟩)
  unfold a_telling o_telling
  have R0 := r_inI (mv_u z 68 0 0) n 0 31 (0 ≤ n ∧ n ≤ 31) (by rw [i32_le, i32_le, i32_0, i32_31, l64_0, l64_31])
  by_cases hc : 0 ≤ n ∧ n ≤ 31
  · rw [if_pos hc] at R0 ⊢
    rw [if_pos hc]
    obtain ⟨j, hj, rfl⟩ : ∃ j, j ≤ 31 ∧ n = nI j := by
      obtain ⟨j, hj, e⟩ := nI_rng (x := n) (n := 32) hc.1 (by have := hc.2; rw [i32_le, i32_31] at this; rw [i32_lt, nI_toInt (by decide)]; omega) (by decide)
      exact ⟨j, by omega, e⟩
    rw [nI_clamp (by omega)]
    have hv := h0.2.2.1
    have hb : (mv_u z 68 0 0).1 85 = fun k => nI (u 15 k) := funext fun k => rM_a h0 85 15 (by decide) k
    have h1 := hi.2.2.2.2.2.2.2.2.2.2.1
    refine ⟨_, mv_up (d := 2) (S1 := mv_E (mv_w (mv_u z 68 0 0) 85 (fun k => nI (if k < 6 then hnb u j k else u 15 k)))) ?_ rfl, ?_, fM_w (fM_u fM_rf (by decide)) (by decide)⟩
    · refine mv_start pX11_telling (some .int) [some (.ref 68), some (.int (nI j)), none, none] rfl rfl rfl rfl (fun V C => ?_)
      have loop : ∀ (k i : Nat), i + k = 6 → V 23 [some (.ref 68), some (.int (nI j)), some (.int (nI (hsum (fun k => if u 14 k = 0 then 0 else hnb u j k) i))), some (.int (nI i))] [] (mv_E (mv_w (mv_u z 68 0 0) 85 (fun k => nI (if k < i then hnb u j k else u 15 k)))) := by
        intro k
        induction k with
        | zero =>
          intro i hi
          obtain rfl : i = 6 := by omega
          refine mv_iload_n C rfl rfl ?_
          refine mv_bipush C rfl ?_
          refine mv_icmp_ge C rfl (fun c26 => ?_) (fun c26 => ?_)
          · refine mv_iload_n C rfl rfl ?_
            refine mv_ireturn C rfl mv_okI ?_ ?_
            all_goals rfl
          · exact absurd (by decide) c26
        | succ k ih =>
          intro i hi
          have e := ih (i + 1) (by omega)
          rw [← upd_step] at e
          simp only [hsum] at e
          have hi1 := h1 i
          have hv1 : (mv_w (mv_u z 68 0 0) 85 (fun k => nI (if k < i then hnb u j k else u 15 k))).1 84 i = hst (u 14 i) := by rw [mv_w_ne (by decide), hv]
          have hb1 : (mv_w (mv_u z 68 0 0) 85 (fun k => nI (if k < i then hnb u j k else u 15 k))).1 85 i = nI (u 15 i) := by rw [mv_w_get]; simp
          refine mv_iload_n C rfl rfl ?_
          refine mv_bipush C rfl ?_
          refine mv_icmp_ge C rfl (fun c26 => ?_) (fun c26 => ?_)
          · exact absurd c26 (nI_ge (b := 6) (by omega) (by decide))
          · refine mv_aload_n C rfl rfl ?_
            refine mv_getR C rfl rfl rfl ?_
            refine mv_iload_n C rfl rfl ?_
            refine mv_aldJ C rfl rfl rfl (by omega) hv1 ?_
            refine mv_if_lt C rfl (fun c35 => ?_) (fun c35 => ?_)
            · have h2 := (hst_ge (by omega)).mp c35
              rw [if_pos h2, show hnb u j i = u 15 i by (unfold hnb; rw [if_pos h2])] at e
              rw [show upd (fun k => nI (if k < i then hnb u j k else u 15 k)) i (nI (u 15 i)) = (fun k => nI (if k < i then hnb u j k else u 15 k)) by (funext q; simp only [upd]; split; (rename_i hq; subst hq; simp); rfl)] at e
              refine mv_inc3 C rfl rfl ?_
              refine mv_goto C rfl ?_
              simp only [nI_1]
              exact e
            · have h2 : ¬ u 14 i = 0 := fun q => c35 ((hst_ge (by omega)).mpr q)
              rw [if_neg h2] at e
              refine mv_aload_n C rfl rfl ?_
              refine mv_getR C rfl rfl rfl ?_
              refine mv_iload_n C rfl rfl ?_
              refine mv_bipush C rfl ?_
              refine mv_aload_n C rfl rfl ?_
              refine mv_getR C rfl rfl rfl ?_
              refine mv_iload_n C rfl rfl ?_
              refine mv_aldJ C rfl rfl rfl (by omega) hb1 ?_
              refine mv_iload_n C rfl rfl ?_
              refine mv_iadd C rfl ?_
              refine mv_top (nI_add _ _) ?_
              refine mv_mmin C rfl rfl (Nat.le_of_ble_eq_true rfl) ?_
              refine mv_top (show _ = nI (hnb u j i) from ?_) ?_
              · (rw [min31b (by omega)]; unfold hnb; rw [if_neg h2])
              refine mv_ast C rfl rfl rfl (by omega) ?_
              refine mv_sto mv_uw ?_
              refine mv_iload_n C rfl rfl ?_
              refine mv_aload_n C rfl rfl ?_
              refine mv_getR C rfl rfl rfl ?_
              refine mv_iload_n C rfl rfl ?_
              refine mv_aldJ C rfl rfl rfl (by omega) (show _ = nI (hnb u j i) by (rw [mv_w_get]; simp [upd])) ?_
              refine mv_iadd C rfl ?_
              refine mv_top (nI_add _ _) ?_
              refine mv_is_n2 C rfl rfl ?_
              refine mv_inc3 C rfl rfl ?_
              refine mv_goto C rfl ?_
              simp only [nI_1]
              exact e
      refine mv_aload_n C rfl rfl ?_
      refine mv_iconst C rfl ?_
      refine mv_putI C rfl rfl rfl rfl ?_
      refine mv_iload_n C rfl rfl ?_
      refine mv_i2l C rfl ?_
      refine mv_lconst C rfl ?_
      refine mv_ldc2_w C rfl ?_
      refine mv_cS C rfl R0 (by decide) rfl (Nat.le_of_ble_eq_true rfl) (Nat.le_refl _) (Nat.le_refl _) rfl ?_
      refine mv_if_ne C rfl (fun c14 => ?_) (fun c14 => ?_)
      · refine mv_iconst C rfl ?_
        refine mv_is_n2 C rfl rfl ?_
        refine mv_iconst C rfl ?_
        refine mv_is_n3 C rfl rfl ?_
        refine mv_sto (z1 := mv_w (mv_u z 68 0 0) 85 (fun k => nI (if k < 0 then hnb u j k else u 15 k))) ?_ (loop 6 0 (by omega))
        rw [show (fun k => nI (if k < 0 then hnb u j k else u 15 k)) = (mv_u z 68 0 0).1 85 by (rw [hb]; funext k; simp), mv_w_self]
      · exact absurd c14 (by decide)
    · have := rM_w (u1 := htell u j) h0 85 15 (by decide) (fun k hk => by funext i; simp [htell, hk])
      simpa [htell] using this
  · rw [if_neg hc] at R0 ⊢
    rw [if_neg hc]
    refine ⟨_, mv_up (d := 2) (S1 := mv_E (mv_u z 68 0 0)) ?_ rfl, h0, fM_u fM_rf (by decide)⟩
    refine mv_start pX11_telling (some .int) [some (.ref 68), some (.int n), none, none] rfl rfl rfl rfl (fun V C => ?_)
    refine mv_aload_n C rfl rfl ?_
    refine mv_iconst C rfl ?_
    refine mv_putI C rfl rfl rfl rfl ?_
    refine mv_iload_n C rfl rfl ?_
    refine mv_i2l C rfl ?_
    refine mv_lconst C rfl ?_
    refine mv_ldc2_w C rfl ?_
    refine mv_cS C rfl R0 (by decide) rfl (Nat.le_of_ble_eq_true rfl) (Nat.le_refl _) (Nat.le_refl _) rfl ?_
    refine mv_if_ne C rfl (fun c14 => ?_) (fun c14 => ?_)
    · exact absurd rfl c14
    · refine mv_iconst C rfl ?_
      refine mv_ireturn C rfl mv_okI ?_ ?_
      all_goals rfl
end
end
section
section
def dig (A B k : Nat) : Nat := (if k < 3 then A else B) / 2 ^ (10 - 5 * (k % 3)) % 32
theorem dig_sum {A B : Nat} (hA : A < 32768) (hB : B < 32768) : dig A B 0 * 33554432 + dig A B 1 * 1048576 + dig A B 2 * 32768 + dig A B 3 * 1024 + dig A B 4 * 32 + dig A B 5 = 32768 * A + B := by
  simp only [dig]
  simp only [Nat.reduceLT, if_true, if_false, Nat.reduceMod, Nat.reduceMul, Nat.reduceSub, Nat.reducePow]
  omega
def h18 (u : hM) (n A B : Nat) : hM := fun k i => if k = 18 then (if 6 * n ≤ i ∧ i < 6 * n + 6 then dig A B (i - 6 * n) else u 18 i) else u k i
theorem h18_key {u : hM} {n A B k : Nat} (h : k ≠ 18) : h18 u n A B k = u k := by funext i; simp [h18, h]
theorem rX_look {u : hM} {z : mv_Z} (h : rX u z) (n A B : Nat) (hA : A < 32768) (hB : B < 32768) : rX (h18 u n A B) (mv_u z 26 n (nI (32768 * A + B))) := by
  obtain ⟨h1, h2, h3, h4, h5, h6, h7, h8⟩ := h
  unfold rX
  rw [h18_key (k := 7) (by decide), h18_key (k := 8) (by decide), h18_key (k := 14) (by decide), h18_key (k := 21) (by decide), h18_key (k := 22) (by decide), h18_key (k := 23) (by decide), h18_key (k := 24) (by decide), h18_key (k := 25) (by decide), h18_key (k := 26) (by decide), h18_key (k := 27) (by decide), h18_key (k := 28) (by decide), h18_key (k := 30) (by decide), h18_key (k := 31) (by decide), h18_key (k := 1) (by decide)]
  rw [mv_u_ne (q := 3) (by decide), mv_u_ne (q := 23) (by decide), mv_u_ne (q := 31) (by decide), mv_u_ne (q := 67) (by decide)]
  refine ⟨rT_keys (rT_out h1 26 n _ (by decide) (fun q hq hh => (show ∀ q ∈ sX, q.1 ≠ 26 by decide) q hq hh.1)) ?_ ?_, h2, h3, h4, fun p hp => ?_, fun a ha => ?_, h7, h8⟩
  · exact fun q hq => h18_key ((tX_keys q hq).2.2.2.1)
  · have : ∀ q ∈ sX, q.2.2 ≠ 18 := by decide
    exact fun q hq => by rw [h18_key (this q hq)]
  · by_cases e : p = n
    · subst e
      rw [mv_u_eq]
      have g : ∀ k, k < 6 → h18 u p A B 18 (6 * p + k) = dig A B k := by
        intro k hk
        simp only [h18, if_true]
        rw [if_pos (by omega)]
        congr 1; omega
      rw [show 6 * p = 6 * p + 0 by omega, g 0 (by omega), g 1 (by omega), g 2 (by omega), g 3 (by omega), g 4 (by omega), g 5 (by omega), dig_sum hA hB]
    · rw [mv_u_at e]
      have g : ∀ k, k < 6 → h18 u n A B 18 (6 * p + k) = u 18 (6 * p + k) := by
        intro k hk
        simp only [h18, if_true]
        rw [if_neg (by omega)]
      have := h5 p hp
      rw [show 6 * p = 6 * p + 0 by omega] at this ⊢
      rw [g 0 (by omega), g 1 (by omega), g 2 (by omega), g 3 (by omega), g 4 (by omega), g 5 (by omega)]
      exact this
  · rw [mv_u_ne (q := 34 + 4 * a) (by omega), mv_u_ne (q := 35 + 4 * a) (by omega), mv_u_ne (q := 36 + 4 * a) (by omega), mv_u_ne (q := 37 + 4 * a) (by omega)]
    exact h6 a ha
def a_person (u : hM) (p a b : Int32) : Int32 := if (0 ≤ p ∧ p < nI (u 0 0)) ∧ (0 ≤ a ∧ a ≤ 32767) ∧ (0 ≤ b ∧ b ≤ 32767) ∧ u 16 0 < 30 then nI (u 16 0) else -1
def o_person (u : hM) (p a b : Int32) : hM := if (0 ≤ p ∧ p < nI (u 0 0)) ∧ (0 ≤ a ∧ a ≤ 32767) ∧ (0 ≤ b ∧ b ≤ 32767) ∧ u 16 0 < 30 then hu (h18 (hu u 17 (u 16 0) p.toNatClampNeg) (u 16 0) a.toNatClampNeg b.toNatClampNeg) 16 0 (u 16 0 + 1) else u
theorem le32767 {a : Int32} (h : 0 ≤ a) (h1 : a ≤ 32767) : a.toNatClampNeg < 32768 := cl_le h (show a < nI 32768 by rw [i32_lt, nI_toInt (by decide)]; rw [i32_le, i32_32767] at h1; omega) (by decide)
theorem r_crowdAdd (z : mv_Z) (p a b : Int32) (n : Nat) (hn : z.1 21 3 = nI n) (h30 : n ≤ 30) : mv_Runs 2 36 [.ref 21, .int p, .int a, .int b] (mv_E z) (some (.int (if (0 ≤ a ∧ a ≤ 32767) ∧ (0 ≤ b ∧ b ≤ 32767) ∧ n < 30 then nI n else -1))) (mv_E (if (0 ≤ a ∧ a ≤ 32767) ∧ (0 ≤ b ∧ b ≤ 32767) ∧ n < 30 then mv_u (mv_u (mv_u z 25 n p) 26 n (nI (32768 * a.toNatClampNeg + b.toNatClampNeg))) 21 3 (nI (n + 1)) else z)) := by
  refine mv_start pX3_add (some .int) [some (.ref 21), some (.int p), some (.int a), some (.int b), none] rfl rfl rfl rfl (fun V C => ?_)
  have fin : ∀ x : Int32, x = (if (0 ≤ a ∧ a ≤ 32767) ∧ (0 ≤ b ∧ b ≤ 32767) then 1 else 0) → V 27 [some (.ref 21), some (.int p), some (.int a), some (.int b), none] [.int x] (mv_E z) := by
    intro x hx
    subst hx
    refine mv_is4 C rfl rfl ?_
    refine mv_iload C rfl rfl ?_
    refine mv_if_eq C rfl (fun c31 => ?_) (fun c31 => ?_)
    · try simp only [b01, b10, Classical.not_not] at c31
      try simp (disch := omega) only [lit_0, lit_1, lit_2, lit_3, lit_4, lit_5, lit_6, lit_7, lit_8, lit_9, lit_10, lit_11, lit_12, lit_23, lit_24, lit_30, lit_31, lit_32, lit_39, lit_40, lit_41, lit_46, lit_47, lit_48, lit_96, lit_99, lit_100, lit_255, lit_999, lit_1000, lit_2024, lit_32767, lit_1000000, nI_ltI, nI_leI, nI_eq, Nat.not_lt, Nat.not_le] at c31
      try simp only [unl_0, unl_1, unl_2, unl_3, unl_4, unl_5, unl_6, unl_7, unl_8, unl_9, unl_10, unl_11, unl_12, unl_23, unl_24, unl_30, unl_31, unl_32, unl_39, unl_40, unl_41, unl_46, unl_47, unl_48, unl_96, unl_99, unl_100, unl_255, unl_999, unl_1000, unl_2024, unl_32767, unl_1000000] at c31
      refine mv_iconst C rfl ?_
      refine mv_ireturn C rfl mv_okI ?_ ?_
      all_goals (clear C; grind)
    · try simp only [b01, b10, Classical.not_not] at c31
      try simp (disch := omega) only [lit_0, lit_1, lit_2, lit_3, lit_4, lit_5, lit_6, lit_7, lit_8, lit_9, lit_10, lit_11, lit_12, lit_23, lit_24, lit_30, lit_31, lit_32, lit_39, lit_40, lit_41, lit_46, lit_47, lit_48, lit_96, lit_99, lit_100, lit_255, lit_999, lit_1000, lit_2024, lit_32767, lit_1000000, nI_ltI, nI_leI, nI_eq, Nat.not_lt, Nat.not_le] at c31
      try simp only [unl_0, unl_1, unl_2, unl_3, unl_4, unl_5, unl_6, unl_7, unl_8, unl_9, unl_10, unl_11, unl_12, unl_23, unl_24, unl_30, unl_31, unl_32, unl_39, unl_40, unl_41, unl_46, unl_47, unl_48, unl_96, unl_99, unl_100, unl_255, unl_999, unl_1000, unl_2024, unl_32767, unl_1000000] at c31
      refine mv_aload_n C rfl rfl ?_
      refine mv_getJ C rfl rfl rfl hn ?_
      refine mv_bipush C rfl ?_
      refine mv_icmp_lt C rfl (fun c40 => ?_) (fun c40 => ?_)
      · try simp only [b01, b10, Classical.not_not] at c40
        try simp (disch := omega) only [lit_0, lit_1, lit_2, lit_3, lit_4, lit_5, lit_6, lit_7, lit_8, lit_9, lit_10, lit_11, lit_12, lit_23, lit_24, lit_30, lit_31, lit_32, lit_39, lit_40, lit_41, lit_46, lit_47, lit_48, lit_96, lit_99, lit_100, lit_255, lit_999, lit_1000, lit_2024, lit_32767, lit_1000000, nI_ltI, nI_leI, nI_eq, Nat.not_lt, Nat.not_le] at c40
        try simp only [unl_0, unl_1, unl_2, unl_3, unl_4, unl_5, unl_6, unl_7, unl_8, unl_9, unl_10, unl_11, unl_12, unl_23, unl_24, unl_30, unl_31, unl_32, unl_39, unl_40, unl_41, unl_46, unl_47, unl_48, unl_96, unl_99, unl_100, unl_255, unl_999, unl_1000, unl_2024, unl_32767, unl_1000000] at c40
        refine mv_aload_n C rfl rfl ?_
        refine mv_getR C rfl rfl rfl ?_
        refine mv_aload_n C rfl rfl ?_
        refine mv_getJ C rfl rfl rfl hn ?_
        refine mv_iload_n C rfl rfl ?_
        refine mv_ast C rfl rfl rfl (by omega) ?_
        refine mv_aload_n C rfl rfl ?_
        refine mv_getR C rfl rfl rfl ?_
        refine mv_aload_n C rfl rfl ?_
        refine mv_getJ C rfl rfl rfl hn ?_
        refine mv_iload_n C rfl rfl ?_
        refine mv_bipush C rfl ?_
        refine mv_ishl C rfl ?_
        refine mv_iload_n C rfl rfl ?_
        refine mv_ior C rfl ?_
        refine mv_top (show _ = nI (32768 * a.toNatClampNeg + b.toNatClampNeg) from ?_) ?_
        · (have ea := nI_nn c31.1.1; have eb := nI_nn c31.2.1; have la := le32767 c31.1.1 c31.1.2; have lb := le32767 c31.2.1 c31.2.2; generalize a.toNatClampNeg = A at *; generalize b.toNatClampNeg = B at *; subst ea; subst eb; rw [nI_shl15 la]; exact fa_or_sum (k := 15) A lb)
        refine mv_ast C rfl rfl rfl (by omega) ?_
        refine mv_aload_n C rfl rfl ?_
        refine mv_dup C rfl rfl ?_
        refine mv_getJ C rfl rfl rfl hn ?_
        refine mv_iconst C rfl ?_
        refine mv_iadd C rfl ?_
        refine mv_top (nI_1 _) ?_
        refine mv_putI C rfl rfl rfl rfl ?_
        refine mv_aload_n C rfl rfl ?_
        refine mv_getJ C rfl rfl rfl (show _ = nI (n + 1) from rfl) ?_
        refine mv_iconst C rfl ?_
        refine mv_isub C rfl ?_
        refine mv_top (nI_pred _) ?_
        refine mv_ireturn C rfl mv_okI ?_ ?_
        all_goals (clear C; grind)
      · try simp only [b01, b10, Classical.not_not] at c40
        try simp (disch := omega) only [lit_0, lit_1, lit_2, lit_3, lit_4, lit_5, lit_6, lit_7, lit_8, lit_9, lit_10, lit_11, lit_12, lit_23, lit_24, lit_30, lit_31, lit_32, lit_39, lit_40, lit_41, lit_46, lit_47, lit_48, lit_96, lit_99, lit_100, lit_255, lit_999, lit_1000, lit_2024, lit_32767, lit_1000000, nI_ltI, nI_leI, nI_eq, Nat.not_lt, Nat.not_le] at c40
        try simp only [unl_0, unl_1, unl_2, unl_3, unl_4, unl_5, unl_6, unl_7, unl_8, unl_9, unl_10, unl_11, unl_12, unl_23, unl_24, unl_30, unl_31, unl_32, unl_39, unl_40, unl_41, unl_46, unl_47, unl_48, unl_96, unl_99, unl_100, unl_255, unl_999, unl_1000, unl_2024, unl_32767, unl_1000000] at c40
        refine mv_iconst C rfl ?_
        refine mv_ireturn C rfl mv_okI ?_ ?_
        all_goals (clear C; grind)
  refine mv_iload_n C rfl rfl ?_
  refine mv_if_lt C rfl (fun c1 => ?_) (fun c1 => ?_)
  · refine mv_iconst C rfl ?_
    refine fin _ ?_
    clear fin
    first | rfl | (rw [if_pos (by clear C; simp only [i32_lt, i32_le, i32_eq, nI_toInt, i32_0, i32_1, i32_2, i32_3, i32_4, i32_5, i32_6, i32_7, i32_8, i32_10, i32_12, i32_23, i32_24, i32_30, i32_31, i32_32, i32_39, i32_40, i32_41, i32_46, i32_47, i32_48, i32_96, i32_99, i32_100, i32_255, i32_999, i32_2024, i32_32767, i32_1000000, i32_m1, i32_m2, i32_m3] at *; omega)]) | (rw [if_neg (by clear C; simp only [i32_lt, i32_le, i32_eq, nI_toInt, i32_0, i32_1, i32_2, i32_3, i32_4, i32_5, i32_6, i32_7, i32_8, i32_10, i32_12, i32_23, i32_24, i32_30, i32_31, i32_32, i32_39, i32_40, i32_41, i32_46, i32_47, i32_48, i32_96, i32_99, i32_100, i32_255, i32_999, i32_2024, i32_32767, i32_1000000, i32_m1, i32_m2, i32_m3] at *; omega)])
  · refine mv_iload_n C rfl rfl ?_
    refine mv_sipush C rfl ?_
    refine mv_icmp_gt C rfl (fun c8 => ?_) (fun c8 => ?_)
    · refine mv_iconst C rfl ?_
      refine fin _ ?_
      clear fin
      first | rfl | (rw [if_pos (by clear C; simp only [i32_lt, i32_le, i32_eq, nI_toInt, i32_0, i32_1, i32_2, i32_3, i32_4, i32_5, i32_6, i32_7, i32_8, i32_10, i32_12, i32_23, i32_24, i32_30, i32_31, i32_32, i32_39, i32_40, i32_41, i32_46, i32_47, i32_48, i32_96, i32_99, i32_100, i32_255, i32_999, i32_2024, i32_32767, i32_1000000, i32_m1, i32_m2, i32_m3] at *; omega)]) | (rw [if_neg (by clear C; simp only [i32_lt, i32_le, i32_eq, nI_toInt, i32_0, i32_1, i32_2, i32_3, i32_4, i32_5, i32_6, i32_7, i32_8, i32_10, i32_12, i32_23, i32_24, i32_30, i32_31, i32_32, i32_39, i32_40, i32_41, i32_46, i32_47, i32_48, i32_96, i32_99, i32_100, i32_255, i32_999, i32_2024, i32_32767, i32_1000000, i32_m1, i32_m2, i32_m3] at *; omega)])
    · refine mv_iload_n C rfl rfl ?_
      refine mv_if_lt C rfl (fun c12 => ?_) (fun c12 => ?_)
      · refine mv_iconst C rfl ?_
        refine fin _ ?_
        clear fin
        first | rfl | (rw [if_pos (by clear C; simp only [i32_lt, i32_le, i32_eq, nI_toInt, i32_0, i32_1, i32_2, i32_3, i32_4, i32_5, i32_6, i32_7, i32_8, i32_10, i32_12, i32_23, i32_24, i32_30, i32_31, i32_32, i32_39, i32_40, i32_41, i32_46, i32_47, i32_48, i32_96, i32_99, i32_100, i32_255, i32_999, i32_2024, i32_32767, i32_1000000, i32_m1, i32_m2, i32_m3] at *; omega)]) | (rw [if_neg (by clear C; simp only [i32_lt, i32_le, i32_eq, nI_toInt, i32_0, i32_1, i32_2, i32_3, i32_4, i32_5, i32_6, i32_7, i32_8, i32_10, i32_12, i32_23, i32_24, i32_30, i32_31, i32_32, i32_39, i32_40, i32_41, i32_46, i32_47, i32_48, i32_96, i32_99, i32_100, i32_255, i32_999, i32_2024, i32_32767, i32_1000000, i32_m1, i32_m2, i32_m3] at *; omega)])
      · refine mv_iload_n C rfl rfl ?_
        refine mv_sipush C rfl ?_
        refine mv_icmp_gt C rfl (fun c19 => ?_) (fun c19 => ?_)
        · refine mv_iconst C rfl ?_
          refine fin _ ?_
          clear fin
          first | rfl | (rw [if_pos (by clear C; simp only [i32_lt, i32_le, i32_eq, nI_toInt, i32_0, i32_1, i32_2, i32_3, i32_4, i32_5, i32_6, i32_7, i32_8, i32_10, i32_12, i32_23, i32_24, i32_30, i32_31, i32_32, i32_39, i32_40, i32_41, i32_46, i32_47, i32_48, i32_96, i32_99, i32_100, i32_255, i32_999, i32_2024, i32_32767, i32_1000000, i32_m1, i32_m2, i32_m3] at *; omega)]) | (rw [if_neg (by clear C; simp only [i32_lt, i32_le, i32_eq, nI_toInt, i32_0, i32_1, i32_2, i32_3, i32_4, i32_5, i32_6, i32_7, i32_8, i32_10, i32_12, i32_23, i32_24, i32_30, i32_31, i32_32, i32_39, i32_40, i32_41, i32_46, i32_47, i32_48, i32_96, i32_99, i32_100, i32_255, i32_999, i32_2024, i32_32767, i32_1000000, i32_m1, i32_m2, i32_m3] at *; omega)])
        · refine mv_iconst C rfl ?_
          refine mv_goto C rfl ?_
          refine fin _ ?_
          clear fin
          first | rfl | (rw [if_pos (by clear C; simp only [i32_lt, i32_le, i32_eq, nI_toInt, i32_0, i32_1, i32_2, i32_3, i32_4, i32_5, i32_6, i32_7, i32_8, i32_10, i32_12, i32_23, i32_24, i32_30, i32_31, i32_32, i32_39, i32_40, i32_41, i32_46, i32_47, i32_48, i32_96, i32_99, i32_100, i32_255, i32_999, i32_2024, i32_32767, i32_1000000, i32_m1, i32_m2, i32_m3] at *; omega)]) | (rw [if_neg (by clear C; simp only [i32_lt, i32_le, i32_eq, nI_toInt, i32_0, i32_1, i32_2, i32_3, i32_4, i32_5, i32_6, i32_7, i32_8, i32_10, i32_12, i32_23, i32_24, i32_30, i32_31, i32_32, i32_39, i32_40, i32_41, i32_46, i32_47, i32_48, i32_96, i32_99, i32_100, i32_255, i32_999, i32_2024, i32_32767, i32_1000000, i32_m1, i32_m2, i32_m3] at *; omega)])
theorem x_person (u : hM) (z : mv_Z) (p a b : Int32) (hi : hI u) (hz : rX u z) : xR 92 [.int p, .int a, .int b] u z (.int (a_person u p a b)) (o_person u p a b) := by
  have hn := rX_s hz 3 6 0 (by decide)
  have hf := rX_s hz 21 3 16 (by decide)
  have h30 : u 16 0 ≤ 30 := hi.2.2.2.2.2.2.2.2.2.2.2.1
  have R0 := r_hasParish z p
  rw [hn] at R0
  have R1 := r_crowdAdd z p a b _ hf h30
  unfold a_person o_person
  by_cases hc : 0 ≤ p ∧ p < nI (u 0 0)
  · rw [if_pos hc] at R0
    refine ⟨_, mv_up (d := 3) (S1 := mv_E (if (0 ≤ a ∧ a ≤ 32767) ∧ (0 ≤ b ∧ b ≤ 32767) ∧ u 16 0 < 30 then mv_u (mv_u (mv_u z 25 (u 16 0) p) 26 (u 16 0) (nI (32768 * a.toNatClampNeg + b.toNatClampNeg))) 21 3 (nI (u 16 0 + 1)) else z)) ?_ rfl, ?_, ?_⟩
    · have e1 : (if (0 ≤ p ∧ p < nI (u 0 0)) ∧ (0 ≤ a ∧ a ≤ 32767) ∧ (0 ≤ b ∧ b ≤ 32767) ∧ u 16 0 < 30 then nI (u 16 0) else -1) = (if (0 ≤ a ∧ a ≤ 32767) ∧ (0 ≤ b ∧ b ≤ 32767) ∧ u 16 0 < 30 then nI (u 16 0) else -1) := by simp only [hc, and_self, true_and]
      rw [e1]
      refine mv_start pX10_person (some .int) [some (.ref 0), some (.int p), some (.int a), some (.int b)] rfl rfl rfl rfl (fun V C => ?_)
      refine mv_aload_n C rfl rfl ?_
      refine mv_getR C rfl rfl rfl ?_
      refine mv_iload_n C rfl rfl ?_
      refine mv_cV C rfl (mv_up R0 rfl) (by decide) rfl rfl rfl (Nat.le_of_ble_eq_true rfl) (Nat.le_refl _) (Nat.le_refl _) rfl ?_
      refine mv_if_eq C rfl (fun c8 => ?_) (fun c8 => ?_)
      · exact absurd c8 (by decide)
      · refine mv_aload_n C rfl rfl ?_
        refine mv_getR C rfl rfl rfl ?_
        refine mv_iload_n C rfl rfl ?_
        refine mv_iload_n C rfl rfl ?_
        refine mv_iload_n C rfl rfl ?_
        refine mv_cV C rfl R1 (by decide) rfl rfl rfl (Nat.le_of_ble_eq_true rfl) (Nat.le_refl _) (Nat.le_refl _) rfl ?_
        refine mv_goto C rfl ?_
        refine mv_ireturn C rfl mv_okI ?_ ?_
        all_goals rfl
    · by_cases h2 : (0 ≤ a ∧ a ≤ 32767) ∧ (0 ≤ b ∧ b ≤ 32767) ∧ u 16 0 < 30
      · rw [if_pos h2, if_pos (show (0 ≤ p ∧ p < nI (u 0 0)) ∧ (0 ≤ a ∧ a ≤ 32767) ∧ (0 ≤ b ∧ b ≤ 32767) ∧ u 16 0 < 30 from ⟨hc, h2⟩)]
        have ep := nI_nn hc.1
        have la := le32767 h2.1.1 h2.1.2
        have lb := le32767 h2.2.1.1 h2.2.1.2
        generalize p.toNatClampNeg = kp at *
        subst ep
        exact rX_sc (rX_look (rX_arr hz 25 17 _ _ (by decide) (by decide)) _ _ _ la lb) 21 3 16 _ (by decide)
      · rw [if_neg h2, if_neg (show ¬ ((0 ≤ p ∧ p < nI (u 0 0)) ∧ (0 ≤ a ∧ a ≤ 32767) ∧ (0 ≤ b ∧ b ≤ 32767) ∧ u 16 0 < 30) from fun q => h2 q.2)]; exact hz
    · split
      · exact fX_u (fX_u (fX_u fX_rf (by decide)) (by decide)) (by decide)
      · exact fX_rf
  · rw [if_neg hc] at R0
    rw [if_neg (fun q => hc q.1), if_neg (fun q => hc q.1)]
    refine ⟨_, mv_up (d := 3) (S1 := mv_E z) ?_ rfl, hz, fX_rf⟩
    refine mv_start pX10_person (some .int) [some (.ref 0), some (.int p), some (.int a), some (.int b)] rfl rfl rfl rfl (fun V C => ?_)
    refine mv_aload_n C rfl rfl ?_
    refine mv_getR C rfl rfl rfl ?_
    refine mv_iload_n C rfl rfl ?_
    refine mv_cV C rfl (mv_up R0 rfl) (by decide) rfl rfl rfl (Nat.le_of_ble_eq_true rfl) (Nat.le_refl _) (Nat.le_refl _) rfl ?_
    refine mv_if_eq C rfl (fun c8 => ?_) (fun c8 => ?_)
    · refine mv_iconst C rfl ?_
      refine mv_ireturn C rfl mv_okI ?_ ?_
      all_goals rfl
    · exact absurd rfl c8
end
end
section
section
def f18 (u : hM) (n A B i : Nat) : Nat → Int32 := fun q => nI (if 6 * n ≤ q ∧ q < 6 * n + i then dig A B (q - 6 * n) else u 18 q)
theorem f18_step (u : hM) (n A B i : Nat) : upd (f18 u n A B i) (6 * n + i) (nI (dig A B i)) = f18 u n A B (i + 1) := by
  funext q
  by_cases e : q = 6 * n + i
  · subst e
    simp only [upd, if_true, f18]
    rw [if_pos (by omega), show 6 * n + i - 6 * n = i by omega]
  · simp only [upd, e, if_false, f18]
    by_cases h : 6 * n ≤ q ∧ q < 6 * n + i
    · rw [if_pos h, if_pos (by omega)]
    · rw [if_neg h, if_neg (by omega)]
theorem dig_val {A B k : Nat} (hA : A < 32768) (hB : B < 32768) (hk : k < 6) : (nI (if k < 3 then A else B) >>> ((10 - 5 * (nI k - nI k / 3 * 3) : Int32) &&& 31)) &&& 31 = nI (dig A B k) := by
  have e1 : nI k - nI k / 3 * 3 = nI (k % 3) := pk_rem (a := k) (d := 3) (by omega) (by decide) (by decide)
  have e2 : (5 : Int32) * nI (k % 3) = nI (5 * (k % 3)) := pk_mul 5 (k % 3)
  have e3 : (10 : Int32) - nI (5 * (k % 3)) = nI (10 - 5 * (k % 3)) := pk_sub (a := 10) (b := 5 * (k % 3)) (by omega)
  have hl : (if k < 3 then A else B) < 32768 := by split <;> assumption
  rw [e1, e2, e3, nI_shr (by omega) (by omega), nI_and31 (by have := Nat.div_le_self (if k < 3 then A else B) (2 ^ (10 - 5 * (k % 3))); omega)]
  rfl
theorem m_person (u : hM) (z : mv_Z) (p a b : Int32) (hi : hI u) (hz : rM u z) : mR 150 [.int p, .int a, .int b] u z (.int (a_person u p a b)) (o_person u p a b) := by
  have h0 := rM_free hz 68 0 0 (Or.inr ⟨rfl, by decide⟩)
  have hn := rM_s h0 1 0 (by decide)
  have hf := rM_s h0 23 16 (by decide)
  have h24 := hi.1
  have h30 : u 16 0 ≤ 30 := hi.2.2.2.2.2.2.2.2.2.2.2.1
  have R0 := r_mIsParish (mv_u z 68 0 0) p _ hn h24
  have Ra := r_inI (mv_u z 68 0 0) a 0 32767 (0 ≤ a ∧ a ≤ 32767) (by rw [i32_le, i32_le, i32_0, i32_32767, l64_0, l64_32767])
  have Rb := r_inI (mv_u z 68 0 0) b 0 32767 (0 ≤ b ∧ b ≤ 32767) (by rw [i32_le, i32_le, i32_0, i32_32767, l64_0, l64_32767])
  unfold a_person o_person
  by_cases hc : (0 ≤ p ∧ p < nI (u 0 0)) ∧ (0 ≤ a ∧ a ≤ 32767) ∧ (0 ≤ b ∧ b ≤ 32767) ∧ u 16 0 < 30
  · rw [if_pos hc, if_pos hc]
    obtain ⟨hp, ha, hb, h3⟩ := hc
    rw [if_pos hp] at R0
    rw [if_pos ha] at Ra
    rw [if_pos hb] at Rb
    have ep := nI_nn hp.1
    have ea := nI_nn ha.1
    have eb := nI_nn hb.1
    have la := le32767 ha.1 ha.2
    have lb := le32767 hb.1 hb.2
    generalize p.toNatClampNeg = P at *
    generalize a.toNatClampNeg = A at *
    generalize b.toNatClampNeg = B at *
    subst ep; subst ea; subst eb
    have hw := rM_arr h0 86 17 (u 16 0) P (by decide)
    refine ⟨_, mv_up (d := 3) (S1 := mv_E (mv_u (mv_w (mv_u (mv_u z 68 0 0) 86 (u 16 0) (nI P)) 87 (f18 u (u 16 0) A B 6)) 68 23 (nI (u 16 0 + 1)))) ?_ rfl, ?_, fM_u (fM_w (fM_u (fM_u fM_rf (by decide)) (by decide)) (by decide)) (by decide)⟩
    · refine mv_start pX11_person (some .int) [some (.ref 68), some (.int (nI P)), some (.int (nI A)), some (.int (nI B)), none] rfl rfl rfl rfl (fun V C => ?_)
      have hw18 : (mv_u (mv_u z 68 0 0) 86 (u 16 0) (nI P)).1 87 = f18 u (u 16 0) A B 0 := by
        funext q
        have := rM_a h0 87 18 (by decide) q
        simp only [f18]
        rw [if_neg (by omega), ← this]; rfl
      have loop : ∀ (k i : Nat), i + k = 6 → V 61 [some (.ref 68), some (.int (nI P)), some (.int (nI A)), some (.int (nI B)), some (.int (nI i))] [] (mv_E (mv_w (mv_u (mv_u z 68 0 0) 86 (u 16 0) (nI P)) 87 (f18 u (u 16 0) A B i))) := by
        intro k
        induction k with
        | zero =>
          intro i hi
          obtain rfl : i = 6 := by omega
          refine mv_iload C rfl rfl ?_
          refine mv_bipush C rfl ?_
          refine mv_icmp_ge C rfl (fun c65 => ?_) (fun c65 => ?_)
          · refine mv_aload_n C rfl rfl ?_
            refine mv_dup C rfl rfl ?_
            refine mv_getJ C rfl rfl rfl hf ?_
            refine mv_iconst C rfl ?_
            refine mv_iadd C rfl ?_
            refine mv_top (nI_1 _) ?_
            refine mv_putI C rfl rfl rfl rfl ?_
            refine mv_aload_n C rfl rfl ?_
            refine mv_getJ C rfl rfl rfl (show _ = nI (u 16 0 + 1) from rfl) ?_
            refine mv_iconst C rfl ?_
            refine mv_isub C rfl ?_
            refine mv_top (nI_pred _) ?_
            refine mv_ireturn C rfl mv_okI ?_ ?_
            all_goals rfl
          · exact absurd (by decide) c65
        | succ k ih =>
          intro i hi
          have e := ih (i + 1) (by omega)
          rw [← f18_step, ← mv_uw] at e
          have st : ∀ x : Int32, x = nI (if i < 3 then A else B) → V 93 [some (.ref 68), some (.int (nI P)), some (.int (nI A)), some (.int (nI B)), some (.int (nI i))] [.int x, .int (nI (6 * u 16 0 + i)), .ref 87] (mv_E (mv_w (mv_u (mv_u z 68 0 0) 86 (u 16 0) (nI P)) 87 (f18 u (u 16 0) A B i))) := by
            intro x hx
            subst hx
            refine mv_bipush C rfl ?_
            refine mv_iconst C rfl ?_
            refine mv_iload C rfl rfl ?_
            refine mv_iconst C rfl ?_
            refine mv_irem C rfl (by decide) ?_
            refine mv_imul C rfl ?_
            refine mv_isub C rfl ?_
            refine mv_ishr C rfl ?_
            refine mv_bipush C rfl ?_
            refine mv_iand C rfl ?_
            refine mv_top (dig_val la lb (by omega)) ?_
            refine mv_ast C rfl rfl rfl (by omega) ?_
            refine mv_inc4 C rfl rfl ?_
            refine mv_goto C rfl ?_
            simp only [nI_1]
            exact e
          refine mv_iload C rfl rfl ?_
          refine mv_bipush C rfl ?_
          refine mv_icmp_ge C rfl (fun c65 => ?_) (fun c65 => ?_)
          · exact absurd c65 (nI_ge (b := 6) (by omega) (by decide))
          · refine mv_aload_n C rfl rfl ?_
            refine mv_getR C rfl rfl rfl ?_
            refine mv_bipush C rfl ?_
            refine mv_aload_n C rfl rfl ?_
            refine mv_getJ C rfl rfl rfl hf ?_
            refine mv_imul C rfl ?_
            refine mv_top (pk_mul 6 _) ?_
            refine mv_iload C rfl rfl ?_
            refine mv_iadd C rfl ?_
            refine mv_top (nI_add _ _) ?_
            refine mv_iload C rfl rfl ?_
            refine mv_iconst C rfl ?_
            refine mv_icmp_ge C rfl (fun c85 => ?_) (fun c85 => ?_)
            · have hi3 : ¬ i < 3 := fun q => absurd c85 (nI_ge (b := 3) (by omega) (by decide))
              refine mv_iload_n C rfl rfl ?_
              refine st _ ?_
              simp only [hi3, if_true, if_false]
            · have hi3 : i < 3 := by (rcases Nat.lt_or_ge i 3 with q | q; exact q; exact absurd (nI_le q (by omega)) c85)
              refine mv_iload_n C rfl rfl ?_
              refine mv_goto C rfl ?_
              refine st _ ?_
              simp only [hi3, if_true, if_false]
      refine mv_aload_n C rfl rfl ?_
      refine mv_iconst C rfl ?_
      refine mv_putI C rfl rfl rfl rfl ?_
      refine mv_aload_n C rfl rfl ?_
      refine mv_iload_n C rfl rfl ?_
      refine mv_cV C rfl (mv_up R0 rfl) (by decide) rfl rfl rfl (Nat.le_of_ble_eq_true rfl) (Nat.le_refl _) (Nat.le_refl _) rfl ?_
      refine mv_if_eq C rfl (fun c10 => ?_) (fun c10 => ?_)
      · exact absurd c10 (by decide)
      · refine mv_iload_n C rfl rfl ?_
        refine mv_i2l C rfl ?_
        refine mv_lconst C rfl ?_
        refine mv_ldc2_w C rfl ?_
        refine mv_cS C rfl (mv_up Ra rfl) (by decide) rfl (Nat.le_of_ble_eq_true rfl) (Nat.le_refl _) (Nat.le_refl _) rfl ?_
        refine mv_if_eq C rfl (fun c22 => ?_) (fun c22 => ?_)
        · exact absurd c22 (by decide)
        · refine mv_iload_n C rfl rfl ?_
          refine mv_i2l C rfl ?_
          refine mv_lconst C rfl ?_
          refine mv_ldc2_w C rfl ?_
          refine mv_cS C rfl (mv_up Rb rfl) (by decide) rfl (Nat.le_of_ble_eq_true rfl) (Nat.le_refl _) (Nat.le_refl _) rfl ?_
          refine mv_if_eq C rfl (fun c34 => ?_) (fun c34 => ?_)
          · exact absurd c34 (by decide)
          · refine mv_aload_n C rfl rfl ?_
            refine mv_getJ C rfl rfl rfl hf ?_
            refine mv_bipush C rfl ?_
            refine mv_icmp_ne C rfl (fun c43 => ?_) (fun c43 => ?_)
            · refine mv_aload_n C rfl rfl ?_
              refine mv_getR C rfl rfl rfl ?_
              refine mv_aload_n C rfl rfl ?_
              refine mv_getJ C rfl rfl rfl hf ?_
              refine mv_iload_n C rfl rfl ?_
              refine mv_ast C rfl rfl rfl (by omega) ?_
              refine mv_iconst C rfl ?_
              refine mv_is4 C rfl rfl ?_
              refine mv_sto (z1 := mv_w (mv_u (mv_u z 68 0 0) 86 (u 16 0) (nI P)) 87 (f18 u (u 16 0) A B 0)) ?_ (loop 6 0 (by omega))
              rw [← hw18, mv_w_self]
            · exact absurd ((nI_eq (b := 30) (by omega) (by decide)).mp c43) (by omega)
    · have := rM_w (u1 := h18 (hu u 17 (u 16 0) P) (u 16 0) A B) hw 87 18 (by decide) (fun k hk => h18_key hk)
      have e : (fun i => nI (h18 (hu u 17 (u 16 0) P) (u 16 0) A B 18 i)) = f18 u (u 16 0) A B 6 := by
        funext q; simp only [h18, f18, if_true]; rw [hu_key (by decide)]
      rw [e] at this
      exact rM_sc this 23 16 _ (by decide)
  · rw [if_neg hc, if_neg hc]
    refine ⟨_, mv_up (d := 3) (S1 := mv_E (mv_u z 68 0 0)) ?_ rfl, h0, fM_u fM_rf (by decide)⟩
    refine mv_start pX11_person (some .int) [some (.ref 68), some (.int p), some (.int a), some (.int b), none] rfl rfl rfl rfl (fun V C => ?_)
    refine mv_aload_n C rfl rfl ?_
    refine mv_iconst C rfl ?_
    refine mv_putI C rfl rfl rfl rfl ?_
    refine mv_aload_n C rfl rfl ?_
    refine mv_iload_n C rfl rfl ?_
    refine mv_cV C rfl (mv_up R0 rfl) (by decide) rfl rfl rfl (Nat.le_of_ble_eq_true rfl) (Nat.le_refl _) (Nat.le_refl _) rfl ?_
    refine mv_if_eq C rfl (fun c10 => ?_) (fun c10 => ?_)
    · try simp only [b01, b10, Classical.not_not] at c10
      try simp (disch := omega) only [lit_0, lit_1, lit_2, lit_3, lit_4, lit_5, lit_6, lit_7, lit_8, lit_9, lit_10, lit_11, lit_12, lit_23, lit_24, lit_30, lit_31, lit_32, lit_39, lit_40, lit_41, lit_46, lit_47, lit_48, lit_96, lit_99, lit_100, lit_255, lit_999, lit_1000, lit_2024, lit_32767, lit_1000000, nI_ltI, nI_leI, nI_eq, Nat.not_lt, Nat.not_le] at c10
      try simp only [unl_0, unl_1, unl_2, unl_3, unl_4, unl_5, unl_6, unl_7, unl_8, unl_9, unl_10, unl_11, unl_12, unl_23, unl_24, unl_30, unl_31, unl_32, unl_39, unl_40, unl_41, unl_46, unl_47, unl_48, unl_96, unl_99, unl_100, unl_255, unl_999, unl_1000, unl_2024, unl_32767, unl_1000000] at c10
      refine mv_iconst C rfl ?_
      refine mv_ireturn C rfl mv_okI ?_ ?_
      all_goals rfl
    · try simp only [b01, b10, Classical.not_not] at c10
      try simp (disch := omega) only [lit_0, lit_1, lit_2, lit_3, lit_4, lit_5, lit_6, lit_7, lit_8, lit_9, lit_10, lit_11, lit_12, lit_23, lit_24, lit_30, lit_31, lit_32, lit_39, lit_40, lit_41, lit_46, lit_47, lit_48, lit_96, lit_99, lit_100, lit_255, lit_999, lit_1000, lit_2024, lit_32767, lit_1000000, nI_ltI, nI_leI, nI_eq, Nat.not_lt, Nat.not_le] at c10
      try simp only [unl_0, unl_1, unl_2, unl_3, unl_4, unl_5, unl_6, unl_7, unl_8, unl_9, unl_10, unl_11, unl_12, unl_23, unl_24, unl_30, unl_31, unl_32, unl_39, unl_40, unl_41, unl_46, unl_47, unl_48, unl_96, unl_99, unl_100, unl_255, unl_999, unl_1000, unl_2024, unl_32767, unl_1000000] at c10
      refine mv_iload_n C rfl rfl ?_
      refine mv_i2l C rfl ?_
      refine mv_lconst C rfl ?_
      refine mv_ldc2_w C rfl ?_
      refine mv_cS C rfl (mv_up Ra rfl) (by decide) rfl (Nat.le_of_ble_eq_true rfl) (Nat.le_refl _) (Nat.le_refl _) rfl ?_
      refine mv_if_eq C rfl (fun c22 => ?_) (fun c22 => ?_)
      · try simp only [b01, b10, Classical.not_not] at c22
        try simp (disch := omega) only [lit_0, lit_1, lit_2, lit_3, lit_4, lit_5, lit_6, lit_7, lit_8, lit_9, lit_10, lit_11, lit_12, lit_23, lit_24, lit_30, lit_31, lit_32, lit_39, lit_40, lit_41, lit_46, lit_47, lit_48, lit_96, lit_99, lit_100, lit_255, lit_999, lit_1000, lit_2024, lit_32767, lit_1000000, nI_ltI, nI_leI, nI_eq, Nat.not_lt, Nat.not_le] at c22
        try simp only [unl_0, unl_1, unl_2, unl_3, unl_4, unl_5, unl_6, unl_7, unl_8, unl_9, unl_10, unl_11, unl_12, unl_23, unl_24, unl_30, unl_31, unl_32, unl_39, unl_40, unl_41, unl_46, unl_47, unl_48, unl_96, unl_99, unl_100, unl_255, unl_999, unl_1000, unl_2024, unl_32767, unl_1000000] at c22
        refine mv_iconst C rfl ?_
        refine mv_ireturn C rfl mv_okI ?_ ?_
        all_goals rfl
      · try simp only [b01, b10, Classical.not_not] at c22
        try simp (disch := omega) only [lit_0, lit_1, lit_2, lit_3, lit_4, lit_5, lit_6, lit_7, lit_8, lit_9, lit_10, lit_11, lit_12, lit_23, lit_24, lit_30, lit_31, lit_32, lit_39, lit_40, lit_41, lit_46, lit_47, lit_48, lit_96, lit_99, lit_100, lit_255, lit_999, lit_1000, lit_2024, lit_32767, lit_1000000, nI_ltI, nI_leI, nI_eq, Nat.not_lt, Nat.not_le] at c22
        try simp only [unl_0, unl_1, unl_2, unl_3, unl_4, unl_5, unl_6, unl_7, unl_8, unl_9, unl_10, unl_11, unl_12, unl_23, unl_24, unl_30, unl_31, unl_32, unl_39, unl_40, unl_41, unl_46, unl_47, unl_48, unl_96, unl_99, unl_100, unl_255, unl_999, unl_1000, unl_2024, unl_32767, unl_1000000] at c22
        refine mv_iload_n C rfl rfl ?_
        refine mv_i2l C rfl ?_
        refine mv_lconst C rfl ?_
        refine mv_ldc2_w C rfl ?_
        refine mv_cS C rfl (mv_up Rb rfl) (by decide) rfl (Nat.le_of_ble_eq_true rfl) (Nat.le_refl _) (Nat.le_refl _) rfl ?_
        refine mv_if_eq C rfl (fun c34 => ?_) (fun c34 => ?_)
        · try simp only [b01, b10, Classical.not_not] at c34
          try simp (disch := omega) only [lit_0, lit_1, lit_2, lit_3, lit_4, lit_5, lit_6, lit_7, lit_8, lit_9, lit_10, lit_11, lit_12, lit_23, lit_24, lit_30, lit_31, lit_32, lit_39, lit_40, lit_41, lit_46, lit_47, lit_48, lit_96, lit_99, lit_100, lit_255, lit_999, lit_1000, lit_2024, lit_32767, lit_1000000, nI_ltI, nI_leI, nI_eq, Nat.not_lt, Nat.not_le] at c34
          try simp only [unl_0, unl_1, unl_2, unl_3, unl_4, unl_5, unl_6, unl_7, unl_8, unl_9, unl_10, unl_11, unl_12, unl_23, unl_24, unl_30, unl_31, unl_32, unl_39, unl_40, unl_41, unl_46, unl_47, unl_48, unl_96, unl_99, unl_100, unl_255, unl_999, unl_1000, unl_2024, unl_32767, unl_1000000] at c34
          refine mv_iconst C rfl ?_
          refine mv_ireturn C rfl mv_okI ?_ ?_
          all_goals rfl
        · try simp only [b01, b10, Classical.not_not] at c34
          try simp (disch := omega) only [lit_0, lit_1, lit_2, lit_3, lit_4, lit_5, lit_6, lit_7, lit_8, lit_9, lit_10, lit_11, lit_12, lit_23, lit_24, lit_30, lit_31, lit_32, lit_39, lit_40, lit_41, lit_46, lit_47, lit_48, lit_96, lit_99, lit_100, lit_255, lit_999, lit_1000, lit_2024, lit_32767, lit_1000000, nI_ltI, nI_leI, nI_eq, Nat.not_lt, Nat.not_le] at c34
          try simp only [unl_0, unl_1, unl_2, unl_3, unl_4, unl_5, unl_6, unl_7, unl_8, unl_9, unl_10, unl_11, unl_12, unl_23, unl_24, unl_30, unl_31, unl_32, unl_39, unl_40, unl_41, unl_46, unl_47, unl_48, unl_96, unl_99, unl_100, unl_255, unl_999, unl_1000, unl_2024, unl_32767, unl_1000000] at c34
          refine mv_aload_n C rfl rfl ?_
          refine mv_getJ C rfl rfl rfl hf ?_
          refine mv_bipush C rfl ?_
          refine mv_icmp_ne C rfl (fun c43 => ?_) (fun c43 => ?_)
          · exact absurd ⟨c10, c22, c34, (by (rcases Nat.lt_or_ge (u 16 0) 30 with q | q; exact q; exact absurd (show nI (u 16 0) = 30 by rw [show u 16 0 = 30 by omega]; rfl) c43))⟩ hc
          · try simp only [b01, b10, Classical.not_not] at c43
            try simp (disch := omega) only [lit_0, lit_1, lit_2, lit_3, lit_4, lit_5, lit_6, lit_7, lit_8, lit_9, lit_10, lit_11, lit_12, lit_23, lit_24, lit_30, lit_31, lit_32, lit_39, lit_40, lit_41, lit_46, lit_47, lit_48, lit_96, lit_99, lit_100, lit_255, lit_999, lit_1000, lit_2024, lit_32767, lit_1000000, nI_ltI, nI_leI, nI_eq, Nat.not_lt, Nat.not_le] at c43
            try simp only [unl_0, unl_1, unl_2, unl_3, unl_4, unl_5, unl_6, unl_7, unl_8, unl_9, unl_10, unl_11, unl_12, unl_23, unl_24, unl_30, unl_31, unl_32, unl_39, unl_40, unl_41, unl_46, unl_47, unl_48, unl_96, unl_99, unl_100, unl_255, unl_999, unl_1000, unl_2024, unl_32767, unl_1000000] at c43
            refine mv_iconst C rfl ?_
            refine mv_ireturn C rfl mv_okI ?_ ?_
            all_goals rfl
-- whom the description fits
def hag (u : hM) (k x : Nat) : Bool := decide (u 14 k = 0) || (decide (x ≤ u 14 k - 1 + u 15 k) && decide (u 14 k - 1 ≤ x + u 15 k))
def hmis (g : Nat → Bool) : Nat → Nat → Nat
  | 0, _ => 0
  | k + 1, i => bif g i then hmis g k (i + 1) else i + 1
def hmf (u : hM) (p : Nat) : Nat := hmis (fun k => hag u k (u 18 (6 * p + k))) 6 0
theorem abs_gt {x v b : Nat} (hx : x < 2 ^ 20) (hv : v < 2 ^ 20) (hb : b < 2 ^ 20) : nI b < (if 0 ≤ nI x - nI v then nI x - nI v else 0 - (nI x - nI v)) ↔ ¬ (x ≤ v + b ∧ v ≤ x + b) := by
  have e := pk_sub_toInt (a := x) (b := v) (by omega) (by omega)
  by_cases h : v ≤ x
  · have h0 : 0 ≤ nI x - nI v := by rw [i32_le, e, i32_0]; omega
    rw [if_pos h0, i32_lt, e, nI_toInt (by omega)]; omega
  · have h0 : ¬ 0 ≤ nI x - nI v := by rw [i32_le, e, i32_0]; omega
    rw [if_neg h0]
    have e2 : 0 - (nI x - nI v) = nI v - nI x := by rw [Int32.zero_sub, Int32.neg_sub]
    rw [e2, i32_lt, pk_sub_toInt (by omega) (by omega), nI_toInt (by omega)]; omega

theorem r_agrees (z : mv_Z) (u : hM) (k x : Nat) (hk : k < 6) (hx : x < 32) (hv : z.1 23 = fun k => hst (u 14 k)) (hb : z.1 24 = fun k => nI (u 15 k)) (h1 : ∀ k, u 14 k ≤ 32 ∧ u 15 k ≤ 31) : mv_Runs 1 42 [.ref 22, .int (nI k), .int (nI x)] (mv_E z) (some (.int (bif hag u k x then 1 else 0))) (mv_E z) := by
  have hi1 := h1 k
  have hv1 : z.1 23 k = hst (u 14 k) := by rw [hv]
  have hb1 : z.1 24 k = nI (u 15 k) := by rw [hb]
  by_cases h0 : u 14 k = 0
  · rw [show hag u k x = true by simp [hag, h0]]
    refine mv_start pX4_agrees (some .boolean) [some (.ref 22), some (.int (nI k)), some (.int (nI x))] rfl rfl rfl rfl (fun V C => ?_)
    refine mv_aload_n C rfl rfl ?_
    refine mv_getR C rfl rfl rfl ?_
    refine mv_iload_n C rfl rfl ?_
    refine mv_aldJ C rfl rfl rfl (by omega) hv1 ?_
    refine mv_iconst C rfl ?_
    refine mv_icmp_eq C rfl (fun c7 => ?_) (fun c7 => ?_)
    · refine mv_iconst C rfl ?_
      refine mv_goto C rfl ?_
      refine mv_ireturn C rfl mv_okZ1 ?_ ?_
      all_goals rfl
    · exact absurd ((hst_m1 (by omega)).mpr h0) c7
  · obtain ⟨v, hv2⟩ : ∃ v, u 14 k = v + 1 := ⟨u 14 k - 1, by omega⟩
    rw [hv2] at hv1
    have hv3 : z.1 23 k = nI v := hv1
    have he : hag u k x = (decide (x ≤ v + u 15 k) && decide (v ≤ x + u 15 k)) := by simp [hag, hv2]
    rw [he]
    refine mv_start pX4_agrees (some .boolean) [some (.ref 22), some (.int (nI k)), some (.int (nI x))] rfl rfl rfl rfl (fun V C => ?_)
    refine mv_aload_n C rfl rfl ?_
    refine mv_getR C rfl rfl rfl ?_
    refine mv_iload_n C rfl rfl ?_
    refine mv_aldJ C rfl rfl rfl (by omega) hv3 ?_
    refine mv_iconst C rfl ?_
    refine mv_icmp_eq C rfl (fun c7 => ?_) (fun c7 => ?_)
    · exact absurd c7 (nI_nm1 (by omega))
    · refine mv_iload_n C rfl rfl ?_
      refine mv_aload_n C rfl rfl ?_
      refine mv_getR C rfl rfl rfl ?_
      refine mv_iload_n C rfl rfl ?_
      refine mv_aldJ C rfl rfl rfl (by omega) hv3 ?_
      refine mv_isub C rfl ?_
      refine mv_mabs C rfl rfl (Nat.le_of_ble_eq_true rfl) ?_
      refine mv_aload_n C rfl rfl ?_
      refine mv_getR C rfl rfl rfl ?_
      refine mv_iload_n C rfl rfl ?_
      refine mv_aldJ C rfl rfl rfl (by omega) hb1 ?_
      refine mv_icmp_gt C rfl (fun c27 => ?_) (fun c27 => ?_)
      · rw [abs_gt (by omega) (by omega) (by omega)] at c27
        refine mv_iconst C rfl ?_
        refine mv_ireturn C rfl (by first | exact mv_okZ1 | exact mv_okZ0) ?_ ?_
        all_goals first | rfl | (rw [show (decide (x ≤ v + u 15 k) && decide (v ≤ x + u 15 k)) = true by simp; omega]; rfl) | (rw [show (decide (x ≤ v + u 15 k) && decide (v ≤ x + u 15 k)) = false by simp; omega]; rfl)
      · rw [abs_gt (by omega) (by omega) (by omega)] at c27
        refine mv_iconst C rfl ?_
        refine mv_goto C rfl ?_
        refine mv_ireturn C rfl (by first | exact mv_okZ1 | exact mv_okZ0) ?_ ?_
        all_goals first | rfl | (rw [show (decide (x ≤ v + u 15 k) && decide (v ≤ x + u 15 k)) = true by simp; omega]; rfl) | (rw [show (decide (x ≤ v + u 15 k) && decide (v ≤ x + u 15 k)) = false by simp; omega]; rfl)
theorem look_dig {a0 a1 a2 a3 a4 a5 : Nat} (h0 : a0 < 32) (h1 : a1 < 32) (h2 : a2 < 32) (h3 : a3 < 32) (h4 : a4 < 32) (h5 : a5 < 32) (k : Nat) (hk : k < 6) : (nI (a0 * 33554432 + a1 * 1048576 + a2 * 32768 + a3 * 1024 + a4 * 32 + a5) >>> ((5 * (5 - nI k) : Int32) &&& 31)) &&& 31 = nI (([a0, a1, a2, a3, a4, a5] : List Nat).getD k 0) := by
  have e2 : (5 : Int32) - nI k = nI (5 - k) := pk_sub (a := 5) (b := k) (by omega)
  have e3 : (5 : Int32) * nI (5 - k) = nI (5 * (5 - k)) := pk_mul 5 (5 - k)
  have hle := Nat.div_le_self (a0 * 33554432 + a1 * 1048576 + a2 * 32768 + a3 * 1024 + a4 * 32 + a5) (2 ^ (5 * (5 - k)))
  rw [e2, e3, nI_shr (by omega) (by omega), nI_and31 (by omega)]
  rcases (show k = 0 ∨ k = 1 ∨ k = 2 ∨ k = 3 ∨ k = 4 ∨ k = 5 by omega) with rfl | rfl | rfl | rfl | rfl | rfl
  all_goals (congr 1; simp only [Nat.reduceMul, Nat.reduceSub, Nat.reducePow, List.getD_cons_zero, List.getD_cons_succ]; omega)
theorem r_misfit (z : mv_Z) (u : hM) (p : Nat) (hp : p < 30) (hz : rX u z) (hi : hI u) : mv_Runs 2 37 [.ref 21, .int (nI p)] (mv_E z) (some (.int (nI (hmf u p)))) (mv_E z) := by
  have hd : ∀ k, u 18 k < 32 := hi.2.2.2.2.2.2.2.2.2.2.2.2.2.1
  have h1 := hi.2.2.2.2.2.2.2.2.2.2.1
  have hl := hz.2.2.2.2.1 p hp
  refine mv_start pX3_misfit (some .int) [some (.ref 21), some (.int (nI p)), none, none] rfl rfl rfl rfl (fun V C => ?_)
  have loop : ∀ (k i : Nat), i + k = 6 → hmis (fun k => hag u k (u 18 (6 * p + k))) k i = hmf u p → V 2 [some (.ref 21), some (.int (nI p)), some (.int (nI i)), none] [] (mv_E z) := by
    intro k
    induction k with
    | zero =>
      intro i hi he
      obtain rfl : i = 6 := by omega
      refine mv_iload_n C rfl rfl ?_
      refine mv_bipush C rfl ?_
      refine mv_icmp_ge C rfl (fun c5 => ?_) (fun c5 => ?_)
      · refine mv_iconst C rfl ?_
        refine mv_ireturn C rfl mv_okI ?_ ?_
        all_goals first | rfl | (rw [← he]; rfl)
      · exact absurd (by decide) c5
    | succ k ih =>
      intro i hi he
      have hx : (nI (u 18 (6 * p) * 33554432 + u 18 (6 * p + 1) * 1048576 + u 18 (6 * p + 2) * 32768 + u 18 (6 * p + 3) * 1024 + u 18 (6 * p + 4) * 32 + u 18 (6 * p + 5)) >>> ((5 * (5 - nI i) : Int32) &&& 31)) &&& 31 = nI (u 18 (6 * p + i)) := by
        rw [look_dig (hd _) (hd _) (hd _) (hd _) (hd _) (hd _) i (by omega)]
        rcases (show i = 0 ∨ i = 1 ∨ i = 2 ∨ i = 3 ∨ i = 4 ∨ i = 5 by omega) with rfl | rfl | rfl | rfl | rfl | rfl <;> rfl
      have R := r_agrees z u i (u 18 (6 * p + i)) (by omega) (hd _) hz.2.2.2.1 (funext fun k => rX_a hz 24 15 (by decide) k) h1
      simp only [hmis] at he
      cases hg : hag u i (u 18 (6 * p + i)) with
      | true =>
        rw [hg] at R he
        refine mv_iload_n C rfl rfl ?_
        refine mv_bipush C rfl ?_
        refine mv_icmp_ge C rfl (fun c5 => ?_) (fun c5 => ?_)
        · exact absurd c5 (nI_ge (b := 6) (by omega) (by decide))
        · refine mv_aload_n C rfl rfl ?_
          refine mv_getR C rfl rfl rfl ?_
          refine mv_iload_n C rfl rfl ?_
          refine mv_aldJ C rfl rfl rfl (by omega) hl ?_
          refine mv_iconst C rfl ?_
          refine mv_iconst C rfl ?_
          refine mv_iload_n C rfl rfl ?_
          refine mv_isub C rfl ?_
          refine mv_imul C rfl ?_
          refine mv_ishr C rfl ?_
          refine mv_bipush C rfl ?_
          refine mv_iand C rfl ?_
          refine mv_top hx ?_
          refine mv_is_n3 C rfl rfl ?_
          refine mv_aload_n C rfl rfl ?_
          refine mv_getR C rfl rfl rfl ?_
          refine mv_iload_n C rfl rfl ?_
          refine mv_iload_n C rfl rfl ?_
          refine mv_cV C rfl R (by decide) rfl rfl rfl (Nat.le_of_ble_eq_true rfl) (Nat.le_refl _) (Nat.le_refl _) rfl ?_
          refine mv_if_ne C rfl (fun c33 => ?_) (fun c33 => ?_)
          · refine mv_inc2 C rfl rfl ?_
            refine mv_goto C rfl ?_
            simp only [nI_1]
            exact mv_forget C _ (mv_le3 _ _ _ _) (ih (i + 1) (by omega) he)
          · exact absurd c33 (by decide)
      | false =>
        rw [hg] at R he
        refine mv_iload_n C rfl rfl ?_
        refine mv_bipush C rfl ?_
        refine mv_icmp_ge C rfl (fun c5 => ?_) (fun c5 => ?_)
        · exact absurd c5 (nI_ge (b := 6) (by omega) (by decide))
        · refine mv_aload_n C rfl rfl ?_
          refine mv_getR C rfl rfl rfl ?_
          refine mv_iload_n C rfl rfl ?_
          refine mv_aldJ C rfl rfl rfl (by omega) hl ?_
          refine mv_iconst C rfl ?_
          refine mv_iconst C rfl ?_
          refine mv_iload_n C rfl rfl ?_
          refine mv_isub C rfl ?_
          refine mv_imul C rfl ?_
          refine mv_ishr C rfl ?_
          refine mv_bipush C rfl ?_
          refine mv_iand C rfl ?_
          refine mv_top hx ?_
          refine mv_is_n3 C rfl rfl ?_
          refine mv_aload_n C rfl rfl ?_
          refine mv_getR C rfl rfl rfl ?_
          refine mv_iload_n C rfl rfl ?_
          refine mv_iload_n C rfl rfl ?_
          refine mv_cV C rfl R (by decide) rfl rfl rfl (Nat.le_of_ble_eq_true rfl) (Nat.le_refl _) (Nat.le_refl _) rfl ?_
          refine mv_if_ne C rfl (fun c33 => ?_) (fun c33 => ?_)
          · exact absurd rfl c33
          · refine mv_iconst C rfl ?_
            refine mv_iload_n C rfl rfl ?_
            refine mv_iadd C rfl ?_
            refine mv_top (nI_add 1 _) ?_
            refine mv_ireturn C rfl mv_okI ?_ ?_
            all_goals first | rfl | (rw [← he]; simp only [cond_false, Nat.add_comm])
  refine mv_iconst C rfl ?_
  refine mv_is_n2 C rfl rfl ?_
  exact loop 6 0 (by omega) rfl
theorem hmis_le (g : Nat → Bool) : ∀ k i, hmis g k i ≤ k + i
  | 0, i => Nat.zero_le _
  | k + 1, i => by
    simp only [hmis]
    cases g i with
    | true => have := hmis_le g k (i + 1); simp only [cond_true]; omega
    | false => simp only [cond_false]; omega
theorem hmf_le (u : hM) (p : Nat) : hmf u p ≤ 6 := hmis_le _ 6 0
def a_fits (u : hM) (p : Int32) : Int32 := if 0 ≤ p ∧ p < nI (u 16 0) then nI (hmf u p.toNatClampNeg) else -1
theorem x_fits (u : hM) (z : mv_Z) (p : Int32) (hi : hI u) (hz : rX u z) : xR 93 [.int p] u z (.int (a_fits u p)) u := by
  have hn := rX_s hz 21 3 16 (by decide)
  have h30 : u 16 0 ≤ 30 := hi.2.2.2.2.2.2.2.2.2.2.2.1
  unfold a_fits
  refine ⟨_, mv_up (d := 3) (S1 := mv_E z) ?_ rfl, hz, fX_rf⟩
  by_cases hc : 0 ≤ p ∧ p < nI (u 16 0)
  · rw [if_pos hc]
    have e := nI_rngc hc.1 hc.2 (by omega)
    generalize p.toNatClampNeg = k at *
    obtain ⟨hk, rfl⟩ := e
    have R := r_misfit z u k (by omega) hz hi
    refine mv_start pX10_fits (some .int) [some (.ref 0), some (.int (nI k))] rfl rfl rfl rfl (fun V C => ?_)
    refine mv_iload_n C rfl rfl ?_
    refine mv_if_lt C rfl (fun c1 => ?_) (fun c1 => ?_)
    · exact absurd c1 (nI_pos (by omega))
    · refine mv_iload_n C rfl rfl ?_
      refine mv_aload_n C rfl rfl ?_
      refine mv_getR C rfl rfl rfl ?_
      refine mv_getJ C rfl rfl rfl hn ?_
      refine mv_icmp_ge C rfl (fun c12 => ?_) (fun c12 => ?_)
      · exact absurd c12 (nI_ge hk (by omega))
      · refine mv_aload_n C rfl rfl ?_
        refine mv_getR C rfl rfl rfl ?_
        refine mv_iload_n C rfl rfl ?_
        refine mv_cV C rfl R (by decide) rfl rfl rfl (Nat.le_of_ble_eq_true rfl) (Nat.le_refl _) (Nat.le_refl _) rfl ?_
        refine mv_goto C rfl ?_
        refine mv_ireturn C rfl mv_okI ?_ ?_
        all_goals rfl
  · rw [if_neg hc]
    refine mv_start pX10_fits (some .int) [some (.ref 0), some (.int p)] rfl rfl rfl rfl (fun V C => ?_)
    refine mv_iload_n C rfl rfl ?_
    refine mv_if_lt C rfl (fun c1 => ?_) (fun c1 => ?_)
    · refine mv_iconst C rfl ?_
      refine mv_ireturn C rfl mv_okI ?_ ?_
      all_goals rfl
    · refine mv_iload_n C rfl rfl ?_
      refine mv_aload_n C rfl rfl ?_
      refine mv_getR C rfl rfl rfl ?_
      refine mv_getJ C rfl rfl rfl hn ?_
      refine mv_icmp_ge C rfl (fun c12 => ?_) (fun c12 => ?_)
      · refine mv_iconst C rfl ?_
        refine mv_ireturn C rfl mv_okI ?_ ?_
        all_goals rfl
      · exact absurd ⟨(by rw [i32_lt] at c1; rw [i32_le]; omega), (by rw [i32_le] at c12; rw [i32_lt]; omega)⟩ hc
theorem r_unfit (z : mv_Z) (u : hM) (p : Nat) (hp : p < 30) (hz : rM u z) (hi : hI u) : mv_Runs 2 151 [.ref 68, .int (nI p)] (mv_E z) (some (.int (nI (hmf u p)))) (mv_E z) := by
  have hd : ∀ k, u 18 k < 32 := hi.2.2.2.2.2.2.2.2.2.2.2.2.2.1
  have h1 := hi.2.2.2.2.2.2.2.2.2.2.1
  refine mv_start pX11_unfit (some .int) [some (.ref 68), some (.int (nI p)), none] rfl rfl rfl rfl (fun V C => ?_)
  have loop : ∀ (k i : Nat), i + k = 6 → hmis (fun k => hag u k (u 18 (6 * p + k))) k i = hmf u p → V 2 [some (.ref 68), some (.int (nI p)), some (.int (nI i))] [] (mv_E z) := by
    intro k
    induction k with
    | zero =>
      intro i hi he
      obtain rfl : i = 6 := by omega
      refine mv_iload_n C rfl rfl ?_
      refine mv_bipush C rfl ?_
      refine mv_icmp_ge C rfl (fun c5 => ?_) (fun c5 => ?_)
      · refine mv_iconst C rfl ?_
        refine mv_ireturn C rfl mv_okI ?_ ?_
        all_goals first | rfl | (rw [← he]; rfl)
      · exact absurd (by decide) c5
    | succ k ih =>
      intro i hi he
      have hi1 := h1 i
      have hx := hd (6 * p + i)
      have hv1 : z.1 84 i = hst (u 14 i) := by rw [hz.2.2.1]
      have hb1 := rM_a hz 85 15 (by decide) i
      have hx1 := rM_a hz 87 18 (by decide) (6 * p + i)
      simp only [hmis] at he
      by_cases h0 : u 14 i = 0
      · rw [show hag u i (u 18 (6 * p + i)) = true by simp [hag, h0]] at he
        refine mv_iload_n C rfl rfl ?_
        refine mv_bipush C rfl ?_
        refine mv_icmp_ge C rfl (fun c5 => ?_) (fun c5 => ?_)
        · exact absurd c5 (nI_ge (b := 6) (by omega) (by decide))
        · refine mv_aload_n C rfl rfl ?_
          refine mv_getR C rfl rfl rfl ?_
          refine mv_iload_n C rfl rfl ?_
          refine mv_aldJ C rfl rfl rfl (by omega) hv1 ?_
          refine mv_if_lt C rfl (fun c14 => ?_) (fun c14 => ?_)
          · refine mv_inc2 C rfl rfl ?_
            refine mv_goto C rfl ?_
            simp only [nI_1]
            exact ih (i + 1) (by omega) he
          · exact absurd ((hst_ge (by omega)).mpr h0) c14
      · obtain ⟨v, hv2⟩ : ∃ v, u 14 i = v + 1 := ⟨u 14 i - 1, by omega⟩
        rw [hv2] at hv1
        have hv3 : z.1 84 i = nI v := hv1
        have hg : hag u i (u 18 (6 * p + i)) = (decide (u 18 (6 * p + i) ≤ v + u 15 i) && decide (v ≤ u 18 (6 * p + i) + u 15 i)) := by simp [hag, hv2]
        rw [hg] at he
        refine mv_iload_n C rfl rfl ?_
        refine mv_bipush C rfl ?_
        refine mv_icmp_ge C rfl (fun c5 => ?_) (fun c5 => ?_)
        · exact absurd c5 (nI_ge (b := 6) (by omega) (by decide))
        · refine mv_aload_n C rfl rfl ?_
          refine mv_getR C rfl rfl rfl ?_
          refine mv_iload_n C rfl rfl ?_
          refine mv_aldJ C rfl rfl rfl (by omega) hv3 ?_
          refine mv_if_lt C rfl (fun c14 => ?_) (fun c14 => ?_)
          · exact absurd c14 (nI_pos (by omega))
          · refine mv_aload_n C rfl rfl ?_
            refine mv_getR C rfl rfl rfl ?_
            refine mv_bipush C rfl ?_
            refine mv_iload_n C rfl rfl ?_
            refine mv_imul C rfl ?_
            refine mv_top (pk_mul 6 _) ?_
            refine mv_iload_n C rfl rfl ?_
            refine mv_iadd C rfl ?_
            refine mv_top (nI_add _ _) ?_
            refine mv_aldJ C rfl rfl rfl (by omega) hx1 ?_
            refine mv_aload_n C rfl rfl ?_
            refine mv_getR C rfl rfl rfl ?_
            refine mv_iload_n C rfl rfl ?_
            refine mv_aldJ C rfl rfl rfl (by omega) hv3 ?_
            refine mv_isub C rfl ?_
            refine mv_mabs C rfl rfl (Nat.le_of_ble_eq_true rfl) ?_
            refine mv_aload_n C rfl rfl ?_
            refine mv_getR C rfl rfl rfl ?_
            refine mv_iload_n C rfl rfl ?_
            refine mv_aldJ C rfl rfl rfl (by omega) hb1 ?_
            refine mv_icmp_le C rfl (fun c44 => ?_) (fun c44 => ?_)
            · have c45 : ¬ nI (u 15 i) < (if 0 ≤ nI (u 18 (6 * p + i)) - nI v then nI (u 18 (6 * p + i)) - nI v else 0 - (nI (u 18 (6 * p + i)) - nI v)) := by (rw [i32_lt]; rw [i32_le] at c44; omega)
              rw [abs_gt (by omega) (by omega) (by omega)] at c45
              rw [show (decide (u 18 (6 * p + i) ≤ v + u 15 i) && decide (v ≤ u 18 (6 * p + i) + u 15 i)) = true by simp; omega] at he
              refine mv_inc2 C rfl rfl ?_
              refine mv_goto C rfl ?_
              simp only [nI_1]
              exact ih (i + 1) (by omega) he
            · have c45 : nI (u 15 i) < (if 0 ≤ nI (u 18 (6 * p + i)) - nI v then nI (u 18 (6 * p + i)) - nI v else 0 - (nI (u 18 (6 * p + i)) - nI v)) := by (rw [i32_lt]; rw [i32_le] at c44; omega)
              rw [abs_gt (by omega) (by omega) (by omega)] at c45
              rw [show (decide (u 18 (6 * p + i) ≤ v + u 15 i) && decide (v ≤ u 18 (6 * p + i) + u 15 i)) = false by simp; omega] at he
              refine mv_iload_n C rfl rfl ?_
              refine mv_iconst C rfl ?_
              refine mv_iadd C rfl ?_
              refine mv_top (nI_1 _) ?_
              refine mv_ireturn C rfl mv_okI ?_ ?_
              all_goals first | rfl | (rw [← he]; rfl)
  refine mv_iconst C rfl ?_
  refine mv_is_n2 C rfl rfl ?_
  exact loop 6 0 (by omega) rfl
theorem m_fits (u : hM) (z : mv_Z) (p : Int32) (hi : hI u) (hz : rM u z) : mR 152 [.int p] u z (.int (a_fits u p)) u := by
  have h0 := rM_free hz 68 0 0 (Or.inr ⟨rfl, by decide⟩)
  have hn := rM_s h0 23 16 (by decide)
  have h30 : u 16 0 ≤ 30 := hi.2.2.2.2.2.2.2.2.2.2.2.1
  have R0 := r_inI (mv_u z 68 0 0) p 0 (nI (u 16 0) - 1 : Int32).toInt64 _ (inN (by omega))
  unfold a_fits
  refine ⟨_, mv_up (d := 3) (S1 := mv_E (mv_u z 68 0 0)) ?_ rfl, h0, fM_u fM_rf (by decide)⟩
  by_cases hc : 0 ≤ p ∧ p < nI (u 16 0)
  · rw [if_pos hc] at R0 ⊢
    have e := nI_rngc hc.1 hc.2 (by omega)
    generalize p.toNatClampNeg = k at *
    obtain ⟨hk, rfl⟩ := e
    have R := r_unfit _ u k (by omega) h0 hi
    refine mv_start pX11_fits (some .int) [some (.ref 68), some (.int (nI k))] rfl rfl rfl rfl (fun V C => ?_)
    refine mv_aload_n C rfl rfl ?_
    refine mv_iconst C rfl ?_
    refine mv_putI C rfl rfl rfl rfl ?_
    refine mv_iload_n C rfl rfl ?_
    refine mv_i2l C rfl ?_
    refine mv_lconst C rfl ?_
    refine mv_aload_n C rfl rfl ?_
    refine mv_getJ C rfl rfl rfl hn ?_
    refine mv_iconst C rfl ?_
    refine mv_isub C rfl ?_
    refine mv_i2l C rfl ?_
    refine mv_cS C rfl (mv_up R0 rfl) (by decide) rfl (Nat.le_of_ble_eq_true rfl) (Nat.le_refl _) (Nat.le_refl _) rfl ?_
    refine mv_if_eq C rfl (fun c18 => ?_) (fun c18 => ?_)
    · exact absurd c18 (by decide)
    · refine mv_aload_n C rfl rfl ?_
      refine mv_iload_n C rfl rfl ?_
      refine mv_cV C rfl R (by decide) rfl rfl rfl (Nat.le_of_ble_eq_true rfl) (Nat.le_refl _) (Nat.le_refl _) rfl ?_
      refine mv_goto C rfl ?_
      refine mv_ireturn C rfl mv_okI ?_ ?_
      all_goals rfl
  · rw [if_neg hc] at R0 ⊢
    refine mv_start pX11_fits (some .int) [some (.ref 68), some (.int p)] rfl rfl rfl rfl (fun V C => ?_)
    refine mv_aload_n C rfl rfl ?_
    refine mv_iconst C rfl ?_
    refine mv_putI C rfl rfl rfl rfl ?_
    refine mv_iload_n C rfl rfl ?_
    refine mv_i2l C rfl ?_
    refine mv_lconst C rfl ?_
    refine mv_aload_n C rfl rfl ?_
    refine mv_getJ C rfl rfl rfl hn ?_
    refine mv_iconst C rfl ?_
    refine mv_isub C rfl ?_
    refine mv_i2l C rfl ?_
    refine mv_cS C rfl (mv_up R0 rfl) (by decide) rfl (Nat.le_of_ble_eq_true rfl) (Nat.le_refl _) (Nat.le_refl _) rfl ?_
    refine mv_if_eq C rfl (fun c18 => ?_) (fun c18 => ?_)
    · refine mv_iconst C rfl ?_
      refine mv_ireturn C rfl mv_okI ?_ ?_
      all_goals rfl
    · exact absurd rfl c18
end
end
section
section
def hmask (g : Nat → Bool) : Nat → Int32
  | 0 => 0
  | n + 1 => bif g n then hmask g n ||| (1 <<< (nI n &&& 31)) else hmask g n
theorem hb_mask (g : Nat → Bool) : ∀ n, n ≤ 32 → ∀ i, i < 32 → hbit (hmask g n) i = (decide (i < n) && g i)
  | 0, _, i, _ => by simp [hmask, hb_0]
  | n + 1, hn, i, hi => by
    have ih := hb_mask g n (by omega) i hi
    simp only [hmask]
    cases hg : g n with
    | true =>
      simp only [cond_true]
      rw [hb_or, hb_bit (by omega) hi, ih]
      by_cases e : i = n
      · subst e; simp [hg]
      · by_cases h : i < n
        · simp [h, e, show i < n + 1 by omega]
        · simp [h, e, show ¬ i < n + 1 by omega]
    | false =>
      simp only [cond_false]
      rw [ih]
      by_cases e : i = n
      · subst e; simp [hg]
      · by_cases h : i < n
        · simp [h, show i < n + 1 by omega]
        · simp [h, show ¬ i < n + 1 by omega]
theorem r_parishesOf (z : mv_Z) (u : hM) (c : Int32) (hn : z.1 3 6 = nI (u 0 0)) (h24 : u 0 0 ≤ 24) (hc : ∀ p, z.1 4 p = nI (u 1 p)) : mv_Runs 2 51 [.ref 3, .int c] (mv_E z) (some (.int (hmask (fun p => decide (nI (u 1 p) = c)) (u 0 0)))) (mv_E z) := by
  refine mv_start pX6_parishesOf (some .int) [some (.ref 3), some (.int c), none, none] rfl rfl rfl rfl (fun V C => ?_)
  have loop : ∀ (k i : Nat), i + k = u 0 0 → V 4 [some (.ref 3), some (.int c), some (.int (hmask (fun p => decide (nI (u 1 p) = c)) i)), some (.int (nI i))] [] (mv_E z) := by
    intro k
    induction k with
    | zero =>
      intro i hi
      refine mv_iload_n C rfl rfl ?_
      refine mv_aload_n C rfl rfl ?_
      refine mv_getJ C rfl rfl rfl hn ?_
      refine mv_icmp_ge C rfl (fun c9 => ?_) (fun c9 => ?_)
      · refine mv_iload_n C rfl rfl ?_
        refine mv_ireturn C rfl mv_okI ?_ ?_
        all_goals (first | rfl | (rw [show i = u 0 0 by omega]))
      · exact absurd (nI_le (by omega) (by omega)) c9
    | succ k ih =>
      intro i hi
      have e := ih (i + 1) (by omega)
      simp only [hmask] at e
      refine mv_iload_n C rfl rfl ?_
      refine mv_aload_n C rfl rfl ?_
      refine mv_getJ C rfl rfl rfl hn ?_
      refine mv_icmp_ge C rfl (fun c9 => ?_) (fun c9 => ?_)
      · exact absurd c9 (nI_ge (by omega) (by omega))
      · refine mv_aload_n C rfl rfl ?_
        refine mv_getR C rfl rfl rfl ?_
        refine mv_iload_n C rfl rfl ?_
        refine mv_aldJ C rfl rfl rfl (by omega) (hc i) ?_
        refine mv_iload_n C rfl rfl ?_
        refine mv_icmp_ne C rfl (fun c19 => ?_) (fun c19 => ?_)
        · rw [decide_eq_false c19] at e
          refine mv_inc3 C rfl rfl ?_
          refine mv_goto C rfl ?_
          simp only [nI_1]
          exact e
        · rw [decide_eq_true c19] at e
          refine mv_iload_n C rfl rfl ?_
          refine mv_iload_n C rfl rfl ?_
          refine mv_cS C rfl (r_bit _ _) (by decide) rfl (Nat.le_of_ble_eq_true rfl) (Nat.le_refl _) (Nat.le_refl _) rfl ?_
          refine mv_ior C rfl ?_
          refine mv_is_n2 C rfl rfl ?_
          refine mv_inc3 C rfl rfl ?_
          refine mv_goto C rfl ?_
          simp only [nI_1]
          exact e
  refine mv_iconst C rfl ?_
  refine mv_is_n2 C rfl rfl ?_
  refine mv_iconst C rfl ?_
  refine mv_is_n3 C rfl rfl ?_
  exact loop (u 0 0) 0 (by omega)
def hfit (u : hM) (x : Int32) : Nat := hsum (fun p => bif hbit x (u 17 p) && decide (hmf u p = 0) then 1 else 0) (u 16 0)
theorem r_fittingOf (z : mv_Z) (u : hM) (x : Int32) (hz : rX u z) (hi : hI u) : mv_Runs 3 38 [.ref 21, .int x] (mv_E z) (some (.int (nI (hfit u x)))) (mv_E z) := by
  have hn := rX_s hz 21 3 16 (by decide)
  have h30 : u 16 0 ≤ 30 := hi.2.2.2.2.2.2.2.2.2.2.2.1
  have h24 := hi.1
  have hh := hi.2.2.2.2.2.2.2.2.2.2.2.2.1
  refine mv_start pX3_fittingOf (some .int) [some (.ref 21), some (.int x), none, none] rfl rfl rfl rfl (fun V C => ?_)
  have loop : ∀ (k i : Nat), i + k = u 16 0 → V 4 [some (.ref 21), some (.int x), some (.int (nI (hsum (fun p => bif hbit x (u 17 p) && decide (hmf u p = 0) then 1 else 0) i))), some (.int (nI i))] [] (mv_E z) := by
    intro k
    induction k with
    | zero =>
      intro i hi
      refine mv_iload_n C rfl rfl ?_
      refine mv_aload_n C rfl rfl ?_
      refine mv_getJ C rfl rfl rfl hn ?_
      refine mv_icmp_ge C rfl (fun c9 => ?_) (fun c9 => ?_)
      · refine mv_iload_n C rfl rfl ?_
        refine mv_ireturn C rfl mv_okI ?_ ?_
        all_goals (first | rfl | (rw [show i = u 16 0 by omega]; rfl))
      · exact absurd (nI_le (by omega) (by omega)) c9
    | succ k ih =>
      intro i hi2
      have e := ih (i + 1) (by omega)
      simp only [hsum] at e
      have R1 := r_misfit z u i (by omega) hz hi
      have hp : u 17 i < 32 := by have := hh i (by omega); omega
      have hm := hmf_le u i
      refine mv_iload_n C rfl rfl ?_
      refine mv_aload_n C rfl rfl ?_
      refine mv_getJ C rfl rfl rfl hn ?_
      refine mv_icmp_ge C rfl (fun c9 => ?_) (fun c9 => ?_)
      · exact absurd c9 (nI_ge (by omega) (by omega))
      · refine mv_iload_n C rfl rfl ?_
        refine mv_aload_n C rfl rfl ?_
        refine mv_getR C rfl rfl rfl ?_
        refine mv_iload_n C rfl rfl ?_
        refine mv_aldJ C rfl rfl rfl (by omega) (rX_a hz 25 17 (by decide) i) ?_
        refine mv_cS C rfl (mv_up (r_has _ _ _) rfl) (by decide) rfl (Nat.le_of_ble_eq_true rfl) (Nat.le_refl _) (Nat.le_refl _) rfl ?_
        refine mv_if_eq C rfl (fun c22 => ?_) (fun c22 => ?_)
        · have h2 : hbit x (u 17 i) = false := by (rw [← hb_has hp]; by_cases q : (x >>> (nI (u 17 i) &&& 31)) &&& 1 = 0; exact q; rw [if_neg q] at c22; exact absurd c22 (by decide))
          rw [h2] at e
          refine mv_inc3 C rfl rfl ?_
          refine mv_goto C rfl ?_
          simp only [nI_1]
          exact e
        · have h2 : hbit x (u 17 i) = true := by (cases q : hbit x (u 17 i) with | true => rfl | false => rw [if_pos ((hb_has hp).mpr q)] at c22; exact absurd rfl c22)
          rw [h2] at e
          refine mv_aload_n C rfl rfl ?_
          refine mv_iload_n C rfl rfl ?_
          refine mv_cV C rfl R1 (by decide) rfl rfl rfl (Nat.le_of_ble_eq_true rfl) (Nat.le_refl _) (Nat.le_refl _) rfl ?_
          refine mv_if_ne C rfl (fun c30 => ?_) (fun c30 => ?_)
          · have h3 : ¬ hmf u i = 0 := fun q => c30 (by rw [q]; rfl)
            rw [decide_eq_false h3] at e
            refine mv_inc3 C rfl rfl ?_
            refine mv_goto C rfl ?_
            simp only [nI_1]
            exact e
          · have h3 : hmf u i = 0 := (nI_eq (b := 0) (by omega) (by decide)).mp c30
            rw [decide_eq_true h3] at e
            refine mv_inc2 C rfl rfl ?_
            refine mv_inc3 C rfl rfl ?_
            refine mv_goto C rfl ?_
            simp only [nI_1]
            exact e
  refine mv_iconst C rfl ?_
  refine mv_is_n2 C rfl rfl ?_
  refine mv_iconst C rfl ?_
  refine mv_is_n3 C rfl rfl ?_
  exact loop (u 16 0) 0 (by omega)
def hmany (u : hM) (c : Int32) : Nat := hsum (fun p => bif decide (nI (u 1 (u 17 p)) = c) && decide (hmf u p = 0) then 1 else 0) (u 16 0)
def a_many (u : hM) (c : Int32) : Int32 := if c = -1 then nI (hsum (fun p => bif decide (hmf u p = 0) then 1 else 0) (u 16 0)) else if 0 ≤ c ∧ c < 6 then nI (hmany u c) else -2
theorem hfit_all (u : hM) (hi : hI u) : hfit u (-1) = hsum (fun p => bif decide (hmf u p = 0) then 1 else 0) (u 16 0) := by
  unfold hfit
  apply hsum_cong
  intro i h
  have := hi.2.2.2.2.2.2.2.2.2.2.2.2.1 i h
  have h24 := hi.1
  rw [hb_m1 _ (by omega)]; simp
theorem hfit_c (u : hM) (hi : hI u) (c : Int32) : hfit u (hmask (fun p => decide (nI (u 1 p) = c)) (u 0 0)) = hmany u c := by
  unfold hfit hmany
  apply hsum_cong
  intro i h
  have h1 := hi.2.2.2.2.2.2.2.2.2.2.2.2.1 i h
  have h24 := hi.1
  rw [hb_mask _ _ (by omega) _ (by omega)]
  simp [h1]
theorem x_many (u : hM) (z : mv_Z) (c : Int32) (hi : hI u) (hz : rX u z) : xR 94 [.int c] u z (.int (a_many u c)) u := by
  have R0 := r_isCounty z c
  have R1 := r_parishesOf z u c (rX_s hz 3 6 0 (by decide)) hi.1 (rX_a hz 4 1 (by decide))
  have R2 := r_fittingOf z u (hmask (fun p => decide (nI (u 1 p) = c)) (u 0 0)) hz hi
  rw [hfit_c u hi] at R2
  have R3 := r_fittingOf z u (-1) hz hi
  rw [hfit_all u hi] at R3
  unfold a_many
  refine ⟨_, mv_up (d := 4) (S1 := mv_E z) ?_ rfl, hz, fX_rf⟩
  by_cases h1 : c = -1
  · rw [if_pos h1]
    refine mv_start pX10_many (some .int) [some (.ref 0), some (.int c)] rfl rfl rfl rfl (fun V C => ?_)
    refine mv_iload_n C rfl rfl ?_
    refine mv_iconst C rfl ?_
    refine mv_icmp_ne C rfl (fun c2 => ?_) (fun c2 => ?_)
    · exact absurd h1 c2
    · refine mv_aload_n C rfl rfl ?_
      refine mv_getR C rfl rfl rfl ?_
      refine mv_iconst C rfl ?_
      refine mv_cV C rfl R3 (by decide) rfl rfl rfl (Nat.le_of_ble_eq_true rfl) (Nat.le_refl _) (Nat.le_refl _) rfl ?_
      refine mv_ireturn C rfl mv_okI ?_ ?_
      all_goals rfl
  · rw [if_neg h1]
    by_cases h2 : 0 ≤ c ∧ c < 6
    · rw [if_pos h2] at R0 ⊢
      refine mv_start pX10_many (some .int) [some (.ref 0), some (.int c)] rfl rfl rfl rfl (fun V C => ?_)
      refine mv_iload_n C rfl rfl ?_
      refine mv_iconst C rfl ?_
      refine mv_icmp_ne C rfl (fun c2 => ?_) (fun c2 => ?_)
      · refine mv_iload_n C rfl rfl ?_
        refine mv_cS C rfl (mv_up R0 rfl) (by decide) rfl (Nat.le_of_ble_eq_true rfl) (Nat.le_refl _) (Nat.le_refl _) rfl ?_
        refine mv_if_eq C rfl (fun c18 => ?_) (fun c18 => ?_)
        · exact absurd c18 (by decide)
        · refine mv_aload_n C rfl rfl ?_
          refine mv_getR C rfl rfl rfl ?_
          refine mv_aload_n C rfl rfl ?_
          refine mv_getR C rfl rfl rfl ?_
          refine mv_iload_n C rfl rfl ?_
          refine mv_cV C rfl (mv_up R1 rfl) (by decide) rfl rfl rfl (Nat.le_of_ble_eq_true rfl) (Nat.le_refl _) (Nat.le_refl _) rfl ?_
          refine mv_cV C rfl R2 (by decide) rfl rfl rfl (Nat.le_of_ble_eq_true rfl) (Nat.le_refl _) (Nat.le_refl _) rfl ?_
          refine mv_goto C rfl ?_
          refine mv_ireturn C rfl mv_okI ?_ ?_
          all_goals rfl
      · exact absurd c2 h1
    · rw [if_neg h2] at R0 ⊢
      refine mv_start pX10_many (some .int) [some (.ref 0), some (.int c)] rfl rfl rfl rfl (fun V C => ?_)
      refine mv_iload_n C rfl rfl ?_
      refine mv_iconst C rfl ?_
      refine mv_icmp_ne C rfl (fun c2 => ?_) (fun c2 => ?_)
      · refine mv_iload_n C rfl rfl ?_
        refine mv_cS C rfl (mv_up R0 rfl) (by decide) rfl (Nat.le_of_ble_eq_true rfl) (Nat.le_refl _) (Nat.le_refl _) rfl ?_
        refine mv_if_eq C rfl (fun c18 => ?_) (fun c18 => ?_)
        · refine mv_bipush C rfl ?_
          refine mv_ireturn C rfl mv_okI ?_ ?_
          all_goals rfl
        · exact absurd rfl c18
      · exact absurd c2 h1
theorem m_many (u : hM) (z : mv_Z) (c : Int32) (hi : hI u) (hz : rM u z) : mR 153 [.int c] u z (.int (a_many u c)) u := by
  have h0 := rM_free hz 68 0 0 (Or.inr ⟨rfl, by decide⟩)
  have hn := rM_s h0 23 16 (by decide)
  have h30 : u 16 0 ≤ 30 := hi.2.2.2.2.2.2.2.2.2.2.2.1
  have h24 := hi.1
  have hh := hi.2.2.2.2.2.2.2.2.2.2.2.2.1
  have R0 := r_inI (mv_u z 68 0 0) c (-1) 5 (-1 ≤ c ∧ c ≤ 5) (by rw [i32_le, i32_le, i32_m1, i32_5, l64_m1, l64_5])
  refine ⟨_, mv_up (d := 4) (S1 := mv_E (mv_u z 68 0 0)) ?_ rfl, h0, fM_u fM_rf (by decide)⟩
  by_cases hc : -1 ≤ c ∧ c ≤ 5
  · rw [if_pos hc] at R0
    have ea : a_many u c = nI (hsum (fun p => bif (decide (c < 0) || decide (nI (u 1 (u 17 p)) = c)) && decide (hmf u p = 0) then 1 else 0) (u 16 0)) := by
      unfold a_many hmany
      have hc1 := hc.1
      have hc2 := hc.2
      rw [i32_le, i32_m1] at hc1
      rw [i32_le, i32_5] at hc2
      by_cases h1 : c = -1
      · rw [if_pos h1]
        have h2 : c < 0 := by rw [h1]; decide
        simp [h2]
      · have h3 : ¬ c.toInt = -1 := fun q => h1 (Int32.toInt_inj.mp q)
        have h2 : ¬ c < 0 := by rw [i32_lt, i32_0]; omega
        rw [if_neg h1, if_pos ⟨by rw [i32_le, i32_0]; omega, by rw [i32_lt, i32_6]; omega⟩]
        simp [h2]
    rw [ea]
    refine mv_start pX11_many (some .int) [some (.ref 68), some (.int c), none, none] rfl rfl rfl rfl (fun V C => ?_)
    have loop : ∀ (k i : Nat), i + k = u 16 0 → V 26 [some (.ref 68), some (.int c), some (.int (nI (hsum (fun p => bif (decide (c < 0) || decide (nI (u 1 (u 17 p)) = c)) && decide (hmf u p = 0) then 1 else 0) i))), some (.int (nI i))] [] (mv_E (mv_u z 68 0 0)) := by
      intro k
      induction k with
      | zero =>
        intro i hi
        refine mv_iload_n C rfl rfl ?_
        refine mv_aload_n C rfl rfl ?_
        refine mv_getJ C rfl rfl rfl hn ?_
        refine mv_icmp_ge C rfl (fun c31 => ?_) (fun c31 => ?_)
        · refine mv_iload_n C rfl rfl ?_
          refine mv_ireturn C rfl mv_okI ?_ ?_
          all_goals (first | rfl | (rw [show i = u 16 0 by omega]))
        · exact absurd (nI_le (by omega) (by omega)) c31
      | succ k ih =>
        intro i hi2
        have e := ih (i + 1) (by omega)
        simp only [hsum] at e
        have R1 := r_unfit _ u i (by omega) h0 hi
        have hp : u 17 i < u 0 0 := hh i (by omega)
        have hm := hmf_le u i
        have st : ∀ x : Int32, x = nI (bif (decide (c < 0) || decide (nI (u 1 (u 17 i)) = c)) && decide (hmf u i = 0) then 1 else 0) → V 67 [some (.ref 68), some (.int c), some (.int (nI (hsum (fun p => bif (decide (c < 0) || decide (nI (u 1 (u 17 p)) = c)) && decide (hmf u p = 0) then 1 else 0) i))), some (.int (nI i))] [.int x, .int (nI (hsum (fun p => bif (decide (c < 0) || decide (nI (u 1 (u 17 p)) = c)) && decide (hmf u p = 0) then 1 else 0) i))] (mv_E (mv_u z 68 0 0)) := by
          intro x hx
          subst hx
          refine mv_iadd C rfl ?_
          refine mv_top (nI_add _ _) ?_
          refine mv_is_n2 C rfl rfl ?_
          refine mv_inc3 C rfl rfl ?_
          refine mv_goto C rfl ?_
          simp only [nI_1]
          exact e
        refine mv_iload_n C rfl rfl ?_
        refine mv_aload_n C rfl rfl ?_
        refine mv_getJ C rfl rfl rfl hn ?_
        refine mv_icmp_ge C rfl (fun c31 => ?_) (fun c31 => ?_)
        · exact absurd c31 (nI_ge (by omega) (by omega))
        · refine mv_iload_n C rfl rfl ?_
          refine mv_aload_n C rfl rfl ?_
          refine mv_iload_n C rfl rfl ?_
          refine mv_cV C rfl (mv_up R1 rfl) (by decide) rfl rfl rfl (Nat.le_of_ble_eq_true rfl) (Nat.le_refl _) (Nat.le_refl _) rfl ?_
          refine mv_if_ne C rfl (fun c40 => ?_) (fun c40 => ?_)
          · have h3 : ¬ hmf u i = 0 := fun q => c40 (by rw [q]; rfl)
            refine mv_iconst C rfl ?_
            refine st _ ?_
            clear st
            first | (simp [*]; done) | (simp [*]; rfl)
          · have h3 : hmf u i = 0 := (nI_eq (b := 0) (by omega) (by decide)).mp c40
            refine mv_iload_n C rfl rfl ?_
            refine mv_if_lt C rfl (fun c44 => ?_) (fun c44 => ?_)
            · refine mv_iconst C rfl ?_
              refine mv_goto C rfl ?_
              refine st _ ?_
              clear st
              first | (simp [*]; done) | (simp [*]; rfl)
            · refine mv_aload_n C rfl rfl ?_
              refine mv_getR C rfl rfl rfl ?_
              refine mv_aload_n C rfl rfl ?_
              refine mv_getR C rfl rfl rfl ?_
              refine mv_iload_n C rfl rfl ?_
              refine mv_aldJ C rfl rfl rfl (by omega) (rM_a h0 86 17 (by decide) i) ?_
              refine mv_aldJ C rfl rfl rfl (by omega) (rM_a h0 69 1 (by decide) _) ?_
              refine mv_iload_n C rfl rfl ?_
              refine mv_icmp_ne C rfl (fun c59 => ?_) (fun c59 => ?_)
              · refine mv_iconst C rfl ?_
                refine st _ ?_
                clear st
                first | (simp [*]; done) | (simp [*]; rfl)
              · refine mv_iconst C rfl ?_
                refine mv_goto C rfl ?_
                refine st _ ?_
                clear st
                first | (simp [*]; done) | (simp [*]; rfl)
    refine mv_aload_n C rfl rfl ?_
    refine mv_iconst C rfl ?_
    refine mv_putI C rfl rfl rfl rfl ?_
    refine mv_iload_n C rfl rfl ?_
    refine mv_i2l C rfl ?_
    refine mv_ldc2_w C rfl ?_
    refine mv_ldc2_w C rfl ?_
    refine mv_cS C rfl (mv_up R0 rfl) (by decide) rfl (Nat.le_of_ble_eq_true rfl) (Nat.le_refl _) (Nat.le_refl _) rfl ?_
    refine mv_if_ne C rfl (fun c16 => ?_) (fun c16 => ?_)
    · refine mv_iconst C rfl ?_
      refine mv_is_n2 C rfl rfl ?_
      refine mv_iconst C rfl ?_
      refine mv_is_n3 C rfl rfl ?_
      exact loop (u 16 0) 0 (by omega)
    · exact absurd c16 (by decide)
  · rw [if_neg hc] at R0
    have ea : a_many u c = -2 := by
      unfold a_many
      rw [if_neg (fun q => hc (by rw [q]; decide)), if_neg (fun q => hc ⟨by have := q.1; rw [i32_le, i32_0] at this; rw [i32_le, i32_m1]; omega, by have := q.2; rw [i32_lt, i32_6] at this; rw [i32_le, i32_5]; omega⟩)]
    rw [ea]
    refine mv_start pX11_many (some .int) [some (.ref 68), some (.int c), none, none] rfl rfl rfl rfl (fun V C => ?_)
    refine mv_aload_n C rfl rfl ?_
    refine mv_iconst C rfl ?_
    refine mv_putI C rfl rfl rfl rfl ?_
    refine mv_iload_n C rfl rfl ?_
    refine mv_i2l C rfl ?_
    refine mv_ldc2_w C rfl ?_
    refine mv_ldc2_w C rfl ?_
    refine mv_cS C rfl (mv_up R0 rfl) (by decide) rfl (Nat.le_of_ble_eq_true rfl) (Nat.le_refl _) (Nat.le_refl _) rfl ?_
    refine mv_if_ne C rfl (fun c16 => ?_) (fun c16 => ?_)
    · exact absurd rfl c16
    · refine mv_bipush C rfl ?_
      refine mv_ireturn C rfl mv_okI ?_ ?_
      all_goals rfl
end
end
section
section
theorem mv_uu {z : mv_Z} {c i : Nat} {x y : Int32} : mv_u (mv_u z c i x) c i y = mv_u z c i y := by
  unfold mv_u
  congr 1
  funext k
  by_cases h : k = c
  · subst h; simp only [va_up, if_true]; funext j; by_cases e : j = i <;> simp [upd, e]
  · simp [va_up, h]
theorem mv_uc {z : mv_Z} {a b i j : Nat} {x y : Int32} (h : ¬ a = b) : mv_u (mv_u z a i x) b j y = mv_u (mv_u z b j y) a i x := by
  unfold mv_u
  have h2 : ¬ b = a := fun e => h e.symm
  congr 1
  funext k
  by_cases e : k = a
  · subst e; simp [va_up, h]
  · by_cases e2 : k = b
    · subst e2; simp [va_up, e]
    · simp [va_up, e, e2]
/-- the four signs of an int -/
def byt (v : Int32) (i : Nat) : Nat := v.toBitVec.toNat / 2 ^ (24 - 8 * i) % 256
theorem byt_lt (v : Int32) (i : Nat) : byt v i < 256 := Nat.mod_lt _ (by decide)
theorem byt_u (v : Int32) (i : Nat) (hi : i < 4) : (v.toUInt32 >>> ((nI (24 - 8 * i)).toUInt32 &&& Int32.toUInt32 31)).toInt32 &&& 255 = nI (byt v i) := by
  rw [pk_and _ 8 (by decide), pk_ushr v _ (24 - 8 * i) (s_u _ (by omega))]
  rfl
theorem byt_s (v : Int32) (i : Nat) (hi : i < 4) : (v >>> (nI (24 - 8 * i) &&& 31)) &&& 255 = nI (byt v i) := by
  rw [← byt_u v i hi]
  apply hb_ext
  intro j hj
  rw [hb_and, hb_and, hb_sshr _ (by omega) v hj, hb_ushr _ (by omega) v j, hb_255]
  by_cases h : j < 8
  · rw [if_pos (by omega)]
  · simp [h]
def f20 (u : hM) (v : Int32) (i : Nat) : Nat → Int32 := fun q => nI (if u 19 0 ≤ q ∧ q < u 19 0 + i then byt v (q - u 19 0) else u 20 q)
theorem f20_step (u : hM) (v : Int32) (i : Nat) : upd (f20 u v i) (u 19 0 + i) (nI (byt v i)) = f20 u v (i + 1) := by
  funext q
  by_cases e : q = u 19 0 + i
  · subst e
    simp only [upd, if_true, f20]
    rw [if_pos (by omega), show u 19 0 + i - u 19 0 = i by omega]
  · simp only [upd, e, if_false, f20]
    by_cases h : u 19 0 ≤ q ∧ q < u 19 0 + i
    · rw [if_pos h, if_pos (by omega)]
    · rw [if_neg h, if_neg (by omega)]
def h20 (u : hM) (v : Int32) : hM := fun k i => if k = 20 then (if u 19 0 ≤ i ∧ i < u 19 0 + 4 then byt v (i - u 19 0) else u 20 i) else u k i
def a_sign (u : hM) (v : Int32) : Int32 := if u 19 0 ≤ 96 then nI (u 19 0 + 4) else -1
def o_sign (u : hM) (v : Int32) : hM := if u 19 0 ≤ 96 then hu (h20 u v) 19 0 (u 19 0 + 4) else u
def shf (i : Nat) : Int32 := ([24, 16, 8, 0, -8] : List Int32).getD i 0
theorem shf_n : ∀ i, i < 4 → shf i = nI (24 - 8 * i) ∧ ¬ shf i < 0 ∧ shf i + (-8) = shf (i + 1) := by decide
theorem r_addFour (z : mv_Z) (u : hM) (v : Int32) (h96 : u 19 0 ≤ 96) (hn : z.1 27 1 = nI (u 19 0)) (hs : z.1 28 = fun i => nI (u 20 i)) : mv_Runs 1 69 [.ref 27, .int v] (mv_E z) (some (.int (nI (u 19 0 + 4)))) (mv_E (mv_u (mv_w z 28 (f20 u v 4)) 27 1 (nI (u 19 0 + 4)))) := by
  refine mv_start pX9_addFour (some .int) [some (.ref 27), some (.int v), none] rfl rfl rfl rfl (fun V C => ?_)
  have loop : ∀ (k i : Nat), i + k = 4 → V 16 [some (.ref 27), some (.int v), some (.int (shf i))] [] (mv_E (mv_u (mv_w z 28 (f20 u v i)) 27 1 (nI (u 19 0 + i)))) := by
    intro k
    induction k with
    | zero =>
      intro i hi
      obtain rfl : i = 4 := by omega
      refine mv_iload_n C rfl rfl ?_
      refine mv_if_lt C rfl (fun c17 => ?_) (fun c17 => ?_)
      · refine mv_aload_n C rfl rfl ?_
        refine mv_getJ C rfl rfl rfl mv_u_eq ?_
        refine mv_ireturn C rfl mv_okI ?_ ?_
        all_goals rfl
      · exact absurd (show shf 4 < 0 by decide) c17
    | succ k ih =>
      intro i hi
      obtain ⟨s1, s2, s3⟩ := shf_n i (by omega)
      have e := ih (i + 1) (by omega)
      rw [← f20_step, ← s3, show u 19 0 + (i + 1) = u 19 0 + i + 1 by omega] at e
      refine mv_iload_n C rfl rfl ?_
      refine mv_if_lt C rfl (fun c17 => ?_) (fun c17 => ?_)
      · exact absurd c17 s2
      · refine mv_aload_n C rfl rfl ?_
        refine mv_getR C rfl rfl rfl ?_
        refine mv_aload_n C rfl rfl ?_
        refine mv_getJ C rfl rfl rfl mv_u_eq ?_
        refine mv_iload_n C rfl rfl ?_
        refine mv_iload_n C rfl rfl ?_
        refine mv_iushr C rfl ?_
        refine mv_sipush C rfl ?_
        refine mv_iand C rfl ?_
        refine mv_top (show _ = nI (byt v i) from ?_) ?_
        · (rw [s1]; exact byt_u v i (by omega))
        refine mv_ast C rfl rfl rfl (by omega) ?_
        refine mv_sto (z1 := mv_u (mv_w z 28 (upd (f20 u v i) (u 19 0 + i) (nI (byt v i)))) 27 1 (nI (u 19 0 + i))) (by rw [mv_uc (by decide), mv_uw]) ?_
        refine mv_aload_n C rfl rfl ?_
        refine mv_dup C rfl rfl ?_
        refine mv_getJ C rfl rfl rfl mv_u_eq ?_
        refine mv_iconst C rfl ?_
        refine mv_iadd C rfl ?_
        refine mv_top (nI_1 _) ?_
        refine mv_putI C rfl rfl rfl rfl ?_
        refine mv_sto mv_uu ?_
        refine mv_inc2 C rfl rfl ?_
        refine mv_goto C rfl ?_
        exact e
  have z0 : mv_u (mv_w z 28 (f20 u v 0)) 27 1 (nI (u 19 0 + 0)) = z := by
    have e1 : f20 u v 0 = z.1 28 := by rw [hs]; funext q; simp only [f20]; rw [if_neg (by omega)]
    rw [e1, mv_w_self, Nat.add_zero, ← hn]
    unfold mv_u
    congr 1
    funext k
    by_cases h : k = 27
    · subst h; simp only [va_up, if_true]; funext j; by_cases q : j = 1 <;> simp [upd, q]
    · simp [va_up, h]
  refine mv_aload_n C rfl rfl ?_
  refine mv_getJ C rfl rfl rfl hn ?_
  refine mv_iconst C rfl ?_
  refine mv_iadd C rfl ?_
  refine mv_top (nI_add _ 4) ?_
  refine mv_bipush C rfl ?_
  refine mv_icmp_le C rfl (fun c8 => ?_) (fun c8 => ?_)
  · refine mv_bipush C rfl ?_
    refine mv_is_n2 C rfl rfl ?_
    have l0 := loop 4 0 (by omega)
    rw [z0] at l0
    exact l0
  · exact absurd (nI_le (b := 100) (by omega) (by decide)) c8
theorem r_addFour_no (z : mv_Z) (n : Nat) (v : Int32) (h96 : 96 < n) (h100 : n ≤ 100) (hn : z.1 27 1 = nI n) : mv_Runs 1 69 [.ref 27, .int v] (mv_E z) (some (.int (-1))) (mv_E z) := by
  refine mv_start pX9_addFour (some .int) [some (.ref 27), some (.int v), none] rfl rfl rfl rfl (fun V C => ?_)
  refine mv_aload_n C rfl rfl ?_
  refine mv_getJ C rfl rfl rfl hn ?_
  refine mv_iconst C rfl ?_
  refine mv_iadd C rfl ?_
  refine mv_top (nI_add _ 4) ?_
  refine mv_bipush C rfl ?_
  refine mv_icmp_le C rfl (fun c8 => ?_) (fun c8 => ?_)
  · exact absurd c8 (nI_ge (a := 100) (by omega) (by omega))
  · refine mv_iconst C rfl ?_
    refine mv_ireturn C rfl mv_okI ?_ ?_
    all_goals rfl
theorem x_sign (u : hM) (z : mv_Z) (v : Int32) (hi : hI u) (hz : rX u z) : xR 96 [.int v] u z (.int (a_sign u v)) (o_sign u v) := by
  have hn := rX_s hz 27 1 19 (by decide)
  have h100 : u 19 0 ≤ 100 := hi.2.2.2.2.2.2.2.2.2.2.2.2.2.2.1
  unfold a_sign o_sign
  by_cases hc : u 19 0 ≤ 96
  · rw [if_pos hc, if_pos hc]
    have R := r_addFour z u v hc hn (funext fun i => rX_a hz 28 20 (by decide) i)
    refine ⟨_, mv_up (d := 2) (S1 := mv_E (mv_u (mv_w z 28 (f20 u v 4)) 27 1 (nI (u 19 0 + 4)))) ?_ rfl, ?_, fX_u (fX_w fX_rf (by decide)) (by decide)⟩
    · refine mv_start pX10_sign (some .int) [some (.ref 0), some (.int v)] rfl rfl rfl rfl (fun V C => ?_)
      refine mv_aload_n C rfl rfl ?_
      refine mv_getR C rfl rfl rfl ?_
      refine mv_iload_n C rfl rfl ?_
      refine mv_cV C rfl R (by decide) rfl rfl rfl (Nat.le_of_ble_eq_true rfl) (Nat.le_refl _) (Nat.le_refl _) rfl ?_
      refine mv_ireturn C rfl mv_okI ?_ ?_
      all_goals rfl
    · have := rX_w (u1 := h20 u v) hz 28 20 (by decide) (by decide) (fun k hk => by funext i; simp [h20, hk])
      have e : (fun i => nI (h20 u v 20 i)) = f20 u v 4 := by funext q; simp [h20, f20]
      rw [e] at this
      exact rX_sc this 27 1 19 _ (by decide)
  · rw [if_neg hc, if_neg hc]
    have R := r_addFour_no z _ v (by omega) h100 hn
    refine ⟨_, mv_up (d := 2) (S1 := mv_E z) ?_ rfl, hz, fX_rf⟩
    refine mv_start pX10_sign (some .int) [some (.ref 0), some (.int v)] rfl rfl rfl rfl (fun V C => ?_)
    refine mv_aload_n C rfl rfl ?_
    refine mv_getR C rfl rfl rfl ?_
    refine mv_iload_n C rfl rfl ?_
    refine mv_cV C rfl R (by decide) rfl rfl rfl (Nat.le_of_ble_eq_true rfl) (Nat.le_refl _) (Nat.le_refl _) rfl ?_
    refine mv_ireturn C rfl mv_okI ?_ ?_
    all_goals rfl
theorem m_sign (u : hM) (z : mv_Z) (v : Int32) (hi : hI u) (hz : rM u z) : mR 155 [.int v] u z (.int (a_sign u v)) (o_sign u v) := by
  have h0 := rM_free hz 68 0 0 (Or.inr ⟨rfl, by decide⟩)
  have hn := rM_s h0 27 19 (by decide)
  have h100 : u 19 0 ≤ 100 := hi.2.2.2.2.2.2.2.2.2.2.2.2.2.2.1
  unfold a_sign o_sign
  by_cases hc : u 19 0 ≤ 96
  · rw [if_pos hc, if_pos hc]
    refine ⟨_, mv_up (d := 2) (S1 := mv_E (mv_u (mv_w (mv_u z 68 0 0) 88 (f20 u v 4)) 68 27 (nI (u 19 0 + 4)))) ?_ rfl, ?_, fM_u (fM_w (fM_u fM_rf (by decide)) (by decide)) (by decide)⟩
    · refine mv_start pX11_sign (some .int) [some (.ref 68), some (.int v), none] rfl rfl rfl rfl (fun V C => ?_)
      have loop : ∀ (k i : Nat), i + k = 4 → V 18 [some (.ref 68), some (.int v), some (.int (nI i))] [] (mv_E (mv_w (mv_u z 68 0 0) 88 (f20 u v i))) := by
        intro k
        induction k with
        | zero =>
          intro i hi
          obtain rfl : i = 4 := by omega
          refine mv_iload_n C rfl rfl ?_
          refine mv_iconst C rfl ?_
          refine mv_icmp_ge C rfl (fun c20 => ?_) (fun c20 => ?_)
          · refine mv_aload_n C rfl rfl ?_
            refine mv_dup C rfl rfl ?_
            refine mv_getJ C rfl rfl rfl hn ?_
            refine mv_iconst C rfl ?_
            refine mv_iadd C rfl ?_
            refine mv_top (nI_add _ 4) ?_
            refine mv_putI C rfl rfl rfl rfl ?_
            refine mv_aload_n C rfl rfl ?_
            refine mv_getJ C rfl rfl rfl mv_u_eq ?_
            refine mv_ireturn C rfl mv_okI ?_ ?_
            all_goals rfl
          · exact absurd (by decide) c20
        | succ k ih =>
          intro i hi
          have e := ih (i + 1) (by omega)
          rw [← f20_step, ← mv_uw] at e
          refine mv_iload_n C rfl rfl ?_
          refine mv_iconst C rfl ?_
          refine mv_icmp_ge C rfl (fun c20 => ?_) (fun c20 => ?_)
          · exact absurd c20 (nI_ge (b := 4) (by omega) (by decide))
          · refine mv_aload_n C rfl rfl ?_
            refine mv_getR C rfl rfl rfl ?_
            refine mv_aload_n C rfl rfl ?_
            refine mv_getJ C rfl rfl rfl hn ?_
            refine mv_iload_n C rfl rfl ?_
            refine mv_iadd C rfl ?_
            refine mv_top (nI_add _ _) ?_
            refine mv_iload_n C rfl rfl ?_
            refine mv_bipush C rfl ?_
            refine mv_bipush C rfl ?_
            refine mv_iload_n C rfl rfl ?_
            refine mv_imul C rfl ?_
            refine mv_top (pk_mul 8 _) ?_
            refine mv_isub C rfl ?_
            refine mv_top (pk_sub (a := 24) (by omega)) ?_
            refine mv_ishr C rfl ?_
            refine mv_sipush C rfl ?_
            refine mv_iand C rfl ?_
            refine mv_top (byt_s v i (by omega)) ?_
            refine mv_ast C rfl rfl rfl (by omega) ?_
            refine mv_inc2 C rfl rfl ?_
            refine mv_goto C rfl ?_
            simp only [nI_1]
            exact e
      have z0 : mv_w (mv_u z 68 0 0) 88 (f20 u v 0) = mv_u z 68 0 0 := by
        have e1 : f20 u v 0 = (mv_u z 68 0 0).1 88 := by funext q; rw [rM_a h0 88 20 (by decide) q]; simp only [f20]; rw [if_neg (by omega)]
        rw [e1, mv_w_self]
      refine mv_aload_n C rfl rfl ?_
      refine mv_iconst C rfl ?_
      refine mv_putI C rfl rfl rfl rfl ?_
      refine mv_aload_n C rfl rfl ?_
      refine mv_getJ C rfl rfl rfl hn ?_
      refine mv_bipush C rfl ?_
      refine mv_icmp_le C rfl (fun c11 => ?_) (fun c11 => ?_)
      · refine mv_iconst C rfl ?_
        refine mv_is_n2 C rfl rfl ?_
        have l0 := loop 4 0 (by omega)
        rw [z0] at l0
        exact l0
      · exact absurd (nI_le (b := 96) (by omega) (by decide)) c11
    · have := rM_w (u1 := h20 u v) h0 88 20 (by decide) (fun k hk => by funext i; simp [h20, hk])
      have e : (fun i => nI (h20 u v 20 i)) = f20 u v 4 := by funext q; simp [h20, f20]
      rw [e] at this
      exact rM_sc this 27 19 _ (by decide)
  · rw [if_neg hc, if_neg hc]
    refine ⟨_, mv_up (d := 2) (S1 := mv_E (mv_u z 68 0 0)) ?_ rfl, h0, fM_u fM_rf (by decide)⟩
    refine mv_start pX11_sign (some .int) [some (.ref 68), some (.int v), none] rfl rfl rfl rfl (fun V C => ?_)
    refine mv_aload_n C rfl rfl ?_
    refine mv_iconst C rfl ?_
    refine mv_putI C rfl rfl rfl rfl ?_
    refine mv_aload_n C rfl rfl ?_
    refine mv_getJ C rfl rfl rfl hn ?_
    refine mv_bipush C rfl ?_
    refine mv_icmp_le C rfl (fun c11 => ?_) (fun c11 => ?_)
    · exact absurd c11 (nI_ge (a := 96) (by omega) (by omega))
    · refine mv_iconst C rfl ?_
      refine mv_ireturn C rfl mv_okI ?_ ?_
      all_goals rfl
-- end
def a_end (u : hM) (n : Int32) : Int32 := if 0 ≤ n ∧ n ≤ nI (u 19 0) then 1 else 0
def o_end (u : hM) (n : Int32) : hM := if 0 ≤ n ∧ n ≤ nI (u 19 0) then hu u 19 0 n.toNatClampNeg else u
theorem r_cut (z : mv_Z) (n : Int32) (k : Nat) (hn : z.1 27 1 = nI k) : mv_Runs 1 70 [.ref 27, .int n] (mv_E z) (some (.int (if 0 ≤ n ∧ n ≤ nI k then 1 else 0))) (mv_E (if 0 ≤ n ∧ n ≤ nI k then mv_u z 27 1 n else z)) := by
  refine mv_start pX9_cut (some .boolean) [some (.ref 27), some (.int n)] rfl rfl rfl rfl (fun V C => ?_)
  refine mv_iload_n C rfl rfl ?_
  refine mv_if_lt C rfl (fun c1 => ?_) (fun c1 => ?_)
  · have hq : ¬ (0 ≤ n ∧ n ≤ nI k) := fun q => by (have := q.1; rw [i32_le] at this; rw [i32_lt] at c1; omega)
    refine mv_iconst C rfl ?_
    refine mv_ireturn C rfl (by first | exact mv_okZ1 | exact mv_okZ0) ?_ ?_
    all_goals first | (rw [if_pos hq]) | (rw [if_neg hq])
  · refine mv_iload_n C rfl rfl ?_
    refine mv_aload_n C rfl rfl ?_
    refine mv_getJ C rfl rfl rfl hn ?_
    refine mv_icmp_le C rfl (fun c9 => ?_) (fun c9 => ?_)
    · have hq : 0 ≤ n ∧ n ≤ nI k := ⟨by (rw [i32_lt] at c1; rw [i32_le]; omega), c9⟩
      refine mv_aload_n C rfl rfl ?_
      refine mv_iload_n C rfl rfl ?_
      refine mv_putI C rfl rfl rfl rfl ?_
      refine mv_iconst C rfl ?_
      refine mv_ireturn C rfl (by first | exact mv_okZ1 | exact mv_okZ0) ?_ ?_
      all_goals first | (rw [if_pos hq]) | (rw [if_neg hq])
    · have hq : ¬ (0 ≤ n ∧ n ≤ nI k) := fun q => c9 q.2
      refine mv_iconst C rfl ?_
      refine mv_ireturn C rfl (by first | exact mv_okZ1 | exact mv_okZ0) ?_ ?_
      all_goals first | (rw [if_pos hq]) | (rw [if_neg hq])
theorem x_end (u : hM) (z : mv_Z) (n : Int32) (hi : hI u) (hz : rX u z) : xR 97 [.int n] u z (.int (a_end u n)) (o_end u n) := by
  have hn := rX_s hz 27 1 19 (by decide)
  have R := r_cut z n _ hn
  unfold a_end o_end
  refine ⟨_, mv_up (d := 2) (S1 := mv_E (if 0 ≤ n ∧ n ≤ nI (u 19 0) then mv_u z 27 1 n else z)) ?_ rfl, ?_, ?_⟩
  · refine mv_start pX10_end (some .boolean) [some (.ref 0), some (.int n)] rfl rfl rfl rfl (fun V C => ?_)
    refine mv_aload_n C rfl rfl ?_
    refine mv_getR C rfl rfl rfl ?_
    refine mv_iload_n C rfl rfl ?_
    refine mv_cV C rfl R (by decide) rfl rfl rfl (Nat.le_of_ble_eq_true rfl) (Nat.le_refl _) (Nat.le_refl _) rfl ?_
    refine mv_ireturn C rfl mv_okZi ?_ ?_
    all_goals rfl
  · by_cases hc : 0 ≤ n ∧ n ≤ nI (u 19 0)
    · rw [if_pos hc, if_pos hc]
      have e := nI_nn hc.1
      generalize n.toNatClampNeg = k at *
      subst e
      exact rX_sc hz 27 1 19 _ (by decide)
    · rw [if_neg hc, if_neg hc]; exact hz
  · split
    · exact fX_u fX_rf (by decide)
    · exact fX_rf
theorem m_end (u : hM) (z : mv_Z) (n : Int32) (hi : hI u) (hz : rM u z) : mR 156 [.int n] u z (.int (a_end u n)) (o_end u n) := by
  have h0 := rM_free hz 68 0 0 (Or.inr ⟨rfl, by decide⟩)
  have hn := rM_s h0 27 19 (by decide)
  have h100 : u 19 0 ≤ 100 := hi.2.2.2.2.2.2.2.2.2.2.2.2.2.2.1
  have R0 := r_inI (mv_u z 68 0 0) n 0 (nI (u 19 0)).toInt64 (0 ≤ n ∧ n ≤ nI (u 19 0)) (by rw [Int32.toInt_toInt64, i32_le, i32_le, i32_0, l64_0])
  unfold a_end o_end
  refine ⟨_, mv_up (d := 2) (S1 := mv_E (if 0 ≤ n ∧ n ≤ nI (u 19 0) then mv_u (mv_u z 68 0 0) 68 27 n else mv_u z 68 0 0)) ?_ rfl, ?_, ?_⟩
  · by_cases hc : 0 ≤ n ∧ n ≤ nI (u 19 0)
    · rw [if_pos hc] at R0 ⊢
      rw [if_pos hc]
      refine mv_start pX11_end (some .boolean) [some (.ref 68), some (.int n)] rfl rfl rfl rfl (fun V C => ?_)
      refine mv_aload_n C rfl rfl ?_
      refine mv_iconst C rfl ?_
      refine mv_putI C rfl rfl rfl rfl ?_
      refine mv_iload_n C rfl rfl ?_
      refine mv_i2l C rfl ?_
      refine mv_lconst C rfl ?_
      refine mv_aload_n C rfl rfl ?_
      refine mv_getJ C rfl rfl rfl hn ?_
      refine mv_i2l C rfl ?_
      refine mv_cS C rfl R0 (by decide) rfl (Nat.le_of_ble_eq_true rfl) (Nat.le_refl _) (Nat.le_refl _) rfl ?_
      refine mv_if_ne C rfl (fun c16 => ?_) (fun c16 => ?_)
      · refine mv_aload_n C rfl rfl ?_
        refine mv_iload_n C rfl rfl ?_
        refine mv_putI C rfl rfl rfl rfl ?_
        refine mv_iconst C rfl ?_
        refine mv_ireturn C rfl mv_okZ1 ?_ ?_
        all_goals rfl
      · exact absurd c16 (by decide)
    · rw [if_neg hc] at R0 ⊢
      rw [if_neg hc]
      refine mv_start pX11_end (some .boolean) [some (.ref 68), some (.int n)] rfl rfl rfl rfl (fun V C => ?_)
      refine mv_aload_n C rfl rfl ?_
      refine mv_iconst C rfl ?_
      refine mv_putI C rfl rfl rfl rfl ?_
      refine mv_iload_n C rfl rfl ?_
      refine mv_i2l C rfl ?_
      refine mv_lconst C rfl ?_
      refine mv_aload_n C rfl rfl ?_
      refine mv_getJ C rfl rfl rfl hn ?_
      refine mv_i2l C rfl ?_
      refine mv_cS C rfl R0 (by decide) rfl (Nat.le_of_ble_eq_true rfl) (Nat.le_refl _) (Nat.le_refl _) rfl ?_
      refine mv_if_ne C rfl (fun c16 => ?_) (fun c16 => ?_)
      · exact absurd rfl c16
      · refine mv_iconst C rfl ?_
        refine mv_ireturn C rfl mv_okZ0 ?_ ?_
        all_goals rfl
  · by_cases hc : 0 ≤ n ∧ n ≤ nI (u 19 0)
    · rw [if_pos hc, if_pos hc]
      have e := nI_nn hc.1
      generalize n.toNatClampNeg = k at *
      subst e
      exact rM_sc h0 27 19 _ (by decide)
    · rw [if_neg hc, if_neg hc]; exact h0
  · split
    · exact fM_u (fM_u fM_rf (by decide)) (by decide)
    · exact fM_u fM_rf (by decide)
end
end
section
section
theorem rX_acts0 {u : hM} {z : mv_Z} (h : rX u z) : rX (hu u 21 0 0) (mv_u z 29 4 0) := by
  obtain ⟨h1, h2, h3, h4, h5, h6, h7, h8⟩ := h
  unfold rX
  rw [hu_self, hu_key (k1 := 7) (by decide), hu_key (k1 := 8) (by decide), hu_key (k1 := 14) (by decide), hu_key (k1 := 18) (by decide), hu_key (k1 := 27) (by decide), hu_key (k1 := 28) (by decide), hu_key (k1 := 30) (by decide), hu_key (k1 := 31) (by decide), hu_key (k1 := 1) (by decide)]
  rw [mv_u_ne (q := 3) (by decide), mv_u_ne (q := 23) (by decide), mv_u_ne (q := 26) (by decide), mv_u_ne (q := 31) (by decide), mv_u_ne (q := 67) (by decide)]
  exact ⟨rT_sc rOkX h1 (show (29, 4, 21) ∈ sX by decide) 0, h2, h3, h4, h5, fun a ha => absurd ha (by omega), h7, h8⟩
theorem rM_acts0 {u : hM} {z : mv_Z} (h : rM u z) : rM (hu u 21 0 0) (mv_u z 68 28 0) := by
  obtain ⟨h1, h3, h4, h6, h8⟩ := h
  unfold rM
  rw [hu_self, hu_key (k1 := 8) (by decide), hu_key (k1 := 14) (by decide), hu_key (k1 := 30) (by decide), hu_key (k1 := 31) (by decide)]
  rw [mv_u_sl (q := 68) (j := 9) (by decide), mv_u_ne (q := 84) (by decide), mv_u_ne (q := 82) (by decide)]
  exact ⟨rT_sc rOkM h1 (show (68, 28, 21) ∈ sM by decide) 0, h3, h4, fun a ha => absurd ha (by omega), h8⟩
theorem rX_claims {u : hM} {z : mv_Z} (h : rX u z) (n : Nat) (hn : ∀ c, c < n → z.1 31 c = nI (u 1 (u 28 c))) : rX (hu u 27 0 n) (mv_u z 29 5 (nI n)) := by
  obtain ⟨h1, h2, h3, h4, h5, h6, h7, h8⟩ := h
  unfold rX
  rw [hu_self, hu_key (k1 := 7) (by decide), hu_key (k1 := 8) (by decide), hu_key (k1 := 14) (by decide), hu_key (k1 := 18) (by decide), hu_key (k1 := 21) (by decide), hu_key (k1 := 22) (by decide), hu_key (k1 := 23) (by decide), hu_key (k1 := 24) (by decide), hu_key (k1 := 25) (by decide), hu_key (k1 := 26) (by decide), hu_key (k1 := 28) (by decide), hu_key (k1 := 30) (by decide), hu_key (k1 := 31) (by decide), hu_key (k1 := 1) (by decide)]
  rw [mv_u_ne (q := 3) (by decide), mv_u_ne (q := 23) (by decide), mv_u_ne (q := 26) (by decide), mv_u_ne (q := 31) (by decide), mv_u_ne (q := 67) (by decide)]
  refine ⟨rT_sc rOkX h1 (show (29, 5, 27) ∈ sX by decide) n, h2, h3, h4, h5, fun a ha => ?_, hn, h8⟩
  rw [mv_u_ne (q := 34 + 4 * a) (by omega), mv_u_ne (q := 35 + 4 * a) (by omega), mv_u_ne (q := 36 + 4 * a) (by omega), mv_u_ne (q := 37 + 4 * a) (by omega)]
  exact h6 a ha
theorem x_repeal (u : hM) (z : mv_Z) (hi : hI u) (hz : rX u z) : xR 99 [] u z (.int (nI (u 21 0))) (hu u 21 0 0) := by
  have hn := rX_s hz 29 4 21 (by decide)
  refine ⟨_, mv_up (d := 2) (S1 := mv_E (mv_u z 29 4 0)) ?_ rfl, rX_acts0 hz, fX_u fX_rf (by decide)⟩
  refine mv_start pX10_repeal (some .int) [some (.ref 0), none] rfl rfl rfl rfl (fun V C => ?_)
  refine mv_aload_n C rfl rfl ?_
  refine mv_getR C rfl rfl rfl ?_
  refine mv_getJ C rfl rfl rfl hn ?_
  refine mv_is_n1 C rfl rfl ?_
  refine mv_aload_n C rfl rfl ?_
  refine mv_getR C rfl rfl rfl ?_
  refine mv_iconst C rfl ?_
  refine mv_putI C rfl rfl rfl rfl ?_
  refine mv_iload_n C rfl rfl ?_
  refine mv_ireturn C rfl mv_okI ?_ ?_
  all_goals rfl
theorem m_repeal (u : hM) (z : mv_Z) (hi : hI u) (hz : rM u z) : mR 162 [] u z (.int (nI (u 21 0))) (hu u 21 0 0) := by
  have h0 := rM_free hz 68 0 0 (Or.inr ⟨rfl, by decide⟩)
  have hn := rM_s h0 28 21 (by decide)
  refine ⟨_, mv_up (d := 2) (S1 := mv_E (mv_u (mv_u z 68 0 0) 68 28 0)) ?_ rfl, rM_acts0 h0, fM_u (fM_u fM_rf (by decide)) (by decide)⟩
  refine mv_start pX11_repeal (some .int) [some (.ref 68), none] rfl rfl rfl rfl (fun V C => ?_)
  refine mv_aload_n C rfl rfl ?_
  refine mv_iconst C rfl ?_
  refine mv_putI C rfl rfl rfl rfl ?_
  refine mv_aload_n C rfl rfl ?_
  refine mv_getJ C rfl rfl rfl hn ?_
  refine mv_is_n1 C rfl rfl ?_
  refine mv_aload_n C rfl rfl ?_
  refine mv_iconst C rfl ?_
  refine mv_putI C rfl rfl rfl rfl ?_
  refine mv_iload_n C rfl rfl ?_
  refine mv_ireturn C rfl mv_okI ?_ ?_
  all_goals rfl
theorem x_waive (u : hM) (z : mv_Z) (hi : hI u) (hz : rX u z) : xR 103 [] u z (.int (nI (u 27 0))) (hu u 27 0 0) := by
  have hn := rX_s hz 29 5 27 (by decide)
  refine ⟨_, mv_up (d := 2) (S1 := mv_E (mv_u z 29 5 0)) ?_ rfl, rX_claims hz 0 (fun c hc => absurd hc (by omega)), fX_u fX_rf (by decide)⟩
  refine mv_start pX10_waive (some .int) [some (.ref 0), none] rfl rfl rfl rfl (fun V C => ?_)
  refine mv_aload_n C rfl rfl ?_
  refine mv_getR C rfl rfl rfl ?_
  refine mv_getJ C rfl rfl rfl hn ?_
  refine mv_is_n1 C rfl rfl ?_
  refine mv_aload_n C rfl rfl ?_
  refine mv_getR C rfl rfl rfl ?_
  refine mv_iconst C rfl ?_
  refine mv_putI C rfl rfl rfl rfl ?_
  refine mv_iload_n C rfl rfl ?_
  refine mv_ireturn C rfl mv_okI ?_ ?_
  all_goals rfl
theorem m_waive (u : hM) (z : mv_Z) (hi : hI u) (hz : rM u z) : mR 168 [] u z (.int (nI (u 27 0))) (hu u 27 0 0) := by
  have h0 := rM_free hz 68 0 0 (Or.inr ⟨rfl, by decide⟩)
  have hn := rM_s h0 36 27 (by decide)
  refine ⟨_, mv_up (d := 2) (S1 := mv_E (mv_u (mv_u z 68 0 0) 68 36 0)) ?_ rfl, rM_sc h0 36 27 0 (by decide), fM_u (fM_u fM_rf (by decide)) (by decide)⟩
  refine mv_start pX11_waive (some .int) [some (.ref 68), none] rfl rfl rfl rfl (fun V C => ?_)
  refine mv_aload_n C rfl rfl ?_
  refine mv_iconst C rfl ?_
  refine mv_putI C rfl rfl rfl rfl ?_
  refine mv_aload_n C rfl rfl ?_
  refine mv_getJ C rfl rfl rfl hn ?_
  refine mv_is_n1 C rfl rfl ?_
  refine mv_aload_n C rfl rfl ?_
  refine mv_iconst C rfl ?_
  refine mv_putI C rfl rfl rfl rfl ?_
  refine mv_iload_n C rfl rfl ?_
  refine mv_ireturn C rfl mv_okI ?_ ?_
  all_goals rfl
-- claim
def a_claim (u : hM) (p h : Int32) : Int32 := if (0 ≤ p ∧ p < nI (u 0 0)) ∧ (0 ≤ h ∧ h < 48) ∧ u 27 0 < 12 then nI (u 27 0) else -1
def o_claim (u : hM) (p h : Int32) : hM := if (0 ≤ p ∧ p < nI (u 0 0)) ∧ (0 ≤ h ∧ h < 48) ∧ u 27 0 < 12 then hu (hu (hu u 28 (u 27 0) p.toNatClampNeg) 29 (u 27 0) h.toNatClampNeg) 27 0 (u 27 0 + 1) else u
theorem r_lodge (z : mv_Z) (c h : Int32) (n : Nat) (hn : z.1 29 5 = nI n) (h12 : n ≤ 12) : mv_Runs 2 32 [.ref 29, .int c, .int h] (mv_E z) (some (.int (if (0 ≤ h ∧ h < 48) ∧ n < 12 then nI n else -1))) (mv_E (if (0 ≤ h ∧ h < 48) ∧ n < 12 then mv_u (mv_u (mv_u z 31 n c) 32 n h) 29 5 (nI (n + 1)) else z)) := by
  refine mv_start pX2_lodge (some .int) [some (.ref 29), some (.int c), some (.int h)] rfl rfl rfl rfl (fun V C => ?_)
  refine mv_iload_n C rfl rfl ?_
  refine mv_cS C rfl (r_isHour _ _) (by decide) rfl (Nat.le_of_ble_eq_true rfl) (Nat.le_refl _) (Nat.le_refl _) rfl ?_
  refine mv_if_eq C rfl (fun c4 => ?_) (fun c4 => ?_)
  · try simp only [b01, b10, Classical.not_not] at c4
    try simp (disch := omega) only [lit_0, lit_1, lit_2, lit_3, lit_4, lit_5, lit_6, lit_7, lit_8, lit_9, lit_10, lit_11, lit_12, lit_23, lit_24, lit_30, lit_31, lit_32, lit_39, lit_40, lit_41, lit_46, lit_47, lit_48, lit_96, lit_99, lit_100, lit_255, lit_999, lit_1000, lit_2024, lit_32767, lit_1000000, nI_ltI, nI_leI, nI_eq, Nat.not_lt, Nat.not_le] at c4
    try simp only [unl_0, unl_1, unl_2, unl_3, unl_4, unl_5, unl_6, unl_7, unl_8, unl_9, unl_10, unl_11, unl_12, unl_23, unl_24, unl_30, unl_31, unl_32, unl_39, unl_40, unl_41, unl_46, unl_47, unl_48, unl_96, unl_99, unl_100, unl_255, unl_999, unl_1000, unl_2024, unl_32767, unl_1000000] at c4
    refine mv_iconst C rfl ?_
    refine mv_ireturn C rfl mv_okI ?_ ?_
    all_goals (clear C; grind)
  · try simp only [b01, b10, Classical.not_not] at c4
    try simp (disch := omega) only [lit_0, lit_1, lit_2, lit_3, lit_4, lit_5, lit_6, lit_7, lit_8, lit_9, lit_10, lit_11, lit_12, lit_23, lit_24, lit_30, lit_31, lit_32, lit_39, lit_40, lit_41, lit_46, lit_47, lit_48, lit_96, lit_99, lit_100, lit_255, lit_999, lit_1000, lit_2024, lit_32767, lit_1000000, nI_ltI, nI_leI, nI_eq, Nat.not_lt, Nat.not_le] at c4
    try simp only [unl_0, unl_1, unl_2, unl_3, unl_4, unl_5, unl_6, unl_7, unl_8, unl_9, unl_10, unl_11, unl_12, unl_23, unl_24, unl_30, unl_31, unl_32, unl_39, unl_40, unl_41, unl_46, unl_47, unl_48, unl_96, unl_99, unl_100, unl_255, unl_999, unl_1000, unl_2024, unl_32767, unl_1000000] at c4
    refine mv_aload_n C rfl rfl ?_
    refine mv_getJ C rfl rfl rfl hn ?_
    refine mv_bipush C rfl ?_
    refine mv_icmp_lt C rfl (fun c13 => ?_) (fun c13 => ?_)
    · try simp only [b01, b10, Classical.not_not] at c13
      try simp (disch := omega) only [lit_0, lit_1, lit_2, lit_3, lit_4, lit_5, lit_6, lit_7, lit_8, lit_9, lit_10, lit_11, lit_12, lit_23, lit_24, lit_30, lit_31, lit_32, lit_39, lit_40, lit_41, lit_46, lit_47, lit_48, lit_96, lit_99, lit_100, lit_255, lit_999, lit_1000, lit_2024, lit_32767, lit_1000000, nI_ltI, nI_leI, nI_eq, Nat.not_lt, Nat.not_le] at c13
      try simp only [unl_0, unl_1, unl_2, unl_3, unl_4, unl_5, unl_6, unl_7, unl_8, unl_9, unl_10, unl_11, unl_12, unl_23, unl_24, unl_30, unl_31, unl_32, unl_39, unl_40, unl_41, unl_46, unl_47, unl_48, unl_96, unl_99, unl_100, unl_255, unl_999, unl_1000, unl_2024, unl_32767, unl_1000000] at c13
      refine mv_aload_n C rfl rfl ?_
      refine mv_getR C rfl rfl rfl ?_
      refine mv_aload_n C rfl rfl ?_
      refine mv_getJ C rfl rfl rfl hn ?_
      refine mv_iload_n C rfl rfl ?_
      refine mv_ast C rfl rfl rfl (by omega) ?_
      refine mv_aload_n C rfl rfl ?_
      refine mv_getR C rfl rfl rfl ?_
      refine mv_aload_n C rfl rfl ?_
      refine mv_getJ C rfl rfl rfl hn ?_
      refine mv_iload_n C rfl rfl ?_
      refine mv_ast C rfl rfl rfl (by omega) ?_
      refine mv_aload_n C rfl rfl ?_
      refine mv_dup C rfl rfl ?_
      refine mv_getJ C rfl rfl rfl hn ?_
      refine mv_iconst C rfl ?_
      refine mv_iadd C rfl ?_
      refine mv_top (nI_1 _) ?_
      refine mv_putI C rfl rfl rfl rfl ?_
      refine mv_aload_n C rfl rfl ?_
      refine mv_getJ C rfl rfl rfl (show _ = nI (n + 1) from rfl) ?_
      refine mv_iconst C rfl ?_
      refine mv_isub C rfl ?_
      refine mv_top (nI_pred _) ?_
      refine mv_ireturn C rfl mv_okI ?_ ?_
      all_goals (clear C; grind)
    · try simp only [b01, b10, Classical.not_not] at c13
      try simp (disch := omega) only [lit_0, lit_1, lit_2, lit_3, lit_4, lit_5, lit_6, lit_7, lit_8, lit_9, lit_10, lit_11, lit_12, lit_23, lit_24, lit_30, lit_31, lit_32, lit_39, lit_40, lit_41, lit_46, lit_47, lit_48, lit_96, lit_99, lit_100, lit_255, lit_999, lit_1000, lit_2024, lit_32767, lit_1000000, nI_ltI, nI_leI, nI_eq, Nat.not_lt, Nat.not_le] at c13
      try simp only [unl_0, unl_1, unl_2, unl_3, unl_4, unl_5, unl_6, unl_7, unl_8, unl_9, unl_10, unl_11, unl_12, unl_23, unl_24, unl_30, unl_31, unl_32, unl_39, unl_40, unl_41, unl_46, unl_47, unl_48, unl_96, unl_99, unl_100, unl_255, unl_999, unl_1000, unl_2024, unl_32767, unl_1000000] at c13
      refine mv_iconst C rfl ?_
      refine mv_ireturn C rfl mv_okI ?_ ?_
      all_goals (clear C; grind)
theorem rX_claim {u : hM} {z : mv_Z} (h : rX u z) (n p k : Nat) (hn : u 27 0 = n) : rX (hu (hu (hu u 28 n p) 29 n k) 27 0 (n + 1)) (mv_u (mv_u (mv_u z 31 n (nI (u 1 p))) 32 n (nI k)) 29 5 (nI (n + 1))) := by
  have e1 : rX (hu u 28 n p) (mv_u z 31 n (nI (u 1 p))) := by
    obtain ⟨h1, h2, h3, h4, h5, h6, h7, h8⟩ := h
    unfold rX
    rw [hu_key (k1 := 7) (by decide), hu_key (k1 := 8) (by decide), hu_key (k1 := 14) (by decide), hu_key (k1 := 18) (by decide), hu_key (k1 := 21) (by decide), hu_key (k1 := 22) (by decide), hu_key (k1 := 23) (by decide), hu_key (k1 := 24) (by decide), hu_key (k1 := 25) (by decide), hu_key (k1 := 26) (by decide), hu_key (k1 := 27) (by decide), hu_key (k1 := 30) (by decide), hu_key (k1 := 31) (by decide), hu_key (k1 := 1) (by decide)]
    rw [mv_u_ne (q := 3) (by decide), mv_u_ne (q := 23) (by decide), mv_u_ne (q := 26) (by decide), mv_u_ne (q := 67) (by decide)]
    refine ⟨rT_keys (rT_out h1 31 n _ (by decide) (fun q hq hh => (show ∀ q ∈ sX, q.1 ≠ 31 by decide) q hq hh.1)) (fun q hq => hu_key ((tX_keys q hq).2.2.2.2.2.2.2.2.2.2.2.1)) (fun q hq => by rw [hu_key ((show ∀ q ∈ sX, q.2.2 ≠ 28 by decide) q hq)]), h2, h3, h4, h5, fun a ha => ?_, fun c hc => ?_, h8⟩
    · rw [mv_u_ne (q := 34 + 4 * a) (by omega), mv_u_ne (q := 35 + 4 * a) (by omega), mv_u_ne (q := 36 + 4 * a) (by omega), mv_u_ne (q := 37 + 4 * a) (by omega)]
      exact h6 a ha
    · have : ¬ c = n := by omega
      rw [mv_u_at this, hu_ix this]; exact h7 c hc
  have e2 := rX_arr e1 32 29 n k (by decide) (by decide)
  refine rX_claims e2 (n + 1) (fun c hc => ?_)
  rw [mv_u_ne (by decide), hu_key (k1 := 1) (by decide), hu_key (k1 := 1) (by decide), hu_key (k := 29) (k1 := 28) (by decide)]
  by_cases e : c = n
  · subst e; rw [mv_u_eq, hu_self]
  · rw [mv_u_at e, hu_ix e]
    exact h.2.2.2.2.2.2.1 c (by omega)
theorem x_claim (u : hM) (z : mv_Z) (p h : Int32) (hi : hI u) (hz : rX u z) : xR 100 [.int p, .int h] u z (.int (a_claim u p h)) (o_claim u p h) := by
  have hn := rX_s hz 3 6 0 (by decide)
  have hf := rX_s hz 29 5 27 (by decide)
  have h24 := hi.1
  have h12 : u 27 0 ≤ 12 := hi.2.2.2.2.2.2.2.2.2.2.2.2.2.2.2.2.2.2.1
  have R0 := r_hasParish z p
  rw [hn] at R0
  unfold a_claim o_claim
  by_cases hc : 0 ≤ p ∧ p < nI (u 0 0)
  · rw [if_pos hc] at R0
    have e := nI_rngc hc.1 hc.2 (by omega)
    generalize p.toNatClampNeg = k at *
    obtain ⟨hk, rfl⟩ := e
    have R1 := r_lodge z (nI (u 1 k)) h _ hf h12
    refine ⟨_, mv_up (d := 3) (S1 := mv_E (if (0 ≤ h ∧ h < 48) ∧ u 27 0 < 12 then mv_u (mv_u (mv_u z 31 (u 27 0) (nI (u 1 k))) 32 (u 27 0) h) 29 5 (nI (u 27 0 + 1)) else z)) ?_ rfl, ?_, ?_⟩
    · have e1 : (if (0 ≤ nI k ∧ nI k < nI (u 0 0)) ∧ (0 ≤ h ∧ h < 48) ∧ u 27 0 < 12 then nI (u 27 0) else -1) = (if (0 ≤ h ∧ h < 48) ∧ u 27 0 < 12 then nI (u 27 0) else -1) := by simp only [hc, and_self, true_and]
      rw [e1]
      refine mv_start pX10_claim (some .int) [some (.ref 0), some (.int (nI k)), some (.int h)] rfl rfl rfl rfl (fun V C => ?_)
      refine mv_aload_n C rfl rfl ?_
      refine mv_getR C rfl rfl rfl ?_
      refine mv_iload_n C rfl rfl ?_
      refine mv_cV C rfl (mv_up R0 rfl) (by decide) rfl rfl rfl (Nat.le_of_ble_eq_true rfl) (Nat.le_refl _) (Nat.le_refl _) rfl ?_
      refine mv_if_eq C rfl (fun c8 => ?_) (fun c8 => ?_)
      · exact absurd c8 (by decide)
      · refine mv_aload_n C rfl rfl ?_
        refine mv_getR C rfl rfl rfl ?_
        refine mv_aload_n C rfl rfl ?_
        refine mv_getR C rfl rfl rfl ?_
        refine mv_getR C rfl rfl rfl ?_
        refine mv_iload_n C rfl rfl ?_
        refine mv_aldJ C rfl rfl rfl (by omega) (rX_a hz 4 1 (by decide) k) ?_
        refine mv_iload_n C rfl rfl ?_
        refine mv_cV C rfl R1 (by decide) rfl rfl rfl (Nat.le_of_ble_eq_true rfl) (Nat.le_refl _) (Nat.le_refl _) rfl ?_
        refine mv_goto C rfl ?_
        refine mv_ireturn C rfl mv_okI ?_ ?_
        all_goals rfl
    · by_cases h2 : (0 ≤ h ∧ h < 48) ∧ u 27 0 < 12
      · rw [if_pos h2, if_pos (show (0 ≤ nI k ∧ nI k < nI (u 0 0)) ∧ (0 ≤ h ∧ h < 48) ∧ u 27 0 < 12 from ⟨hc, h2⟩)]
        have eh := nI_nn h2.1.1
        generalize h.toNatClampNeg = kh at *
        subst eh
        exact rX_claim hz _ _ _ rfl
      · rw [if_neg h2, if_neg (show ¬ ((0 ≤ nI k ∧ nI k < nI (u 0 0)) ∧ (0 ≤ h ∧ h < 48) ∧ u 27 0 < 12) from fun q => h2 q.2)]; exact hz
    · split
      · exact fX_u (fX_u (fX_u fX_rf (by decide)) (by decide)) (by decide)
      · exact fX_rf
  · rw [if_neg hc] at R0
    rw [if_neg (fun q => hc q.1), if_neg (fun q => hc q.1)]
    refine ⟨_, mv_up (d := 3) (S1 := mv_E z) ?_ rfl, hz, fX_rf⟩
    refine mv_start pX10_claim (some .int) [some (.ref 0), some (.int p), some (.int h)] rfl rfl rfl rfl (fun V C => ?_)
    refine mv_aload_n C rfl rfl ?_
    refine mv_getR C rfl rfl rfl ?_
    refine mv_iload_n C rfl rfl ?_
    refine mv_cV C rfl (mv_up R0 rfl) (by decide) rfl rfl rfl (Nat.le_of_ble_eq_true rfl) (Nat.le_refl _) (Nat.le_refl _) rfl ?_
    refine mv_if_eq C rfl (fun c8 => ?_) (fun c8 => ?_)
    · refine mv_iconst C rfl ?_
      refine mv_ireturn C rfl mv_okI ?_ ?_
      all_goals rfl
    · exact absurd rfl c8
theorem m_claim (u : hM) (z : mv_Z) (p h : Int32) (hi : hI u) (hz : rM u z) : mR 163 [.int p, .int h] u z (.int (a_claim u p h)) (o_claim u p h) := by
  have h0 := rM_free hz 68 0 0 (Or.inr ⟨rfl, by decide⟩)
  have hp := rM_s h0 1 0 (by decide)
  have hn := rM_s h0 36 27 (by decide)
  have h24 := hi.1
  have h12 : u 27 0 ≤ 12 := hi.2.2.2.2.2.2.2.2.2.2.2.2.2.2.2.2.2.2.1
  have R : mv_Runs 3 163 [.ref 68, .int p, .int h] (mv_E z) (some (.int (a_claim u p h))) (mv_E (if (0 ≤ p ∧ p < nI (u 0 0)) ∧ (0 ≤ h ∧ h < 48) ∧ u 27 0 < 12 then mv_u (mv_u (mv_u (mv_u z 68 0 0) 94 (u 27 0) p) 95 (u 27 0) h) 68 36 (nI (u 27 0 + 1)) else mv_u z 68 0 0)) := by
    unfold a_claim
    refine mv_start pX11_claim (some .int) [some (.ref 68), some (.int p), some (.int h)] rfl rfl rfl rfl (fun V C => ?_)
    refine mv_aload_n C rfl rfl ?_
    refine mv_iconst C rfl ?_
    refine mv_putI C rfl rfl rfl rfl ?_
    refine mv_aload_n C rfl rfl ?_
    refine mv_iload_n C rfl rfl ?_
    refine mv_cV C rfl (r_mIsParish _ _ _ hp h24) (by decide) rfl rfl rfl (Nat.le_of_ble_eq_true rfl) (Nat.le_refl _) (Nat.le_refl _) rfl ?_
    refine mv_if_eq C rfl (fun c10 => ?_) (fun c10 => ?_)
    · try simp only [b01, b10, Classical.not_not] at c10
      try simp (disch := omega) only [lit_0, lit_1, lit_2, lit_3, lit_4, lit_5, lit_6, lit_7, lit_8, lit_9, lit_10, lit_11, lit_12, lit_23, lit_24, lit_30, lit_31, lit_32, lit_39, lit_40, lit_41, lit_46, lit_47, lit_48, lit_96, lit_99, lit_100, lit_255, lit_999, lit_1000, lit_2024, lit_32767, lit_1000000, nI_ltI, nI_leI, nI_eq, Nat.not_lt, Nat.not_le] at c10
      try simp only [unl_0, unl_1, unl_2, unl_3, unl_4, unl_5, unl_6, unl_7, unl_8, unl_9, unl_10, unl_11, unl_12, unl_23, unl_24, unl_30, unl_31, unl_32, unl_39, unl_40, unl_41, unl_46, unl_47, unl_48, unl_96, unl_99, unl_100, unl_255, unl_999, unl_1000, unl_2024, unl_32767, unl_1000000] at c10
      refine mv_iconst C rfl ?_
      refine mv_ireturn C rfl mv_okI ?_ ?_
      all_goals (clear C; clear hi; grind)
    · try simp only [b01, b10, Classical.not_not] at c10
      try simp (disch := omega) only [lit_0, lit_1, lit_2, lit_3, lit_4, lit_5, lit_6, lit_7, lit_8, lit_9, lit_10, lit_11, lit_12, lit_23, lit_24, lit_30, lit_31, lit_32, lit_39, lit_40, lit_41, lit_46, lit_47, lit_48, lit_96, lit_99, lit_100, lit_255, lit_999, lit_1000, lit_2024, lit_32767, lit_1000000, nI_ltI, nI_leI, nI_eq, Nat.not_lt, Nat.not_le] at c10
      try simp only [unl_0, unl_1, unl_2, unl_3, unl_4, unl_5, unl_6, unl_7, unl_8, unl_9, unl_10, unl_11, unl_12, unl_23, unl_24, unl_30, unl_31, unl_32, unl_39, unl_40, unl_41, unl_46, unl_47, unl_48, unl_96, unl_99, unl_100, unl_255, unl_999, unl_1000, unl_2024, unl_32767, unl_1000000] at c10
      refine mv_iload_n C rfl rfl ?_
      refine mv_cS C rfl (r_mIsHour _ _) (by decide) rfl (Nat.le_of_ble_eq_true rfl) (Nat.le_refl _) (Nat.le_refl _) rfl ?_
      refine mv_if_eq C rfl (fun c17 => ?_) (fun c17 => ?_)
      · try simp only [b01, b10, Classical.not_not] at c17
        try simp (disch := omega) only [lit_0, lit_1, lit_2, lit_3, lit_4, lit_5, lit_6, lit_7, lit_8, lit_9, lit_10, lit_11, lit_12, lit_23, lit_24, lit_30, lit_31, lit_32, lit_39, lit_40, lit_41, lit_46, lit_47, lit_48, lit_96, lit_99, lit_100, lit_255, lit_999, lit_1000, lit_2024, lit_32767, lit_1000000, nI_ltI, nI_leI, nI_eq, Nat.not_lt, Nat.not_le] at c17
        try simp only [unl_0, unl_1, unl_2, unl_3, unl_4, unl_5, unl_6, unl_7, unl_8, unl_9, unl_10, unl_11, unl_12, unl_23, unl_24, unl_30, unl_31, unl_32, unl_39, unl_40, unl_41, unl_46, unl_47, unl_48, unl_96, unl_99, unl_100, unl_255, unl_999, unl_1000, unl_2024, unl_32767, unl_1000000] at c17
        refine mv_iconst C rfl ?_
        refine mv_ireturn C rfl mv_okI ?_ ?_
        all_goals (clear C; clear hi; grind)
      · try simp only [b01, b10, Classical.not_not] at c17
        try simp (disch := omega) only [lit_0, lit_1, lit_2, lit_3, lit_4, lit_5, lit_6, lit_7, lit_8, lit_9, lit_10, lit_11, lit_12, lit_23, lit_24, lit_30, lit_31, lit_32, lit_39, lit_40, lit_41, lit_46, lit_47, lit_48, lit_96, lit_99, lit_100, lit_255, lit_999, lit_1000, lit_2024, lit_32767, lit_1000000, nI_ltI, nI_leI, nI_eq, Nat.not_lt, Nat.not_le] at c17
        try simp only [unl_0, unl_1, unl_2, unl_3, unl_4, unl_5, unl_6, unl_7, unl_8, unl_9, unl_10, unl_11, unl_12, unl_23, unl_24, unl_30, unl_31, unl_32, unl_39, unl_40, unl_41, unl_46, unl_47, unl_48, unl_96, unl_99, unl_100, unl_255, unl_999, unl_1000, unl_2024, unl_32767, unl_1000000] at c17
        refine mv_aload_n C rfl rfl ?_
        refine mv_getJ C rfl rfl rfl hn ?_
        refine mv_bipush C rfl ?_
        refine mv_icmp_ne C rfl (fun c26 => ?_) (fun c26 => ?_)
        · try simp only [b01, b10, Classical.not_not] at c26
          try simp (disch := omega) only [lit_0, lit_1, lit_2, lit_3, lit_4, lit_5, lit_6, lit_7, lit_8, lit_9, lit_10, lit_11, lit_12, lit_23, lit_24, lit_30, lit_31, lit_32, lit_39, lit_40, lit_41, lit_46, lit_47, lit_48, lit_96, lit_99, lit_100, lit_255, lit_999, lit_1000, lit_2024, lit_32767, lit_1000000, nI_ltI, nI_leI, nI_eq, Nat.not_lt, Nat.not_le] at c26
          try simp only [unl_0, unl_1, unl_2, unl_3, unl_4, unl_5, unl_6, unl_7, unl_8, unl_9, unl_10, unl_11, unl_12, unl_23, unl_24, unl_30, unl_31, unl_32, unl_39, unl_40, unl_41, unl_46, unl_47, unl_48, unl_96, unl_99, unl_100, unl_255, unl_999, unl_1000, unl_2024, unl_32767, unl_1000000] at c26
          refine mv_aload_n C rfl rfl ?_
          refine mv_getR C rfl rfl rfl ?_
          refine mv_aload_n C rfl rfl ?_
          refine mv_getJ C rfl rfl rfl hn ?_
          refine mv_iload_n C rfl rfl ?_
          refine mv_ast C rfl rfl rfl (by omega) ?_
          refine mv_aload_n C rfl rfl ?_
          refine mv_getR C rfl rfl rfl ?_
          refine mv_aload_n C rfl rfl ?_
          refine mv_getJ C rfl rfl rfl hn ?_
          refine mv_iload_n C rfl rfl ?_
          refine mv_ast C rfl rfl rfl (by omega) ?_
          refine mv_aload_n C rfl rfl ?_
          refine mv_dup C rfl rfl ?_
          refine mv_getJ C rfl rfl rfl hn ?_
          refine mv_iconst C rfl ?_
          refine mv_iadd C rfl ?_
          refine mv_top (nI_1 _) ?_
          refine mv_putI C rfl rfl rfl rfl ?_
          refine mv_aload_n C rfl rfl ?_
          refine mv_getJ C rfl rfl rfl (show _ = nI (u 27 0 + 1) from rfl) ?_
          refine mv_iconst C rfl ?_
          refine mv_isub C rfl ?_
          refine mv_top (nI_pred _) ?_
          refine mv_ireturn C rfl mv_okI ?_ ?_
          all_goals (clear C; clear hi; grind)
        · try simp only [b01, b10, Classical.not_not] at c26
          try simp (disch := omega) only [lit_0, lit_1, lit_2, lit_3, lit_4, lit_5, lit_6, lit_7, lit_8, lit_9, lit_10, lit_11, lit_12, lit_23, lit_24, lit_30, lit_31, lit_32, lit_39, lit_40, lit_41, lit_46, lit_47, lit_48, lit_96, lit_99, lit_100, lit_255, lit_999, lit_1000, lit_2024, lit_32767, lit_1000000, nI_ltI, nI_leI, nI_eq, Nat.not_lt, Nat.not_le] at c26
          try simp only [unl_0, unl_1, unl_2, unl_3, unl_4, unl_5, unl_6, unl_7, unl_8, unl_9, unl_10, unl_11, unl_12, unl_23, unl_24, unl_30, unl_31, unl_32, unl_39, unl_40, unl_41, unl_46, unl_47, unl_48, unl_96, unl_99, unl_100, unl_255, unl_999, unl_1000, unl_2024, unl_32767, unl_1000000] at c26
          refine mv_iconst C rfl ?_
          refine mv_ireturn C rfl mv_okI ?_ ?_
          all_goals (clear C; clear hi; grind)
  refine ⟨_, mv_up R rfl, ?_, ?_⟩
  · unfold o_claim
    split
    · rename_i hc
      obtain ⟨⟨a1, a2⟩, ⟨b1, b2⟩, -⟩ := hc
      have ea := nI_nn a1
      have eb := nI_nn b1
      generalize p.toNatClampNeg = ka at *
      generalize h.toNatClampNeg = kb at *
      subst ea; subst eb
      exact rM_sc (rM_arr (rM_arr h0 94 28 _ _ (by decide)) 95 29 _ _ (by decide)) 36 27 _ (by decide)
    · exact h0
  · split
    · exact fM_u (fM_u (fM_u (fM_u fM_rf (by decide)) (by decide)) (by decide)) (by decide)
    · exact fM_u fM_rf (by decide)
end
end
section
section
/-- one ask of an act, of a claim with its number, hour and county -/
def hval (l n h c : Nat) : Nat := if l = 110 then n else if l = 104 then h else c
def hcmp (s v k : Nat) : Bool := if s = 60 then decide (v < k) else if s = 62 then decide (k < v) else decide (v = k)
def hask (u : hM) (a k n h c : Nat) : Bool := hcmp (u 24 (10 * a + k)) (hval (u 23 (10 * a + k)) n h c) (u 25 (10 * a + k))
/-- all asks from i on, k of them -/
def hall (g : Nat → Bool) : Nat → Nat → Bool
  | 0, _ => true
  | k + 1, i => g i && hall g k (i + 1)
def hfor (u : hM) (a n h c : Nat) : Bool := hall (fun k => hask u a k n h c) (u 22 a) 0
def hwf (g : Nat → Bool) (w : Nat → Nat) : Nat → Nat → Nat
  | 0, _ => 0
  | k + 1, i => bif g i then w i else hwf g w k (i + 1)
def hwt (u : hM) (n : Nat) : Nat := hwf (fun a => hfor u a n (u 29 n) (u 1 (u 28 n))) (u 26) (u 21 0) 0
theorem r_isSo (z : mv_Z) (s v k : Nat) (hs : s < 256) (hv : v < 2 ^ 31) (hk : k < 2 ^ 31) : mv_Runs 1 9 [.int (nI v), .int (nI s), .int (nI k)] (mv_E z) (some (.int (bif hcmp s v k then 1 else 0))) (mv_E z) := by
  unfold hcmp
  by_cases h1 : s = 60
  · subst h1
    rw [if_pos rfl]
    refine mv_start pX0_isSo (some .boolean) [some (.int (nI v)), some (.int (nI 60)), some (.int (nI k))] rfl rfl rfl rfl (fun V C => ?_)
    refine mv_iload_n C rfl rfl ?_
    refine mv_lsw C rfl rfl rfl ?_
    refine mv_iload_n C rfl rfl ?_
    refine mv_iload_n C rfl rfl ?_
    refine mv_icmp_ge C rfl (fun c30 => ?_) (fun c30 => ?_)
    · rw [nI_leI hk hv] at c30
      rw [decide_eq_false (show ¬ v < k by omega)] at C
      refine mv_iconst C rfl ?_
      refine mv_ireturn C rfl (by first | exact mv_okZ1 | exact mv_okZ0) ?_ ?_
      all_goals rfl
    · rw [nI_leI hk hv] at c30
      rw [decide_eq_true (show v < k by omega)] at C
      refine mv_iconst C rfl ?_
      refine mv_goto C rfl ?_
      refine mv_ireturn C rfl (by first | exact mv_okZ1 | exact mv_okZ0) ?_ ?_
      all_goals rfl
  · rw [if_neg h1]
    have n1 : ¬ nI s = 60 := fun q => h1 ((nI_eq (b := 60) (by omega) (by decide)).mp q)
    by_cases h2 : s = 62
    · subst h2
      rw [if_pos rfl]
      refine mv_start pX0_isSo (some .boolean) [some (.int (nI v)), some (.int (nI 62)), some (.int (nI k))] rfl rfl rfl rfl (fun V C => ?_)
      refine mv_iload_n C rfl rfl ?_
      refine mv_lsw C rfl rfl rfl ?_
      refine mv_iload_n C rfl rfl ?_
      refine mv_iload_n C rfl rfl ?_
      refine mv_icmp_le C rfl (fun c41 => ?_) (fun c41 => ?_)
      · rw [nI_leI hv hk] at c41
        rw [decide_eq_false (show ¬ k < v by omega)] at C
        refine mv_iconst C rfl ?_
        refine mv_ireturn C rfl (by first | exact mv_okZ1 | exact mv_okZ0) ?_ ?_
        all_goals rfl
      · rw [nI_leI hv hk] at c41
        rw [decide_eq_true (show k < v by omega)] at C
        refine mv_iconst C rfl ?_
        refine mv_goto C rfl ?_
        refine mv_ireturn C rfl (by first | exact mv_okZ1 | exact mv_okZ0) ?_ ?_
        all_goals rfl
    · rw [if_neg h2]
      have n2 : ¬ nI s = 62 := fun q => h2 ((nI_eq (b := 62) (by omega) (by decide)).mp q)
      refine mv_start pX0_isSo (some .boolean) [some (.int (nI v)), some (.int (nI s)), some (.int (nI k))] rfl rfl rfl rfl (fun V C => ?_)
      refine mv_iload_n C rfl rfl ?_
      refine mv_lsw C rfl (show _ = (49 : Int) by (show Op.lookupswitch.offset [((60 : Int), (27 : Int)), (62, 38)] 49 (nI s).toInt = 49; rw [lv_osw (a := 60) n1 rfl, lv_osw (a := 62) n2 rfl]; rfl)) rfl ?_
      refine mv_iload_n C rfl rfl ?_
      refine mv_iload_n C rfl rfl ?_
      refine mv_icmp_ne C rfl (fun c52 => ?_) (fun c52 => ?_)
      · rw [nI_eq hv hk] at c52
        rw [decide_eq_false c52] at C
        refine mv_iconst C rfl ?_
        refine mv_ireturn C rfl (by first | exact mv_okZ1 | exact mv_okZ0) ?_ ?_
        all_goals rfl
      · rw [nI_eq hv hk] at c52
        rw [decide_eq_true c52] at C
        refine mv_iconst C rfl ?_
        refine mv_goto C rfl ?_
        refine mv_ireturn C rfl (by first | exact mv_okZ1 | exact mv_okZ0) ?_ ?_
        all_goals rfl
theorem lay_act : ∀ a, a < 8 → mv_lay[34 + 4 * a]? = some (.inr (0, [some (35 + 4 * a), some (36 + 4 * a), some (37 + 4 * a), none, none, none, none])) := by
  intro a ha
  rcases (show a = 0 ∨ a = 1 ∨ a = 2 ∨ a = 3 ∨ a = 4 ∨ a = 5 ∨ a = 6 ∨ a = 7 by omega) with rfl | rfl | rfl | rfl | rfl | rfl | rfl | rfl <;> rfl
theorem lay_a1 : ∀ a, a < 8 → mv_lay[35 + 4 * a]? = some (.inl (0, 10)) ∧ mv_lay[36 + 4 * a]? = some (.inl (0, 10)) ∧ mv_lay[37 + 4 * a]? = some (.inl (0, 10)) := by
  intro a ha
  rcases (show a = 0 ∨ a = 1 ∨ a = 2 ∨ a = 3 ∨ a = 4 ∨ a = 5 ∨ a = 6 ∨ a = 7 by omega) with rfl | rfl | rfl | rfl | rfl | rfl | rfl | rfl <;> exact ⟨rfl, rfl, rfl⟩
theorem r_isFor (z : mv_Z) (u : hM) (a n h c : Nat) (ha : a < u 21 0) (hi : hI u) (hz : rX u z) (hn : n < 2 ^ 31) (hh : h < 2 ^ 31) (hc : c < 2 ^ 31) : mv_Runs 2 8 [.ref (34 + 4 * a), .int (nI n), .int (nI h), .int (nI c)] (mv_E z) (some (.int (bif hfor u a n h c then 1 else 0))) (mv_E z) := by
  have h8 : u 21 0 ≤ 8 := hi.2.2.2.2.2.2.2.2.2.2.2.2.2.2.2.2.1
  have h10 := (hi.2.2.2.2.2.2.2.2.2.2.2.2.2.2.2.2.2.1 a ha).1
  have hb := hi.2.2.2.2.2.2.2.2.2.2.2.2.2.2.2.2.2.2.2.2.2
  obtain ⟨z1, z2, z3⟩ := hz.2.2.2.2.2.1 a ha
  obtain ⟨l1, l2, l3⟩ := lay_a1 a (by omega)
  have l0 := lay_act a (by omega)
  refine mv_start pX0_isFor (some .boolean) [some (.ref (34 + 4 * a)), some (.int (nI n)), some (.int (nI h)), some (.int (nI c)), none, none] rfl rfl rfl rfl (fun V C => ?_)
  have loop : ∀ (k i : Nat), i + k = u 22 a → hall (fun k => hask u a k n h c) k i = hfor u a n h c → V 3 [some (.ref (34 + 4 * a)), some (.int (nI n)), some (.int (nI h)), some (.int (nI c)), some (.int (nI i)), none] [] (mv_E z) := by
    intro k
    induction k with
    | zero =>
      intro i hi2 he
      refine mv_iload C rfl rfl ?_
      refine mv_aload_n C rfl rfl ?_
      refine mv_getJ C rfl l0 rfl z1 ?_
      refine mv_icmp_ge C rfl (fun c9 => ?_) (fun c9 => ?_)
      · refine mv_iconst C rfl ?_
        refine mv_ireturn C rfl mv_okZ1 ?_ ?_
        all_goals first | rfl | (rw [← he]; rfl)
      · exact absurd (nI_le (by omega) (by omega)) c9
    | succ k ih =>
      intro i hi2 he
      obtain ⟨b1, b2, b3, -⟩ := hb (10 * a + i)
      obtain ⟨y1, y2, y3⟩ := z3 i (by omega)
      simp only [hall] at he
      have hv : hval (u 23 (10 * a + i)) n h c < 2 ^ 31 := by unfold hval; split; assumption; split <;> assumption
      have R := r_isSo z (u 24 (10 * a + i)) (hval (u 23 (10 * a + i)) n h c) (u 25 (10 * a + i)) b2 hv (by omega)
      have st : ∀ x : Int32, x = nI (hval (u 23 (10 * a + i)) n h c) → V 52 [some (.ref (34 + 4 * a)), some (.int (nI n)), some (.int (nI h)), some (.int (nI c)), some (.int (nI i)), none] [.int x] (mv_E z) := by
        intro x hx
        subst hx
        cases hg : hcmp (u 24 (10 * a + i)) (hval (u 23 (10 * a + i)) n h c) (u 25 (10 * a + i)) with
        | true =>
          rw [hg] at R
          rw [show hask u a i n h c = true from hg] at he
          refine mv_is5 C rfl rfl ?_
          refine mv_iload C rfl rfl ?_
          refine mv_aload_n C rfl rfl ?_
          refine mv_getR C rfl l0 rfl ?_
          refine mv_iload C rfl rfl ?_
          refine mv_aldJ C rfl l2 rfl (by omega) y2 ?_
          refine mv_aload_n C rfl rfl ?_
          refine mv_getR C rfl l0 rfl ?_
          refine mv_iload C rfl rfl ?_
          refine mv_aldJ C rfl l3 rfl (by omega) y3 ?_
          refine mv_cS C rfl R (by decide) rfl (Nat.le_of_ble_eq_true rfl) (Nat.le_refl _) (Nat.le_refl _) rfl ?_
          refine mv_if_ne C rfl (fun c73 => ?_) (fun c73 => ?_)
          · refine mv_inc4 C rfl rfl ?_
            refine mv_goto C rfl ?_
            simp only [nI_1]
            exact mv_forget C _ (mv_le_c (mv_le_c (mv_le_c (mv_le_c (mv_le_c (mv_le_n (mv_le_rf _))))))) (ih (i + 1) (by omega) he)
          · exact absurd c73 (by decide)
        | false =>
          rw [hg] at R
          rw [show hask u a i n h c = false from hg] at he
          refine mv_is5 C rfl rfl ?_
          refine mv_iload C rfl rfl ?_
          refine mv_aload_n C rfl rfl ?_
          refine mv_getR C rfl l0 rfl ?_
          refine mv_iload C rfl rfl ?_
          refine mv_aldJ C rfl l2 rfl (by omega) y2 ?_
          refine mv_aload_n C rfl rfl ?_
          refine mv_getR C rfl l0 rfl ?_
          refine mv_iload C rfl rfl ?_
          refine mv_aldJ C rfl l3 rfl (by omega) y3 ?_
          refine mv_cS C rfl R (by decide) rfl (Nat.le_of_ble_eq_true rfl) (Nat.le_refl _) (Nat.le_refl _) rfl ?_
          refine mv_if_ne C rfl (fun c73 => ?_) (fun c73 => ?_)
          · exact absurd rfl c73
          · refine mv_iconst C rfl ?_
            refine mv_ireturn C rfl mv_okZ0 ?_ ?_
            all_goals first | rfl | (rw [← he]; rfl)
      refine mv_iload C rfl rfl ?_
      refine mv_aload_n C rfl rfl ?_
      refine mv_getJ C rfl l0 rfl z1 ?_
      refine mv_icmp_ge C rfl (fun c9 => ?_) (fun c9 => ?_)
      · exact absurd c9 (nI_ge (by omega) (by omega))
      · refine mv_iload C rfl rfl ?_
        refine mv_bipush C rfl ?_
        refine mv_icmp_ge C rfl (fun c16 => ?_) (fun c16 => ?_)
        · exact absurd c16 (nI_ge (b := 10) (by omega) (by decide))
        · refine mv_aload_n C rfl rfl ?_
          refine mv_getR C rfl l0 rfl ?_
          refine mv_iload C rfl rfl ?_
          refine mv_aldJ C rfl l1 rfl (by omega) y1 ?_
          refine mv_bipush C rfl ?_
          refine mv_icmp_ne C rfl (fun c28 => ?_) (fun c28 => ?_)
          · have q1 : ¬ u 23 (10 * a + i) = 110 := fun q => c28 (by rw [q]; rfl)
            refine mv_aload_n C rfl rfl ?_
            refine mv_getR C rfl l0 rfl ?_
            refine mv_iload C rfl rfl ?_
            refine mv_aldJ C rfl l1 rfl (by omega) y1 ?_
            refine mv_bipush C rfl ?_
            refine mv_icmp_ne C rfl (fun c44 => ?_) (fun c44 => ?_)
            · have q2 : ¬ u 23 (10 * a + i) = 104 := fun q => c44 (by rw [q]; rfl)
              refine mv_iload_n C rfl rfl ?_
              refine st _ ?_
              clear st ih
              unfold hval
              simp [*]
            · have q2 : u 23 (10 * a + i) = 104 := (nI_eq (b := 104) (by omega) (by decide)).mp c44
              refine mv_iload_n C rfl rfl ?_
              refine mv_goto C rfl ?_
              refine st _ ?_
              clear st ih
              unfold hval
              simp [*]
          · have q1 : u 23 (10 * a + i) = 110 := (nI_eq (b := 110) (by omega) (by decide)).mp c28
            refine mv_iload_n C rfl rfl ?_
            refine mv_goto C rfl ?_
            refine st _ ?_
            clear st ih
            unfold hval
            simp [*]
  refine mv_iconst C rfl ?_
  refine mv_is4 C rfl rfl ?_
  exact loop (u 22 a) 0 (by omega) rfl
theorem r_weigh (z : mv_Z) (u : hM) (n : Nat) (hn : n < u 27 0) (hi : hI u) (hz : rX u z) : mv_Runs 3 33 [.ref 29, .int (nI n)] (mv_E z) (some (.int (nI (hwt u n)))) (mv_E z) := by
  have h8 : u 21 0 ≤ 8 := hi.2.2.2.2.2.2.2.2.2.2.2.2.2.2.2.2.1
  have h12 : u 27 0 ≤ 12 := hi.2.2.2.2.2.2.2.2.2.2.2.2.2.2.2.2.2.2.1
  have hcl := hi.2.2.2.2.2.2.2.2.2.2.2.2.2.2.2.2.2.2.2.1 n hn
  have hct := hi.2.1 (u 28 n)
  have ha := rX_s hz 29 4 21 (by decide)
  have hcn := hz.2.2.2.2.2.2.1 n hn
  have hhr := rX_a hz 32 29 (by decide) n
  refine mv_start pX2_weigh (some .int) [some (.ref 29), some (.int (nI n)), none] rfl rfl rfl rfl (fun V C => ?_)
  have loop : ∀ (k i : Nat), i + k = u 21 0 → hwf (fun a => hfor u a n (u 29 n) (u 1 (u 28 n))) (u 26) k i = hwt u n → V 2 [some (.ref 29), some (.int (nI n)), some (.int (nI i))] [] (mv_E z) := by
    intro k
    induction k with
    | zero =>
      intro i hi2 he
      refine mv_iload_n C rfl rfl ?_
      refine mv_aload_n C rfl rfl ?_
      refine mv_getJ C rfl rfl rfl ha ?_
      refine mv_icmp_ge C rfl (fun c7 => ?_) (fun c7 => ?_)
      · refine mv_iconst C rfl ?_
        refine mv_ireturn C rfl mv_okI ?_ ?_
        all_goals first | rfl | (rw [← he]; rfl)
      · exact absurd (nI_le (by omega) (by omega)) c7
    | succ k ih =>
      intro i hi2 he
      have R := r_isFor z u i n (u 29 n) (u 1 (u 28 n)) (by omega) hi hz (by omega) (by omega) (by omega)
      obtain ⟨z1, z2, z3⟩ := hz.2.2.2.2.2.1 i (by omega)
      have l0 := lay_act i (by omega)
      simp only [hwf] at he
      cases hg : hfor u i n (u 29 n) (u 1 (u 28 n)) with
      | true =>
        rw [hg] at R he
        refine mv_iload_n C rfl rfl ?_
        refine mv_aload_n C rfl rfl ?_
        refine mv_getJ C rfl rfl rfl ha ?_
        refine mv_icmp_ge C rfl (fun c7 => ?_) (fun c7 => ?_)
        · exact absurd c7 (nI_ge (by omega) (by omega))
        · refine mv_aload_n C rfl rfl ?_
          refine mv_getR C rfl rfl rfl ?_
          refine mv_iload_n C rfl rfl ?_
          refine mv_rld C rfl rfl (by omega) ?_
          refine mv_iload_n C rfl rfl ?_
          refine mv_aload_n C rfl rfl ?_
          refine mv_getR C rfl rfl rfl ?_
          refine mv_iload_n C rfl rfl ?_
          refine mv_aldJ C rfl rfl rfl (by omega) hhr ?_
          refine mv_aload_n C rfl rfl ?_
          refine mv_getR C rfl rfl rfl ?_
          refine mv_iload_n C rfl rfl ?_
          refine mv_aldJ C rfl rfl rfl (by omega) hcn ?_
          refine mv_cV C rfl R (by decide) rfl rfl l0 (Nat.le_of_ble_eq_true rfl) (Nat.le_refl _) (Nat.le_refl _) rfl ?_
          refine mv_if_eq C rfl (fun c32 => ?_) (fun c32 => ?_)
          · exact absurd c32 (by decide)
          · refine mv_aload_n C rfl rfl ?_
            refine mv_getR C rfl rfl rfl ?_
            refine mv_iload_n C rfl rfl ?_
            refine mv_rld C rfl rfl (by omega) ?_
            refine mv_getJ C rfl l0 rfl z2 ?_
            refine mv_ireturn C rfl mv_okI ?_ ?_
            all_goals first | rfl | (rw [← he]; rfl)
      | false =>
        rw [hg] at R he
        refine mv_iload_n C rfl rfl ?_
        refine mv_aload_n C rfl rfl ?_
        refine mv_getJ C rfl rfl rfl ha ?_
        refine mv_icmp_ge C rfl (fun c7 => ?_) (fun c7 => ?_)
        · exact absurd c7 (nI_ge (by omega) (by omega))
        · refine mv_aload_n C rfl rfl ?_
          refine mv_getR C rfl rfl rfl ?_
          refine mv_iload_n C rfl rfl ?_
          refine mv_rld C rfl rfl (by omega) ?_
          refine mv_iload_n C rfl rfl ?_
          refine mv_aload_n C rfl rfl ?_
          refine mv_getR C rfl rfl rfl ?_
          refine mv_iload_n C rfl rfl ?_
          refine mv_aldJ C rfl rfl rfl (by omega) hhr ?_
          refine mv_aload_n C rfl rfl ?_
          refine mv_getR C rfl rfl rfl ?_
          refine mv_iload_n C rfl rfl ?_
          refine mv_aldJ C rfl rfl rfl (by omega) hcn ?_
          refine mv_cV C rfl R (by decide) rfl rfl l0 (Nat.le_of_ble_eq_true rfl) (Nat.le_refl _) (Nat.le_refl _) rfl ?_
          refine mv_if_eq C rfl (fun c32 => ?_) (fun c32 => ?_)
          · refine mv_inc2 C rfl rfl ?_
            refine mv_goto C rfl ?_
            simp only [nI_1]
            exact ih (i + 1) (by omega) he
          · exact absurd rfl c32
  refine mv_iconst C rfl ?_
  refine mv_is_n2 C rfl rfl ?_
  exact loop (u 21 0) 0 (by omega) rfl
def a_weight (u : hM) (n : Int32) : Int32 := if 0 ≤ n ∧ n < nI (u 27 0) then nI (hwt u n.toNatClampNeg) else -1
theorem x_weight (u : hM) (z : mv_Z) (p : Int32) (hi : hI u) (hz : rX u z) : xR 101 [.int p] u z (.int (a_weight u p)) u := by
  have hn := rX_s hz 29 5 27 (by decide)
  have h12 : u 27 0 ≤ 12 := hi.2.2.2.2.2.2.2.2.2.2.2.2.2.2.2.2.2.2.1
  unfold a_weight
  refine ⟨_, mv_up (d := 4) (S1 := mv_E z) ?_ rfl, hz, fX_rf⟩
  by_cases hc : 0 ≤ p ∧ p < nI (u 27 0)
  · rw [if_pos hc]
    have e := nI_rngc hc.1 hc.2 (by omega)
    generalize p.toNatClampNeg = k at *
    obtain ⟨hk, rfl⟩ := e
    have R := r_weigh z u k hk hi hz
    refine mv_start pX10_weight (some .int) [some (.ref 0), some (.int (nI k))] rfl rfl rfl rfl (fun V C => ?_)
    refine mv_iload_n C rfl rfl ?_
    refine mv_if_lt C rfl (fun c1 => ?_) (fun c1 => ?_)
    · exact absurd c1 (nI_pos (by omega))
    · refine mv_iload_n C rfl rfl ?_
      refine mv_aload_n C rfl rfl ?_
      refine mv_getR C rfl rfl rfl ?_
      refine mv_getJ C rfl rfl rfl hn ?_
      refine mv_icmp_ge C rfl (fun c12 => ?_) (fun c12 => ?_)
      · exact absurd c12 (nI_ge hk (by omega))
      · refine mv_aload_n C rfl rfl ?_
        refine mv_getR C rfl rfl rfl ?_
        refine mv_iload_n C rfl rfl ?_
        refine mv_cV C rfl R (by decide) rfl rfl rfl (Nat.le_of_ble_eq_true rfl) (Nat.le_refl _) (Nat.le_refl _) rfl ?_
        refine mv_goto C rfl ?_
        refine mv_ireturn C rfl mv_okI ?_ ?_
        all_goals rfl
  · rw [if_neg hc]
    refine mv_start pX10_weight (some .int) [some (.ref 0), some (.int p)] rfl rfl rfl rfl (fun V C => ?_)
    refine mv_iload_n C rfl rfl ?_
    refine mv_if_lt C rfl (fun c1 => ?_) (fun c1 => ?_)
    · refine mv_iconst C rfl ?_
      refine mv_ireturn C rfl mv_okI ?_ ?_
      all_goals rfl
    · refine mv_iload_n C rfl rfl ?_
      refine mv_aload_n C rfl rfl ?_
      refine mv_getR C rfl rfl rfl ?_
      refine mv_getJ C rfl rfl rfl hn ?_
      refine mv_icmp_ge C rfl (fun c12 => ?_) (fun c12 => ?_)
      · refine mv_iconst C rfl ?_
        refine mv_ireturn C rfl mv_okI ?_ ?_
        all_goals rfl
      · exact absurd ⟨(by rw [i32_lt] at c1; rw [i32_le]; omega), (by rw [i32_le] at c12; rw [i32_lt]; omega)⟩ hc

/-- what the weights of the reference rest on -/
def rMh (u : hM) (z : mv_Z) : Prop := (∀ q ∈ tM, z.1 q.1 = fun i => nI (u q.2 i)) ∧ z.1 68 28 = nI (u 21 0) ∧ (∀ a, a < u 21 0 → z.1 89 a = nI (u 22 a) ∧ z.1 93 a = nI (u 26 a) ∧ ∀ k, k < u 22 a → z.1 90 (10 * a + k) = nI (u 23 (10 * a + k)) ∧ z.1 91 (10 * a + k) = nI (u 24 (10 * a + k)) ∧ z.1 92 (10 * a + k) = nI (u 25 (10 * a + k)))
theorem rMh_of {u : hM} {z : mv_Z} (h : rM u z) : rMh u z := ⟨h.1.1, rM_s h 28 21 (by decide), h.2.2.2.1⟩
theorem rMh_a {u : hM} {z : mv_Z} (h : rMh u z) (cell key : Nat) (hc : (cell, key) ∈ tM) (i : Nat) : z.1 cell i = nI (u key i) := congrFun (h.1 _ hc) i
theorem rMh_w {u : hM} {z : mv_Z} (h : rMh u z) (n : Int32) (f : Nat → Int32) : rMh u (mv_w (mv_u z 68 18 n) 82 f) := by
  have hc := tM_cells
  refine ⟨fun q hq => ?_, ?_, ?_⟩
  · rw [mv_w_ne (hc q hq).2.2.2.2.2.2.2, mv_u_ne (by have := (hc q hq).1; omega)]; exact h.1 q hq
  · rw [mv_w_ne (by decide), mv_u_sl (by decide)]; exact h.2.1
  · rw [mv_w_ne (q := 89) (by decide), mv_w_ne (q := 90) (by decide), mv_w_ne (q := 91) (by decide), mv_w_ne (q := 92) (by decide), mv_w_ne (q := 93) (by decide), mv_u_ne (q := 89) (by decide), mv_u_ne (q := 90) (by decide), mv_u_ne (q := 91) (by decide), mv_u_ne (q := 92) (by decide), mv_u_ne (q := 93) (by decide)]; exact h.2.2
theorem r_holds (z : mv_Z) (u : hM) (a n : Nat) (ha : a < u 21 0) (hn : n < u 27 0) (hi : hI u) (hz : rMh u z) : mv_Runs 1 164 [.ref 68, .int (nI a), .int (nI n)] (mv_E z) (some (.int (bif hfor u a n (u 29 n) (u 1 (u 28 n)) then 1 else 0))) (mv_E z) := by
  have h8 : u 21 0 ≤ 8 := hi.2.2.2.2.2.2.2.2.2.2.2.2.2.2.2.2.1
  have h12 : u 27 0 ≤ 12 := hi.2.2.2.2.2.2.2.2.2.2.2.2.2.2.2.2.2.2.1
  have h24 := hi.1
  have hcl := hi.2.2.2.2.2.2.2.2.2.2.2.2.2.2.2.2.2.2.2.1 n hn
  have hct := hi.2.1 (u 28 n)
  have h10 := (hi.2.2.2.2.2.2.2.2.2.2.2.2.2.2.2.2.2.1 a ha).1
  have hb := hi.2.2.2.2.2.2.2.2.2.2.2.2.2.2.2.2.2.2.2.2.2
  obtain ⟨z1, z2, z3⟩ := hz.2.2 a ha
  have hfb : ∀ b : Bool, (bif b then (1 : Int32) else 0) = 0 ↔ b = false := by decide
  refine mv_start pX11_holds (some .boolean) [some (.ref 68), some (.int (nI a)), some (.int (nI n)), none, none, none] rfl rfl rfl rfl (fun V C => ?_)
  have loop : ∀ (k i : Nat) (b : Bool), i + k = u 22 a → (b && hall (fun k => hask u a k n (u 29 n) (u 1 (u 28 n))) k i) = hfor u a n (u 29 n) (u 1 (u 28 n)) → V 8 [some (.ref 68), some (.int (nI a)), some (.int (nI n)), some (.int (bif b then 1 else 0)), some (.int (nI (10 * a + i))), none] [] (mv_E z) := by
    intro k
    induction k with
    | zero =>
      intro i b hi2 he
      simp only [hall, Bool.and_true] at he
      refine mv_iload C rfl rfl ?_
      refine mv_bipush C rfl ?_
      refine mv_iload_n C rfl rfl ?_
      refine mv_imul C rfl ?_
      refine mv_top (pk_mul 10 _) ?_
      refine mv_aload_n C rfl rfl ?_
      refine mv_getR C rfl rfl rfl ?_
      refine mv_iload_n C rfl rfl ?_
      refine mv_aldJ C rfl rfl rfl (by omega) z1 ?_
      refine mv_iadd C rfl ?_
      refine mv_top (nI_add _ _) ?_
      refine mv_icmp_ge C rfl (fun c21 => ?_) (fun c21 => ?_)
      · refine mv_iload_n C rfl rfl ?_
        refine mv_ireturn C rfl (mv_okZ (by cases b <;> simp)) ?_ ?_
        all_goals first | rfl | (rw [← he])
      · exact absurd (nI_le (by omega) (by omega)) c21
    | succ k ih =>
      intro i b hi2 he
      obtain ⟨b1, b2, b3, -⟩ := hb (10 * a + i)
      obtain ⟨y1, y2, y3⟩ := z3 i (by omega)
      simp only [hall] at he
      have hv : hval (u 23 (10 * a + i)) n (u 29 n) (u 1 (u 28 n)) < 2 ^ 31 := by unfold hval; split; omega; split <;> omega
      have fin : ∀ x : Int32, x = (bif b && hask u a i n (u 29 n) (u 1 (u 28 n)) then 1 else 0) → ∀ w : Option Value, V 149 [some (.ref 68), some (.int (nI a)), some (.int (nI n)), some (.int (bif b then 1 else 0)), some (.int (nI (10 * a + i))), w] [.int x] (mv_E z) := by
        intro x hx w
        subst hx
        refine mv_is_n3 C rfl rfl ?_
        refine mv_inc4 C rfl rfl ?_
        refine mv_goto C rfl ?_
        simp only [nI_1]
        exact mv_forget C _ (mv_le_c (mv_le_c (mv_le_c (mv_le_c (mv_le_c (mv_le_n (mv_le_rf _))))))) (ih (i + 1) (b && hask u a i n (u 29 n) (u 1 (u 28 n))) (by omega) (by rw [← he, Bool.and_assoc]))
      have st : ∀ x : Int32, x = nI (hval (u 23 (10 * a + i)) n (u 29 n) (u 1 (u 28 n))) → V 72 [some (.ref 68), some (.int (nI a)), some (.int (nI n)), some (.int (bif b then 1 else 0)), some (.int (nI (10 * a + i))), none] [.int x] (mv_E z) := by
        intro x hx
        subst hx
        have eh : hask u a i n (u 29 n) (u 1 (u 28 n)) = hcmp (u 24 (10 * a + i)) (hval (u 23 (10 * a + i)) n (u 29 n) (u 1 (u 28 n))) (u 25 (10 * a + i)) := rfl
        generalize hval (u 23 (10 * a + i)) n (u 29 n) (u 1 (u 28 n)) = vv at hv eh ⊢
        refine mv_is5 C rfl rfl ?_
        refine mv_iload_n C rfl rfl ?_
        refine mv_if_eq C rfl (fun c75 => ?_) (fun c75 => ?_)
        · have qb : b = false := (hfb b).mp c75
          refine mv_iconst C rfl ?_
          refine fin _ ?_ _
          clear fin ih
          rw [eh]
          clear C eh
          unfold hcmp
          simp only [Bool.cond_eq_ite, Bool.and_eq_true]
          grind
        · have qb : b = true := by (cases b with | true => rfl | false => exact absurd rfl c75)
          refine mv_aload_n C rfl rfl ?_
          refine mv_getR C rfl rfl rfl ?_
          refine mv_iload C rfl rfl ?_
          refine mv_aldJ C rfl rfl rfl (by omega) y2 ?_
          refine mv_bipush C rfl ?_
          refine mv_icmp_ne C rfl (fun c87 => ?_) (fun c87 => ?_)
          · have q1 : ¬ u 24 (10 * a + i) = 60 := fun q => c87 (by rw [q]; rfl)
            refine mv_aload_n C rfl rfl ?_
            refine mv_getR C rfl rfl rfl ?_
            refine mv_iload C rfl rfl ?_
            refine mv_aldJ C rfl rfl rfl (by omega) y2 ?_
            refine mv_bipush C rfl ?_
            refine mv_icmp_ne C rfl (fun c114 => ?_) (fun c114 => ?_)
            · have q2 : ¬ u 24 (10 * a + i) = 62 := fun q => c114 (by rw [q]; rfl)
              refine mv_iload C rfl rfl ?_
              refine mv_aload_n C rfl rfl ?_
              refine mv_getR C rfl rfl rfl ?_
              refine mv_iload C rfl rfl ?_
              refine mv_aldJ C rfl rfl rfl (by omega) y3 ?_
              refine mv_icmp_ne C rfl (fun c141 => ?_) (fun c141 => ?_)
              · rw [nI_eq hv (by omega)] at c141
                refine mv_iconst C rfl ?_
                refine fin _ ?_ _
                clear fin ih
                rw [eh]
                clear C eh
                unfold hcmp
                simp only [Bool.cond_eq_ite, Bool.and_eq_true]
                grind
              · rw [nI_eq hv (by omega)] at c141
                refine mv_iconst C rfl ?_
                refine mv_goto C rfl ?_
                refine fin _ ?_ _
                clear fin ih
                rw [eh]
                clear C eh
                unfold hcmp
                simp only [Bool.cond_eq_ite, Bool.and_eq_true]
                grind
            · have q2 : u 24 (10 * a + i) = 62 := (nI_eq (b := 62) (by omega) (by decide)).mp c114
              refine mv_iload C rfl rfl ?_
              refine mv_aload_n C rfl rfl ?_
              refine mv_getR C rfl rfl rfl ?_
              refine mv_iload C rfl rfl ?_
              refine mv_aldJ C rfl rfl rfl (by omega) y3 ?_
              refine mv_icmp_le C rfl (fun c126 => ?_) (fun c126 => ?_)
              · rw [nI_leI hv (by omega)] at c126
                refine mv_iconst C rfl ?_
                refine fin _ ?_ _
                clear fin ih
                rw [eh]
                clear C eh
                unfold hcmp
                simp only [Bool.cond_eq_ite, Bool.and_eq_true]
                grind
              · rw [nI_leI hv (by omega)] at c126
                refine mv_goto C rfl ?_
                refine mv_iconst C rfl ?_
                refine mv_goto C rfl ?_
                refine fin _ ?_ _
                clear fin ih
                rw [eh]
                clear C eh
                unfold hcmp
                simp only [Bool.cond_eq_ite, Bool.and_eq_true]
                grind
          · have q1 : u 24 (10 * a + i) = 60 := (nI_eq (b := 60) (by omega) (by decide)).mp c87
            refine mv_iload C rfl rfl ?_
            refine mv_aload_n C rfl rfl ?_
            refine mv_getR C rfl rfl rfl ?_
            refine mv_iload C rfl rfl ?_
            refine mv_aldJ C rfl rfl rfl (by omega) y3 ?_
            refine mv_icmp_ge C rfl (fun c99 => ?_) (fun c99 => ?_)
            · rw [nI_leI (by omega) hv] at c99
              refine mv_iconst C rfl ?_
              refine fin _ ?_ _
              clear fin ih
              rw [eh]
              clear C eh
              unfold hcmp
              simp only [Bool.cond_eq_ite, Bool.and_eq_true]
              grind
            · rw [nI_leI (by omega) hv] at c99
              refine mv_goto C rfl ?_
              refine mv_iconst C rfl ?_
              refine mv_goto C rfl ?_
              refine fin _ ?_ _
              clear fin ih
              rw [eh]
              clear C eh
              unfold hcmp
              simp only [Bool.cond_eq_ite, Bool.and_eq_true]
              grind
      refine mv_iload C rfl rfl ?_
      refine mv_bipush C rfl ?_
      refine mv_iload_n C rfl rfl ?_
      refine mv_imul C rfl ?_
      refine mv_top (pk_mul 10 _) ?_
      refine mv_aload_n C rfl rfl ?_
      refine mv_getR C rfl rfl rfl ?_
      refine mv_iload_n C rfl rfl ?_
      refine mv_aldJ C rfl rfl rfl (by omega) z1 ?_
      refine mv_iadd C rfl ?_
      refine mv_top (nI_add _ _) ?_
      refine mv_icmp_ge C rfl (fun c21 => ?_) (fun c21 => ?_)
      · exact absurd c21 (nI_ge (by omega) (by omega))
      · refine mv_aload_n C rfl rfl ?_
        refine mv_getR C rfl rfl rfl ?_
        refine mv_iload C rfl rfl ?_
        refine mv_aldJ C rfl rfl rfl (by omega) y1 ?_
        refine mv_bipush C rfl ?_
        refine mv_icmp_ne C rfl (fun c33 => ?_) (fun c33 => ?_)
        · have q1 : ¬ u 23 (10 * a + i) = 110 := fun q => c33 (by rw [q]; rfl)
          refine mv_aload_n C rfl rfl ?_
          refine mv_getR C rfl rfl rfl ?_
          refine mv_iload C rfl rfl ?_
          refine mv_aldJ C rfl rfl rfl (by omega) y1 ?_
          refine mv_bipush C rfl ?_
          refine mv_icmp_ne C rfl (fun c49 => ?_) (fun c49 => ?_)
          · have q2 : ¬ u 23 (10 * a + i) = 104 := fun q => c49 (by rw [q]; rfl)
            refine mv_aload_n C rfl rfl ?_
            refine mv_getR C rfl rfl rfl ?_
            refine mv_aload_n C rfl rfl ?_
            refine mv_getR C rfl rfl rfl ?_
            refine mv_iload_n C rfl rfl ?_
            refine mv_aldJ C rfl rfl rfl (by omega) (rMh_a hz 94 28 (by decide) n) ?_
            refine mv_aldJ C rfl rfl rfl (by omega) (rMh_a hz 69 1 (by decide) _) ?_
            refine st _ ?_
            clear st fin ih
            unfold hval
            simp [*]
          · have q2 : u 23 (10 * a + i) = 104 := (nI_eq (b := 104) (by omega) (by decide)).mp c49
            refine mv_aload_n C rfl rfl ?_
            refine mv_getR C rfl rfl rfl ?_
            refine mv_iload_n C rfl rfl ?_
            refine mv_aldJ C rfl rfl rfl (by omega) (rMh_a hz 95 29 (by decide) n) ?_
            refine mv_goto C rfl ?_
            refine st _ ?_
            clear st fin ih
            unfold hval
            simp [*]
        · have q1 : u 23 (10 * a + i) = 110 := (nI_eq (b := 110) (by omega) (by decide)).mp c33
          refine mv_iload_n C rfl rfl ?_
          refine mv_goto C rfl ?_
          refine st _ ?_
          clear st fin ih
          unfold hval
          simp [*]
  refine mv_iconst C rfl ?_
  refine mv_is_n3 C rfl rfl ?_
  refine mv_bipush C rfl ?_
  refine mv_iload_n C rfl rfl ?_
  refine mv_imul C rfl ?_
  refine mv_top (pk_mul 10 _) ?_
  refine mv_is4 C rfl rfl ?_
  exact loop (u 22 a) 0 true (by omega) (by rw [Bool.true_and]; rfl)
theorem r_weightOf (z : mv_Z) (u : hM) (n : Nat) (hn : n < u 27 0) (hi : hI u) (hz : rMh u z) : mv_Runs 2 165 [.ref 68, .int (nI n)] (mv_E z) (some (.int (nI (hwt u n)))) (mv_E z) := by
  have h8 : u 21 0 ≤ 8 := hi.2.2.2.2.2.2.2.2.2.2.2.2.2.2.2.2.1
  have h12 : u 27 0 ≤ 12 := hi.2.2.2.2.2.2.2.2.2.2.2.2.2.2.2.2.2.2.1
  have ha := hz.2.1
  refine mv_start pX11_weightOf (some .int) [some (.ref 68), some (.int (nI n)), none] rfl rfl rfl rfl (fun V C => ?_)
  have loop : ∀ (k i : Nat), i + k = u 21 0 → hwf (fun a => hfor u a n (u 29 n) (u 1 (u 28 n))) (u 26) k i = hwt u n → V 2 [some (.ref 68), some (.int (nI n)), some (.int (nI i))] [] (mv_E z) := by
    intro k
    induction k with
    | zero =>
      intro i hi2 he
      refine mv_iload_n C rfl rfl ?_
      refine mv_aload_n C rfl rfl ?_
      refine mv_getJ C rfl rfl rfl ha ?_
      refine mv_icmp_ge C rfl (fun c7 => ?_) (fun c7 => ?_)
      · refine mv_iconst C rfl ?_
        refine mv_ireturn C rfl mv_okI ?_ ?_
        all_goals first | rfl | (rw [← he]; rfl)
      · exact absurd (nI_le (by omega) (by omega)) c7
    | succ k ih =>
      intro i hi2 he
      have R := r_holds z u i n (by omega) hn hi hz
      obtain ⟨z1, z2, z3⟩ := hz.2.2 i (by omega)
      simp only [hwf] at he
      cases hg : hfor u i n (u 29 n) (u 1 (u 28 n)) with
      | true =>
        rw [hg] at R he
        refine mv_iload_n C rfl rfl ?_
        refine mv_aload_n C rfl rfl ?_
        refine mv_getJ C rfl rfl rfl ha ?_
        refine mv_icmp_ge C rfl (fun c7 => ?_) (fun c7 => ?_)
        · exact absurd c7 (nI_ge (by omega) (by omega))
        · refine mv_aload_n C rfl rfl ?_
          refine mv_iload_n C rfl rfl ?_
          refine mv_iload_n C rfl rfl ?_
          refine mv_cV C rfl R (by decide) rfl rfl rfl (Nat.le_of_ble_eq_true rfl) (Nat.le_refl _) (Nat.le_refl _) rfl ?_
          refine mv_if_eq C rfl (fun c16 => ?_) (fun c16 => ?_)
          · exact absurd c16 (by decide)
          · refine mv_aload_n C rfl rfl ?_
            refine mv_getR C rfl rfl rfl ?_
            refine mv_iload_n C rfl rfl ?_
            refine mv_aldJ C rfl rfl rfl (by omega) z2 ?_
            refine mv_ireturn C rfl mv_okI ?_ ?_
            all_goals first | rfl | (rw [← he]; rfl)
      | false =>
        rw [hg] at R he
        refine mv_iload_n C rfl rfl ?_
        refine mv_aload_n C rfl rfl ?_
        refine mv_getJ C rfl rfl rfl ha ?_
        refine mv_icmp_ge C rfl (fun c7 => ?_) (fun c7 => ?_)
        · exact absurd c7 (nI_ge (by omega) (by omega))
        · refine mv_aload_n C rfl rfl ?_
          refine mv_iload_n C rfl rfl ?_
          refine mv_iload_n C rfl rfl ?_
          refine mv_cV C rfl R (by decide) rfl rfl rfl (Nat.le_of_ble_eq_true rfl) (Nat.le_refl _) (Nat.le_refl _) rfl ?_
          refine mv_if_eq C rfl (fun c16 => ?_) (fun c16 => ?_)
          · refine mv_inc2 C rfl rfl ?_
            refine mv_goto C rfl ?_
            simp only [nI_1]
            exact ih (i + 1) (by omega) he
          · exact absurd rfl c16
  refine mv_iconst C rfl ?_
  refine mv_is_n2 C rfl rfl ?_
  exact loop (u 21 0) 0 (by omega) rfl
theorem m_weight (u : hM) (z : mv_Z) (p : Int32) (hi : hI u) (hz : rM u z) : mR 166 [.int p] u z (.int (a_weight u p)) u := by
  have h0 := rM_free hz 68 0 0 (Or.inr ⟨rfl, by decide⟩)
  have hn := rM_s h0 36 27 (by decide)
  have h12 : u 27 0 ≤ 12 := hi.2.2.2.2.2.2.2.2.2.2.2.2.2.2.2.2.2.2.1
  have R0 := r_inI (mv_u z 68 0 0) p 0 (nI (u 27 0) - 1 : Int32).toInt64 _ (inN (by omega))
  unfold a_weight
  refine ⟨_, mv_up (d := 3) (S1 := mv_E (mv_u z 68 0 0)) ?_ rfl, h0, fM_u fM_rf (by decide)⟩
  by_cases hc : 0 ≤ p ∧ p < nI (u 27 0)
  · rw [if_pos hc] at R0 ⊢
    have e := nI_rngc hc.1 hc.2 (by omega)
    generalize p.toNatClampNeg = k at *
    obtain ⟨hk, rfl⟩ := e
    have R := r_weightOf _ u k hk hi (rMh_of h0)
    refine mv_start pX11_weight (some .int) [some (.ref 68), some (.int (nI k))] rfl rfl rfl rfl (fun V C => ?_)
    refine mv_aload_n C rfl rfl ?_
    refine mv_iconst C rfl ?_
    refine mv_putI C rfl rfl rfl rfl ?_
    refine mv_iload_n C rfl rfl ?_
    refine mv_i2l C rfl ?_
    refine mv_lconst C rfl ?_
    refine mv_aload_n C rfl rfl ?_
    refine mv_getJ C rfl rfl rfl hn ?_
    refine mv_iconst C rfl ?_
    refine mv_isub C rfl ?_
    refine mv_i2l C rfl ?_
    refine mv_cS C rfl (mv_up R0 rfl) (by decide) rfl (Nat.le_of_ble_eq_true rfl) (Nat.le_refl _) (Nat.le_refl _) rfl ?_
    refine mv_if_eq C rfl (fun c18 => ?_) (fun c18 => ?_)
    · exact absurd c18 (by decide)
    · refine mv_aload_n C rfl rfl ?_
      refine mv_iload_n C rfl rfl ?_
      refine mv_cV C rfl R (by decide) rfl rfl rfl (Nat.le_of_ble_eq_true rfl) (Nat.le_refl _) (Nat.le_refl _) rfl ?_
      refine mv_goto C rfl ?_
      refine mv_ireturn C rfl mv_okI ?_ ?_
      all_goals rfl
  · rw [if_neg hc] at R0 ⊢
    refine mv_start pX11_weight (some .int) [some (.ref 68), some (.int p)] rfl rfl rfl rfl (fun V C => ?_)
    refine mv_aload_n C rfl rfl ?_
    refine mv_iconst C rfl ?_
    refine mv_putI C rfl rfl rfl rfl ?_
    refine mv_iload_n C rfl rfl ?_
    refine mv_i2l C rfl ?_
    refine mv_lconst C rfl ?_
    refine mv_aload_n C rfl rfl ?_
    refine mv_getJ C rfl rfl rfl hn ?_
    refine mv_iconst C rfl ?_
    refine mv_isub C rfl ?_
    refine mv_i2l C rfl ?_
    refine mv_cS C rfl (mv_up R0 rfl) (by decide) rfl (Nat.le_of_ble_eq_true rfl) (Nat.le_refl _) (Nat.le_refl _) rfl ?_
    refine mv_if_eq C rfl (fun c18 => ?_) (fun c18 => ?_)
    · refine mv_iconst C rfl ?_
      refine mv_ireturn C rfl mv_okI ?_ ?_
      all_goals rfl
    · exact absurd rfl c18
end
end
section
section
theorem rX_freew {u : hM} {z : mv_Z} (h : rX u z) (cell : Nat) (f : Nat → Int32) (hc : cell ∈ [5, 15, 17, 18, 19, 20, 33]) : rX u (mv_w z cell f) := by
  obtain ⟨⟨h1a, h1b⟩, h2, h3, h4, h5, h6, h7, h8⟩ := h
  have e : ∀ c ∈ [5, 15, 17, 18, 19, 20, 33], c < 34 ∧ c ≠ 3 ∧ c ≠ 23 ∧ c ≠ 26 ∧ c ≠ 31 ∧ (∀ q ∈ tX, q.1 ≠ c) ∧ ∀ q ∈ sX, q.1 ≠ c := by decide
  obtain ⟨c1, c2, c3, c4, c5, c6, c7⟩ := e _ hc
  unfold rX
  rw [mv_w_ne (q := 3) c2.symm, mv_w_ne (q := 23) c3.symm, mv_w_ne (q := 26) c4.symm, mv_w_ne (q := 31) c5.symm, mv_w_ne (q := 67) (by omega)]
  refine ⟨⟨fun q hq => by rw [mv_w_ne (c6 q hq)]; exact h1a q hq, fun q hq => by rw [mv_w_ne (c7 q hq)]; exact h1b q hq⟩, h2, h3, h4, h5, fun a ha => ?_, h7, h8⟩
  rw [mv_w_ne (q := 34 + 4 * a) (by omega), mv_w_ne (q := 35 + 4 * a) (by omega), mv_w_ne (q := 36 + 4 * a) (by omega), mv_w_ne (q := 37 + 4 * a) (by omega)]
  exact h6 a ha
/-- a new row -/
def hrw (u : hM) (n : Nat) (g : Nat → Nat) : hM := fun k i => if k = 30 then n else if k = 31 then g i else u k i
theorem hrw_key {u : hM} {n : Nat} {g : Nat → Nat} {k : Nat} (h : k ≠ 30) (h2 : k ≠ 31) : hrw u n g k = u k := by funext i; simp [hrw, h, h2]
theorem rX_row {u : hM} {z : mv_Z} (h : rX u z) (n : Nat) (g : Nat → Nat) (f : Nat → Int32) (hf : ∀ i, i < n → f i = nI (g i)) (h8a : u 21 0 ≤ 8) : rX (hrw u n g) (mv_u (mv_w z 67 f) 66 1 (nI n)) := by
  obtain ⟨⟨h1a, h1b⟩, h2, h3, h4, h5, h6, h7, h8⟩ := h
  unfold rX
  rw [hrw_key (k := 7) (by decide) (by decide), hrw_key (k := 8) (by decide) (by decide), hrw_key (k := 14) (by decide) (by decide), hrw_key (k := 18) (by decide) (by decide), hrw_key (k := 21) (by decide) (by decide), hrw_key (k := 22) (by decide) (by decide), hrw_key (k := 23) (by decide) (by decide), hrw_key (k := 24) (by decide) (by decide), hrw_key (k := 25) (by decide) (by decide), hrw_key (k := 26) (by decide) (by decide), hrw_key (k := 27) (by decide) (by decide), hrw_key (k := 28) (by decide) (by decide), hrw_key (k := 1) (by decide) (by decide)]
  rw [mv_u_ne (q := 3) (by decide), mv_u_ne (q := 23) (by decide), mv_u_ne (q := 26) (by decide), mv_u_ne (q := 31) (by decide), mv_u_ne (q := 67) (by decide), mv_w_ne (q := 3) (by decide), mv_w_ne (q := 23) (by decide), mv_w_ne (q := 26) (by decide), mv_w_ne (q := 31) (by decide), mv_w_get]
  refine ⟨⟨fun q hq => ?_, fun q hq => ?_⟩, h2, h3, h4, h5, fun a ha => ?_, h7, fun i hi => hf i hi⟩
  · have c := tX_cells q hq
    have k := tX_keys q hq
    rw [mv_u_ne (by omega), mv_w_ne (by omega), hrw_key k.2.2.2.2.2.2.2.2.2.2.2.2.1 k.2.2.2.2.2.2.2.2.2.2.2.2.2]
    exact h1a q hq
  · have hs : ∀ q ∈ sX, (q = (66, 1, 30)) ∨ (q.1 ≠ 66 ∧ q.1 ≠ 67 ∧ q.2.2 ≠ 30 ∧ q.2.2 ≠ 31) := by decide
    rcases hs q hq with rfl | ⟨s1, s2, s3, s4⟩
    · rw [mv_u_eq]; rfl
    · rw [mv_u_ne s1, mv_w_ne s2, hrw_key s3 s4]; exact h1b q hq
  · rw [mv_u_ne (q := 34 + 4 * a) (by omega), mv_u_ne (q := 35 + 4 * a) (by omega), mv_u_ne (q := 36 + 4 * a) (by omega), mv_u_ne (q := 37 + 4 * a) (by omega), mv_w_ne (q := 34 + 4 * a) (by omega), mv_w_ne (q := 35 + 4 * a) (by omega), mv_w_ne (q := 36 + 4 * a) (by omega), mv_w_ne (q := 37 + 4 * a) (by omega)]
    exact h6 a ha
theorem rM_row {u : hM} {z : mv_Z} (h : rM u z) (n : Nat) (g : Nat → Nat) (f : Nat → Int32) (hf : ∀ i, i < n → f i = nI (g i)) : rM (hrw u n g) (mv_u (mv_w z 82 f) 68 18 (nI n)) := by
  obtain ⟨⟨h1a, h1b⟩, h3, h4, h6, h8⟩ := h
  unfold rM
  rw [hrw_key (k := 8) (by decide) (by decide), hrw_key (k := 14) (by decide) (by decide), hrw_key (k := 21) (by decide) (by decide), hrw_key (k := 22) (by decide) (by decide), hrw_key (k := 23) (by decide) (by decide), hrw_key (k := 24) (by decide) (by decide), hrw_key (k := 25) (by decide) (by decide), hrw_key (k := 26) (by decide) (by decide)]
  rw [mv_u_sl (q := 68) (j := 9) (by decide), mv_u_ne (q := 84) (by decide), mv_u_ne (q := 89) (by decide), mv_u_ne (q := 90) (by decide), mv_u_ne (q := 91) (by decide), mv_u_ne (q := 92) (by decide), mv_u_ne (q := 93) (by decide), mv_u_ne (q := 82) (by decide), mv_w_ne (q := 68) (by decide), mv_w_ne (q := 84) (by decide), mv_w_ne (q := 89) (by decide), mv_w_ne (q := 90) (by decide), mv_w_ne (q := 91) (by decide), mv_w_ne (q := 92) (by decide), mv_w_ne (q := 93) (by decide), mv_w_get]
  refine ⟨⟨fun q hq => ?_, fun q hq => ?_⟩, h3, h4, h6, fun i hi => hf i hi⟩
  · have c := tM_cells q hq
    have k := tM_keys q hq
    rw [mv_u_ne (by omega), mv_w_ne c.2.2.2.2.2.2.2, hrw_key k.2.2.2.2.2.2.2.2.1 k.2.2.2.2.2.2.2.2.2]
    exact h1a q hq
  · have hs : ∀ q ∈ sM, (q = (68, 18, 30)) ∨ (q.1 = 68 ∧ q.2.1 ≠ 18 ∧ q.2.2 ≠ 30 ∧ q.2.2 ≠ 31) := by decide
    rcases hs q hq with rfl | ⟨s1, s2, s3, s4⟩
    · rw [mv_u_eq]; rfl
    · rw [mv_u_sl (fun e => s2 e.2.symm), mv_w_ne (by omega), hrw_key s3 s4]; exact h1b q hq
theorem r_rowAdd (z : mv_Z) (x : Int32) (n : Nat) (hn : z.1 66 1 = nI n) (h48 : n < 48) : mv_Runs 1 66 [.ref 66, .int x] (mv_E z) none (mv_E (mv_u (mv_u z 67 n x) 66 1 (nI (n + 1)))) := by
  refine mv_start pX8_add none [some (.ref 66), some (.int x)] rfl rfl rfl rfl (fun V C => ?_)
  refine mv_aload_n C rfl rfl ?_
  refine mv_getJ C rfl rfl rfl hn ?_
  refine mv_bipush C rfl ?_
  refine mv_icmp_ge C rfl (fun c6 => ?_) (fun c6 => ?_)
  · exact absurd c6 (nI_ge (b := 48) (by omega) (by decide))
  · refine mv_aload_n C rfl rfl ?_
    refine mv_getR C rfl rfl rfl ?_
    refine mv_aload_n C rfl rfl ?_
    refine mv_getJ C rfl rfl rfl hn ?_
    refine mv_iload_n C rfl rfl ?_
    refine mv_ast C rfl rfl rfl (by omega) ?_
    refine mv_aload_n C rfl rfl ?_
    refine mv_dup C rfl rfl ?_
    refine mv_getJ C rfl rfl rfl hn ?_
    refine mv_iconst C rfl ?_
    refine mv_iadd C rfl ?_
    refine mv_top (nI_1 _) ?_
    refine mv_putI C rfl rfl rfl rfl ?_
    refine mv_return_ C rfl rfl ?_ ?_
    all_goals rfl
-- the parting of a reward
def hbest (w : Nat → Nat) : Nat → Nat
  | 0 => 0
  | n + 1 => if w (hbest w n) < w n then n else hbest w n
theorem hbest_lt (w : Nat → Nat) : ∀ n, 0 < n → hbest w n < n
  | 0, h => absurd h (by omega)
  | n + 1, _ => by
    simp only [hbest]
    split
    · omega
    · cases n with
      | zero => simp [hbest]
      | succ m => have := hbest_lt w (m + 1) (by omega); omega
theorem hbest_le (w : Nat → Nat) (n : Nat) : hbest w n ≤ n := by
  cases n with
  | zero => simp [hbest]
  | succ m => exact Nat.le_of_lt (hbest_lt w _ (by omega))
def hpart (R all w : Nat) : Nat := if all = 0 then 0 else R * w / all
theorem hpart_sum (R all : Nat) (w : Nat → Nat) (h : all ≠ 0) : ∀ n, hsum (fun c => hpart R all (w c)) n * all ≤ R * hsum w n
  | 0 => by simp [hsum]
  | n + 1 => by
    have ih := hpart_sum R all w h n
    have h1 : R * w n / all * all ≤ R * w n := Nat.div_mul_le_self _ _
    simp only [hsum, hpart, if_neg h, Nat.add_mul, Nat.mul_add] at ih ⊢
    omega
theorem hsum_mono (g : Nat → Nat) {a b : Nat} (h : a ≤ b) : hsum g a ≤ hsum g b := by
  induction h with
  | refl => exact Nat.le_refl _
  | step _ ih => simp only [hsum]; omega
theorem hpart_le (R : Nat) (w : Nat → Nat) (n k : Nat) (hk : k ≤ n) : hsum (fun c => hpart R (hsum w n) (w c)) k ≤ R := by
  by_cases h : hsum w n = 0
  · have : ∀ k, hsum (fun c => hpart R (hsum w n) (w c)) k = 0 := by
      intro k
      induction k with
      | zero => rfl
      | succ k ih => simp only [hsum]; rw [ih]; simp [hpart, h]
    rw [this]; omega
  · have h1 := hpart_sum R (hsum w n) w h k
    have h2 := hsum_mono w hk
    have h3 : R * hsum w k ≤ R * hsum w n := Nat.mul_le_mul_left _ h2
    exact Nat.le_of_mul_le_mul_right (Nat.le_trans h1 h3) (by omega)
theorem hwf_le {g : Nat → Bool} {w : Nat → Nat} {c m : Nat} (h : ∀ i, i < m → w i ≤ c) : ∀ k i, i + k = m → hwf g w k i ≤ c
  | 0, _, _ => Nat.zero_le _
  | k + 1, i, hi => by
    simp only [hwf]
    cases g i with
    | true => exact h i (by omega)
    | false => exact hwf_le h k (i + 1) (by omega)
theorem hwt_le (u : hM) (hi : hI u) (n : Nat) : hwt u n ≤ 999 := hwf_le (fun i h => (hi.2.2.2.2.2.2.2.2.2.2.2.2.2.2.2.2.2.1 i h).2) _ _ (by omega)
def hrest (u : hM) (R : Nat) : Nat := R - hsum (fun c => hpart R (hsum (hwt u) (u 27 0)) (hwt u c)) (u 27 0)
def hrow (u : hM) (R i : Nat) : Nat := if i < u 27 0 ∧ hsum (hwt u) (u 27 0) ≠ 0 then hpart R (hsum (hwt u) (u 27 0)) (hwt u i) + (if i = hbest (hwt u) (u 27 0) then hrest u R else 0) else 0
def a_reward (u : hM) (R : Int32) : Int32 := if 1 ≤ R ∧ R ≤ 1000000 then (if hsum (hwt u) (u 27 0) = 0 then 0 else R) else -1
def o_reward (u : hM) (R : Int32) : hM := if 1 ≤ R ∧ R ≤ 1000000 then hrw u (u 27 0) (hrow u R.toNatClampNeg) else u
end
end
section
section
theorem lt_nI {a : Nat} {x : Int32} (h : x = nI a) : x = nI a := h
def f33 (z : mv_Z) (u : hM) (i : Nat) : Nat → Int32 := fun q => if q < i then nI (hwt u q) else z.1 33 q
theorem f33_step (z : mv_Z) (u : hM) (i : Nat) : upd (f33 z u i) i (nI (hwt u i)) = f33 z u (i + 1) := by
  funext q
  by_cases e : q = i
  · subst e; simp [upd, f33]
  · simp only [upd, e, if_false, f33]
    by_cases h : q < i
    · rw [if_pos h, if_pos (by omega)]
    · rw [if_neg h, if_neg (by omega)]
def f67 (z : mv_Z) (c : Nat) (g : Nat → Nat) (i : Nat) : Nat → Int32 := fun q => if q < i then nI (g q) else z.1 c q
theorem f67_step (z : mv_Z) (c : Nat) (g : Nat → Nat) (i : Nat) : upd (f67 z c g i) i (nI (g i)) = f67 z c g (i + 1) := by
  funext q
  by_cases e : q = i
  · subst e; simp [upd, f67]
  · simp only [upd, e, if_false, f67]
    by_cases h : q < i
    · rw [if_pos h, if_pos (by omega)]
    · rw [if_neg h, if_neg (by omega)]
theorem f67_0 (z : mv_Z) (c : Nat) (g : Nat → Nat) : f67 z c g 0 = z.1 c := by funext q; simp [f67]
theorem mv_wu {z : mv_Z} {a b i : Nat} {f : Nat → Int32} {x : Int32} (h : ¬ a = b) : mv_w (mv_u z a i x) b f = mv_u (mv_w z b f) a i x := by
  unfold mv_u mv_w
  congr 1
  funext k
  by_cases e : k = a
  · subst e; simp [va_up, h]
  · by_cases e2 : k = b
    · subst e2; simp [va_up, e]
    · simp [va_up, e, e2]
theorem hsum_w (u : hM) (hi : hI u) (n : Nat) (hn : n ≤ 12) : hsum (hwt u) n ≤ 11988 := by
  have := hsum_le (g := hwt u) (fun i => hwt_le u hi i) n
  omega
theorem r_share (z : mv_Z) (u : hM) (R : Nat) (hR1 : 1 ≤ R) (hR2 : R ≤ 1000000) (hi : hI u) (hz : rX u z) : ∃ z1, mv_Runs 4 34 [.ref 29, .int (nI R), .ref 66] (mv_E z) (some (.int (if hsum (hwt u) (u 27 0) = 0 then 0 else nI R))) (mv_E z1) ∧ rX (hrw u (u 27 0) (hrow u R)) z1 ∧ fX z z1 := by
  have h12 : u 27 0 ≤ 12 := hi.2.2.2.2.2.2.2.2.2.2.2.2.2.2.2.2.2.2.1
  have h8a : u 21 0 ≤ 8 := hi.2.2.2.2.2.2.2.2.2.2.2.2.2.2.2.2.1
  have hc := rX_s hz 29 5 27 (by decide)
  have hal := hsum_w u hi (u 27 0) h12
  have hzw : ∀ f, rX u (mv_w z 33 f) := fun f => rX_freew hz 33 f (by decide)
  have hw9 := hwt_le u hi
  have hpl := fun k hk => hpart_le R (hwt u) (u 27 0) k hk
  refine ⟨if hsum (hwt u) (u 27 0) = 0 then mv_u (mv_w (mv_w z 33 (f33 z u (u 27 0))) 67 (f67 z 67 (fun c => hpart R (hsum (hwt u) (u 27 0)) (hwt u c)) (u 27 0))) 66 1 (nI (u 27 0)) else mv_u (mv_w (mv_w z 33 (f33 z u (u 27 0))) 67 (upd (f67 z 67 (fun c => hpart R (hsum (hwt u) (u 27 0)) (hwt u c)) (u 27 0)) (hbest (hwt u) (u 27 0)) (nI (hpart R (hsum (hwt u) (u 27 0)) (hwt u (hbest (hwt u) (u 27 0))) + hrest u R)))) 66 1 (nI (u 27 0)), ?_, ?_, ?_⟩
  · refine mv_start pX2_share (some .int) [some (.ref 29), some (.int (nI R)), some (.ref 66), none, none, none, none, none] rfl rfl rfl rfl (fun V C => ?_)
    have fin : V 127 [some (.ref 29), some (.int (nI R)), some (.ref 66), some (.int (nI (hsum (hwt u) (u 27 0)))), some (.int (nI (hbest (hwt u) (u 27 0)))), some (.int (nI (R - hsum (fun c => hpart R (hsum (hwt u) (u 27 0)) (hwt u c)) (u 27 0)))), none, none] [] (mv_E (mv_u (mv_w (mv_w z 33 (f33 z u (u 27 0))) 67 (f67 z 67 (fun c => hpart R (hsum (hwt u) (u 27 0)) (hwt u c)) (u 27 0))) 66 1 (nI (u 27 0)))) := by
      by_cases h0 : hsum (hwt u) (u 27 0) = 0
      · rw [if_pos h0] at C
        rw [if_pos h0] at C
        refine mv_iload_n C rfl rfl ?_
        refine mv_if_ne C rfl (fun c128 => ?_) (fun c128 => ?_)
        · exact absurd (by rw [h0]; rfl) c128
        · refine mv_iconst C rfl ?_
          refine mv_ireturn C rfl mv_okI ?_ ?_
          all_goals first | rfl | (rw [if_pos h0])
      · rw [if_neg h0] at C
        rw [if_neg h0] at C
        have hb : hbest (hwt u) (u 27 0) < u 27 0 := hbest_lt _ _ (by rcases Nat.eq_zero_or_pos (u 27 0) with q | q; (rw [q] at h0; exact absurd rfl h0); exact q)
        refine mv_iload_n C rfl rfl ?_
        refine mv_if_ne C rfl (fun c128 => ?_) (fun c128 => ?_)
        · refine mv_aload_n C rfl rfl ?_
          refine mv_getR C rfl rfl rfl ?_
          refine mv_iload C rfl rfl ?_
          refine mv_dup2 C rfl rfl rfl ?_
          refine mv_aldJ C rfl rfl rfl (by omega) (show _ = nI (hpart R (hsum (hwt u) (u 27 0)) (hwt u (hbest (hwt u) (u 27 0)))) by (rw [mv_u_ne (by decide), mv_w_get]; simp [f67, hb])) ?_
          refine mv_iload C rfl rfl ?_
          refine mv_iadd C rfl ?_
          refine mv_top (nI_add _ _) ?_
          refine mv_ast C rfl rfl rfl (by omega) ?_
          refine mv_sto (by rw [mv_uc (by decide), mv_uw]) ?_
          refine mv_iload_n C rfl rfl ?_
          refine mv_ireturn C rfl mv_okI ?_ ?_
          all_goals first | rfl | (rw [if_neg h0]) | (rw [if_neg h0]; rfl)
        · exact absurd ((nI_eq (b := 0) (by omega) (by decide)).mp c128) h0
    have loop2 : ∀ (k i : Nat), i + k = u 27 0 → V 78 [some (.ref 29), some (.int (nI R)), some (.ref 66), some (.int (nI (hsum (hwt u) (u 27 0)))), some (.int (nI (hbest (hwt u) (u 27 0)))), some (.int (nI (R - hsum (fun c => hpart R (hsum (hwt u) (u 27 0)) (hwt u c)) i))), some (.int (nI i)), none] [] (mv_E (mv_u (mv_w (mv_w z 33 (f33 z u (u 27 0))) 67 (f67 z 67 (fun c => hpart R (hsum (hwt u) (u 27 0)) (hwt u c)) i)) 66 1 (nI i))) := by
      intro k
      induction k with
      | zero =>
        intro i hi2
        obtain rfl : i = u 27 0 := by omega
        refine mv_iload C rfl rfl ?_
        refine mv_aload_n C rfl rfl ?_
        refine mv_getJ C rfl rfl rfl hc ?_
        refine mv_icmp_ge C rfl (fun c84 => ?_) (fun c84 => ?_)
        · exact mv_forget C _ (mv_le_c (mv_le_c (mv_le_c (mv_le_c (mv_le_c (mv_le_c (mv_le_n (mv_le_rf _)))))))) fin
        · exact absurd (nI_le (by omega) (by omega)) c84
      | succ k ih =>
        intro i hi2
        have e := ih (i + 1) (by omega)
        have hle := hpl (i + 1) (by omega)
        have hw := hw9 i
        simp only [hsum] at e hle
        have hpb : hpart R (hsum (hwt u) (u 27 0)) (hwt u i) ≤ R := by omega
        have R1 := r_rowAdd (mv_u (mv_w (mv_w z 33 (f33 z u (u 27 0))) 67 (f67 z 67 (fun c => hpart R (hsum (hwt u) (u 27 0)) (hwt u c)) i)) 66 1 (nI i)) (nI (hpart R (hsum (hwt u) (u 27 0)) (hwt u i))) i mv_u_eq (by omega)
        rw [mv_uc (a := 66) (b := 67) (by decide), mv_uu, mv_uw, f67_step] at R1
        have st : ∀ x : Int32, x = nI (hpart R (hsum (hwt u) (u 27 0)) (hwt u i)) → V 106 [some (.ref 29), some (.int (nI R)), some (.ref 66), some (.int (nI (hsum (hwt u) (u 27 0)))), some (.int (nI (hbest (hwt u) (u 27 0)))), some (.int (nI (R - hsum (fun c => hpart R (hsum (hwt u) (u 27 0)) (hwt u c)) i))), some (.int (nI i)), none] [.int x] (mv_E (mv_u (mv_w (mv_w z 33 (f33 z u (u 27 0))) 67 (f67 z 67 (fun c => hpart R (hsum (hwt u) (u 27 0)) (hwt u c)) i)) 66 1 (nI i))) := by
          intro x hx
          subst hx
          refine mv_is7 C rfl rfl ?_
          refine mv_aload_n C rfl rfl ?_
          refine mv_iload C rfl rfl ?_
          refine mv_cV C rfl (mv_up R1 rfl) (by decide) rfl rfl rfl (Nat.le_of_ble_eq_true rfl) (Nat.le_refl _) (Nat.le_refl _) rfl ?_
          refine mv_iload C rfl rfl ?_
          refine mv_iload C rfl rfl ?_
          refine mv_isub C rfl ?_
          refine mv_top (pk_sub (by omega)) ?_
          refine mv_is5 C rfl rfl ?_
          refine mv_inc6 C rfl rfl ?_
          refine mv_goto C rfl ?_
          simp only [nI_1]
          rw [show R - hsum (fun c => hpart R (hsum (hwt u) (u 27 0)) (hwt u c)) i - hpart R (hsum (hwt u) (u 27 0)) (hwt u i) = R - (hsum (fun c => hpart R (hsum (hwt u) (u 27 0)) (hwt u c)) i + hpart R (hsum (hwt u) (u 27 0)) (hwt u i)) by omega]
          exact mv_forget C _ (mv_le_c (mv_le_c (mv_le_c (mv_le_c (mv_le_c (mv_le_c (mv_le_c (mv_le_n (mv_le_rf _))))))))) e
        have hRW : R * hwt u i ≤ 1000000 * 999 := Nat.mul_le_mul hR2 hw
        by_cases h0 : hsum (hwt u) (u 27 0) = 0
        · refine mv_iload C rfl rfl ?_
          refine mv_aload_n C rfl rfl ?_
          refine mv_getJ C rfl rfl rfl hc ?_
          refine mv_icmp_ge C rfl (fun c84 => ?_) (fun c84 => ?_)
          · exact absurd c84 (nI_ge (by omega) (by omega))
          · refine mv_iload_n C rfl rfl ?_
            refine mv_if_ne C rfl (fun c88 => ?_) (fun c88 => ?_)
            · exact absurd (by rw [h0]; rfl) c88
            · refine mv_iconst C rfl ?_
              refine mv_goto C rfl ?_
              refine st _ ?_
              (unfold hpart; rw [if_pos h0]; rfl)
        · refine mv_iload C rfl rfl ?_
          refine mv_aload_n C rfl rfl ?_
          refine mv_getJ C rfl rfl rfl hc ?_
          refine mv_icmp_ge C rfl (fun c84 => ?_) (fun c84 => ?_)
          · exact absurd c84 (nI_ge (by omega) (by omega))
          · refine mv_iload_n C rfl rfl ?_
            refine mv_if_ne C rfl (fun c88 => ?_) (fun c88 => ?_)
            · refine mv_iload_n C rfl rfl ?_
              refine mv_aload_n C rfl rfl ?_
              refine mv_getR C rfl rfl rfl ?_
              refine mv_iload C rfl rfl ?_
              refine mv_aldJ C rfl rfl rfl (by omega) (show _ = nI (hwt u i) by (rw [mv_u_ne (by decide), mv_w_ne (by decide), mv_w_get]; simp only [f33]; rw [if_pos (by omega)])) ?_
              refine mv_imul C rfl ?_
              refine mv_top (pk_mul _ _) ?_
              refine mv_iload_n C rfl rfl ?_
              refine mv_idiv C rfl (by exact c88) ?_
              refine st _ ?_
              (unfold hpart; rw [if_neg h0]; exact pk_div (by omega) (by omega) (by omega))
            · exact absurd ((nI_eq (b := 0) (by omega) (by decide)).mp c88) h0
    have loop1 : ∀ (k i : Nat), i + k = u 27 0 → V 8 [some (.ref 29), some (.int (nI R)), some (.ref 66), some (.int (nI (hsum (hwt u) i))), some (.int (nI (hbest (hwt u) i))), some (.int (nI i)), none, none] [] (mv_E (mv_w z 33 (f33 z u i))) := by
      intro k
      induction k with
      | zero =>
        intro i hi2
        obtain rfl : i = u 27 0 := by omega
        have l0 := loop2 (u 27 0) 0 (by omega)
        have z0 : mv_u (mv_w (mv_w z 33 (f33 z u (u 27 0))) 67 (f67 z 67 (fun c => hpart R (hsum (hwt u) (u 27 0)) (hwt u c)) 0)) 66 1 (nI 0) = mv_u (mv_w z 33 (f33 z u (u 27 0))) 66 1 0 := by
          rw [f67_0, show z.1 67 = (mv_w z 33 (f33 z u (u 27 0))).1 67 by rw [mv_w_ne (by decide)], mv_w_self]; rfl
        rw [z0] at l0
        refine mv_iload C rfl rfl ?_
        refine mv_aload_n C rfl rfl ?_
        refine mv_getJ C rfl rfl rfl hc ?_
        refine mv_icmp_ge C rfl (fun c14 => ?_) (fun c14 => ?_)
        · refine mv_aload_n C rfl rfl ?_
          refine mv_iconst C rfl ?_
          refine mv_putI C rfl rfl rfl rfl ?_
          refine mv_iload_n C rfl rfl ?_
          refine mv_is5 C rfl rfl ?_
          refine mv_iconst C rfl ?_
          refine mv_is6 C rfl rfl ?_
          exact l0
        · exact absurd (nI_le (by omega) (by omega)) c14
      | succ k ih =>
        intro i hi2
        have e := ih (i + 1) (by omega)
        rw [← f33_step, ← mv_uw] at e
        simp only [hsum, hbest] at e
        have R1 := r_weigh (mv_w z 33 (f33 z u i)) u i (by omega) hi (hzw _)
        have hw := hw9 i
        have hwb := hw9 (hbest (hwt u) i)
        have hs1 := hsum_w u hi i (by omega)
        have hbl := hbest_le (hwt u) i
        have ha1 : (mv_u (mv_w z 33 (f33 z u i)) 33 i (nI (hwt u i))).1 33 i = nI (hwt u i) := mv_u_eq
        have ha2 : (mv_u (mv_w z 33 (f33 z u i)) 33 i (nI (hwt u i))).1 33 (hbest (hwt u) i) = nI (hwt u (hbest (hwt u) i)) := by
          by_cases q : hbest (hwt u) i = i
          · rw [q]; exact mv_u_eq
          · rw [mv_u_at q, mv_w_get]; simp only [f33]; rw [if_pos (by omega)]
        refine mv_iload C rfl rfl ?_
        refine mv_aload_n C rfl rfl ?_
        refine mv_getJ C rfl rfl rfl hc ?_
        refine mv_icmp_ge C rfl (fun c14 => ?_) (fun c14 => ?_)
        · exact absurd c14 (nI_ge (by omega) (by omega))
        · refine mv_aload_n C rfl rfl ?_
          refine mv_getR C rfl rfl rfl ?_
          refine mv_iload C rfl rfl ?_
          refine mv_aload_n C rfl rfl ?_
          refine mv_iload C rfl rfl ?_
          refine mv_cV C rfl R1 (by decide) rfl rfl rfl (Nat.le_of_ble_eq_true rfl) (Nat.le_refl _) (Nat.le_refl _) rfl ?_
          refine mv_ast C rfl rfl rfl (by omega) ?_
          refine mv_iload_n C rfl rfl ?_
          refine mv_aload_n C rfl rfl ?_
          refine mv_getR C rfl rfl rfl ?_
          refine mv_iload C rfl rfl ?_
          refine mv_aldJ C rfl rfl rfl (by omega) ha1 ?_
          refine mv_iadd C rfl ?_
          refine mv_top (nI_add _ _) ?_
          refine mv_is_n3 C rfl rfl ?_
          refine mv_aload_n C rfl rfl ?_
          refine mv_getR C rfl rfl rfl ?_
          refine mv_iload C rfl rfl ?_
          refine mv_aldJ C rfl rfl rfl (by omega) ha1 ?_
          refine mv_aload_n C rfl rfl ?_
          refine mv_getR C rfl rfl rfl ?_
          refine mv_iload C rfl rfl ?_
          refine mv_aldJ C rfl rfl rfl (by omega) ha2 ?_
          refine mv_icmp_le C rfl (fun c54 => ?_) (fun c54 => ?_)
          · rw [nI_leI (by omega) (by omega)] at c54
            rw [if_neg (by omega)] at e
            refine mv_inc5 C rfl rfl ?_
            refine mv_goto C rfl ?_
            simp only [nI_1]
            exact e
          · rw [nI_leI (by omega) (by omega)] at c54
            rw [if_pos (by omega)] at e
            refine mv_iload C rfl rfl ?_
            refine mv_is4 C rfl rfl ?_
            refine mv_inc5 C rfl rfl ?_
            refine mv_goto C rfl ?_
            simp only [nI_1]
            exact e
    have z0 : mv_w z 33 (f33 z u 0) = z := by rw [show f33 z u 0 = z.1 33 by (funext q; simp [f33]), mv_w_self]
    have l1 := loop1 (u 27 0) 0 (by omega)
    rw [z0] at l1
    refine mv_iconst C rfl ?_
    refine mv_is_n3 C rfl rfl ?_
    refine mv_iconst C rfl ?_
    refine mv_is4 C rfl rfl ?_
    refine mv_iconst C rfl ?_
    refine mv_is5 C rfl rfl ?_
    exact l1
  · have hz33 := hzw (f33 z u (u 27 0))
    by_cases h0 : hsum (hwt u) (u 27 0) = 0
    · rw [if_pos h0]
      refine rX_row hz33 _ _ _ (fun i hi2 => ?_) h8a
      simp only [f67, hi2, if_true, hrow, hpart, h0, ne_eq, not_true, and_false, if_false]
    · rw [if_neg h0]
      refine rX_row hz33 _ _ _ (fun i hi2 => ?_) h8a
      unfold hrow
      rw [if_pos ⟨hi2, h0⟩]
      by_cases q : i = hbest (hwt u) (u 27 0)
      · rw [if_pos q, q]; simp [upd]
      · rw [if_neg q]; simp [upd, q, f67, hi2]
  · split <;> exact fX_u (fX_w (fX_w fX_rf (by decide)) (by decide)) (by decide)
theorem x_reward (u : hM) (z : mv_Z) (R : Int32) (hi : hI u) (hz : rX u z) : xR 102 [.int R] u z (.int (a_reward u R)) (o_reward u R) := by
  unfold a_reward o_reward
  by_cases hc : 1 ≤ R ∧ R ≤ 1000000
  · rw [if_pos hc, if_pos hc]
    obtain ⟨r, hr, rfl⟩ := nI_rng (x := R) (n := 1000001) (i32_1le hc.1) (by have := hc.2; rw [i32_le, i32_1000000] at this; rw [i32_lt, nI_toInt (by decide)]; omega) (by decide)
    have h1 : 1 ≤ r := (nI_leI (a := 1) (by decide) (by omega)).mp hc.1
    rw [nI_clamp (by omega)]
    obtain ⟨z1, R1, q1, q2⟩ := r_share z u r h1 (by omega) hi hz
    refine ⟨z1, mv_up (d := 5) ?_ rfl, q1, q2⟩
    refine mv_start pX10_reward (some .int) [some (.ref 0), some (.int (nI r))] rfl rfl rfl rfl (fun V C => ?_)
    refine mv_iload_n C rfl rfl ?_
    refine mv_iconst C rfl ?_
    refine mv_icmp_lt C rfl (fun c2 => ?_) (fun c2 => ?_)
    · exact absurd c2 (nI_nlt (b := 1) (by omega) (by omega))
    · refine mv_iload_n C rfl rfl ?_
      refine mv_ldc C rfl ?_
      refine mv_icmp_gt C rfl (fun c8 => ?_) (fun c8 => ?_)
      · exact absurd c8 (nI_nlt (a := 1000000) (by omega) (by decide))
      · refine mv_aload_n C rfl rfl ?_
        refine mv_getR C rfl rfl rfl ?_
        refine mv_iload_n C rfl rfl ?_
        refine mv_aload_n C rfl rfl ?_
        refine mv_getR C rfl rfl rfl ?_
        refine mv_cV C rfl R1 (by decide) rfl rfl rfl (Nat.le_of_ble_eq_true rfl) (Nat.le_refl _) (Nat.le_refl _) rfl ?_
        refine mv_goto C rfl ?_
        refine mv_ireturn C rfl mv_okI ?_ ?_
        all_goals rfl
  · rw [if_neg hc, if_neg hc]
    refine ⟨_, mv_up (d := 5) (S1 := mv_E z) ?_ rfl, hz, fX_rf⟩
    refine mv_start pX10_reward (some .int) [some (.ref 0), some (.int R)] rfl rfl rfl rfl (fun V C => ?_)
    refine mv_iload_n C rfl rfl ?_
    refine mv_iconst C rfl ?_
    refine mv_icmp_lt C rfl (fun c2 => ?_) (fun c2 => ?_)
    · refine mv_iconst C rfl ?_
      refine mv_ireturn C rfl mv_okI ?_ ?_
      all_goals rfl
    · refine mv_iload_n C rfl rfl ?_
      refine mv_ldc C rfl ?_
      refine mv_icmp_gt C rfl (fun c8 => ?_) (fun c8 => ?_)
      · refine mv_iconst C rfl ?_
        refine mv_ireturn C rfl mv_okI ?_ ?_
        all_goals rfl
      · exact absurd ⟨(by rw [i32_lt] at c2; rw [i32_le]; omega), (by rw [i32_lt] at c8; rw [i32_le]; omega)⟩ hc
end
end
section
section
theorem l_part {R W a : Nat} (h : R * W < 2 ^ 31) (hR : R < 2 ^ 31) (hW : W < 2 ^ 31) (h0 : 0 < a) (ha : a < 2 ^ 31) : ((nI R).toInt64 * (nI W).toInt64 / (nI a).toInt64).toInt32 = nI (R * W / a) := by
  rw [nI_l hR, nI_l hW, nI_l ha, lN_mul, pk_lDiv (by omega) h0 (by omega), lN_i]
theorem m_reward (u : hM) (z : mv_Z) (R : Int32) (hi : hI u) (hz : rM u z) : mR 167 [.int R] u z (.int (a_reward u R)) (o_reward u R) := by
  have h0 := rM_free hz 68 0 0 (Or.inr ⟨rfl, by decide⟩)
  have hh := rMh_of h0
  have hc := rM_s h0 36 27 (by decide)
  have h12 : u 27 0 ≤ 12 := hi.2.2.2.2.2.2.2.2.2.2.2.2.2.2.2.2.2.2.1
  have hal := hsum_w u hi (u 27 0) h12
  have hw9 := hwt_le u hi
  have R0 := r_inI (mv_u z 68 0 0) R 1 1000000 (1 ≤ R ∧ R ≤ 1000000) (by rw [i32_le, i32_le, i32_1, i32_1000000, l64_1, l64_mio])
  unfold a_reward o_reward
  by_cases hcc : 1 ≤ R ∧ R ≤ 1000000
  · rw [if_pos hcc] at R0 ⊢
    rw [if_pos hcc]
    obtain ⟨r, hr, rfl⟩ := nI_rng (x := R) (n := 1000001) (i32_1le hcc.1) (by have := hcc.2; rw [i32_le, i32_1000000] at this; rw [i32_lt, nI_toInt (by decide)]; omega) (by decide)
    have h1 : 1 ≤ r := (nI_leI (a := 1) (by decide) (by omega)).mp hcc.1
    rw [nI_clamp (by omega)]
    have hpl := fun k hk => hpart_le r (hwt u) (u 27 0) k hk
    generalize hz1 : mv_u (mv_u z 68 0 0) 68 18 (nI (u 27 0)) = z1
    have hh1 : ∀ f, rMh u (mv_w z1 82 f) := fun f => by rw [← hz1]; exact rMh_w hh _ f
    have hc1 : ∀ f, (mv_w z1 82 f).1 68 36 = nI (u 27 0) := fun f => by rw [← hz1, mv_w_ne (by decide), mv_u_sl (by decide)]; exact hc
    refine ⟨if hsum (hwt u) (u 27 0) = 0 then mv_w z1 82 (f67 z1 82 (fun c => hpart r (hsum (hwt u) (u 27 0)) (hwt u c)) (u 27 0)) else mv_w z1 82 (upd (f67 z1 82 (fun c => hpart r (hsum (hwt u) (u 27 0)) (hwt u c)) (u 27 0)) (hbest (hwt u) (u 27 0)) (nI (hpart r (hsum (hwt u) (u 27 0)) (hwt u (hbest (hwt u) (u 27 0))) + hrest u r))), mv_up (d := 4) ?_ rfl, ?_, ?_⟩
    · refine mv_start pX11_reward (some .int) [some (.ref 68), some (.int (nI r)), none, none, none, none] rfl rfl rfl rfl (fun V C => ?_)
      have fin : V 149 [some (.ref 68), some (.int (nI r)), some (.int (nI (hsum (hwt u) (u 27 0)))), some (.int (nI (hbest (hwt u) (u 27 0)))), some (.int (if hsum (hwt u) (u 27 0) = 0 then 0 else nI (r - hsum (fun c => hpart r (hsum (hwt u) (u 27 0)) (hwt u c)) (u 27 0)))), none] [] (mv_E (mv_w z1 82 (f67 z1 82 (fun c => hpart r (hsum (hwt u) (u 27 0)) (hwt u c)) (u 27 0)))) := by
        by_cases h0 : hsum (hwt u) (u 27 0) = 0
        · rw [if_pos h0] at C
          rw [if_pos h0] at C
          rw [if_pos h0]
          refine mv_iload_n C rfl rfl ?_
          refine mv_if_le C rfl (fun c150 => ?_) (fun c150 => ?_)
          · refine mv_iload_n C rfl rfl ?_
            refine mv_if_ne C rfl (fun c165 => ?_) (fun c165 => ?_)
            · exact absurd (by rw [h0]; rfl) c165
            · refine mv_iconst C rfl ?_
              refine mv_goto C rfl ?_
              refine mv_ireturn C rfl mv_okI ?_ ?_
              all_goals first | rfl | (rw [if_pos h0])
          · exact absurd (by rw [h0]; decide) c150
        · rw [if_neg h0] at C
          rw [if_neg h0] at C
          rw [if_neg h0]
          have hb : hbest (hwt u) (u 27 0) < u 27 0 := hbest_lt _ _ (by rcases Nat.eq_zero_or_pos (u 27 0) with q | q; (rw [q] at h0; exact absurd rfl h0); exact q)
          refine mv_iload_n C rfl rfl ?_
          refine mv_if_le C rfl (fun c150 => ?_) (fun c150 => ?_)
          · exact absurd c150 (nI_nle (by omega) (by omega))
          · refine mv_aload_n C rfl rfl ?_
            refine mv_getR C rfl rfl rfl ?_
            refine mv_iload_n C rfl rfl ?_
            refine mv_dup2 C rfl rfl rfl ?_
            refine mv_aldJ C rfl rfl rfl (by omega) (show _ = nI (hpart r (hsum (hwt u) (u 27 0)) (hwt u (hbest (hwt u) (u 27 0)))) by (rw [mv_w_get]; simp [f67, hb])) ?_
            refine mv_iload C rfl rfl ?_
            refine mv_iadd C rfl ?_
            refine mv_top (nI_add _ _) ?_
            refine mv_ast C rfl rfl rfl (by omega) ?_
            refine mv_sto mv_uw ?_
            refine mv_iload_n C rfl rfl ?_
            refine mv_if_ne C rfl (fun c165 => ?_) (fun c165 => ?_)
            · refine mv_iload_n C rfl rfl ?_
              refine mv_ireturn C rfl mv_okI ?_ ?_
              all_goals first | rfl | (rw [if_neg h0]) | (rw [if_neg h0]; rfl)
            · exact absurd ((nI_eq (b := 0) (by omega) (by decide)).mp c165) h0
      have loop2 : ∀ (k i : Nat), i + k = u 27 0 → V 93 [some (.ref 68), some (.int (nI r)), some (.int (nI (hsum (hwt u) (u 27 0)))), some (.int (nI (hbest (hwt u) (u 27 0)))), some (.int (if hsum (hwt u) (u 27 0) = 0 then 0 else nI (r - hsum (fun c => hpart r (hsum (hwt u) (u 27 0)) (hwt u c)) i))), some (.int (nI i))] [] (mv_E (mv_w z1 82 (f67 z1 82 (fun c => hpart r (hsum (hwt u) (u 27 0)) (hwt u c)) i))) := by
        intro k
        induction k with
        | zero =>
          intro i hi2
          obtain rfl : i = u 27 0 := by omega
          refine mv_iload C rfl rfl ?_
          refine mv_aload_n C rfl rfl ?_
          refine mv_getJ C rfl rfl rfl (hc1 _) ?_
          refine mv_icmp_ge C rfl (fun c99 => ?_) (fun c99 => ?_)
          · exact mv_forget C _ (mv_le_c (mv_le_c (mv_le_c (mv_le_c (mv_le_c (mv_le_n (mv_le_rf _))))))) fin
          · exact absurd (nI_le (by omega) (by omega)) c99
        | succ k ih =>
          intro i hi2
          have e := ih (i + 1) (by omega)
          rw [← f67_step, ← mv_uw] at e
          have hle := hpl (i + 1) (by omega)
          have hw := hw9 i
          simp only [hsum] at e hle
          have hRW : r * hwt u i ≤ 1000000 * 999 := Nat.mul_le_mul (by omega) hw
          have R1 := r_weightOf _ u i (by omega) hi (hh1 (f67 z1 82 (fun c => hpart r (hsum (hwt u) (u 27 0)) (hwt u c)) i))
          have st : ∀ x : Int32, x = nI (hpart r (hsum (hwt u) (u 27 0)) (hwt u i)) → V 130 [some (.ref 68), some (.int (nI r)), some (.int (nI (hsum (hwt u) (u 27 0)))), some (.int (nI (hbest (hwt u) (u 27 0)))), some (.int (if hsum (hwt u) (u 27 0) = 0 then 0 else nI (r - hsum (fun c => hpart r (hsum (hwt u) (u 27 0)) (hwt u c)) i))), some (.int (nI i))] [.int x, .int (nI i), .ref 82] (mv_E (mv_w z1 82 (f67 z1 82 (fun c => hpart r (hsum (hwt u) (u 27 0)) (hwt u c)) i))) := by
            intro x hx
            subst hx
            have es : (if hsum (hwt u) (u 27 0) = 0 then 0 else nI (r - hsum (fun c => hpart r (hsum (hwt u) (u 27 0)) (hwt u c)) i)) - nI (hpart r (hsum (hwt u) (u 27 0)) (hwt u i)) = (if hsum (hwt u) (u 27 0) = 0 then 0 else nI (r - (hsum (fun c => hpart r (hsum (hwt u) (u 27 0)) (hwt u c)) i + hpart r (hsum (hwt u) (u 27 0)) (hwt u i)))) := by
              by_cases h0 : hsum (hwt u) (u 27 0) = 0
              · rw [if_pos h0, if_pos h0]; unfold hpart; rw [if_pos h0]; rfl
              · rw [if_neg h0, if_neg h0, pk_sub (by omega)]; congr 1; omega
            refine mv_ast C rfl rfl rfl (by omega) ?_
            refine mv_iload C rfl rfl ?_
            refine mv_aload_n C rfl rfl ?_
            refine mv_getR C rfl rfl rfl ?_
            refine mv_iload C rfl rfl ?_
            refine mv_aldJ C rfl rfl rfl (by omega) mv_u_eq ?_
            refine mv_isub C rfl ?_
            refine mv_top es ?_
            refine mv_is4 C rfl rfl ?_
            refine mv_inc5 C rfl rfl ?_
            refine mv_goto C rfl ?_
            simp only [nI_1]
            exact e
          by_cases h0 : hsum (hwt u) (u 27 0) = 0
          · refine mv_iload C rfl rfl ?_
            refine mv_aload_n C rfl rfl ?_
            refine mv_getJ C rfl rfl rfl (hc1 _) ?_
            refine mv_icmp_ge C rfl (fun c99 => ?_) (fun c99 => ?_)
            · exact absurd c99 (nI_ge (by omega) (by omega))
            · refine mv_aload_n C rfl rfl ?_
              refine mv_getR C rfl rfl rfl ?_
              refine mv_iload C rfl rfl ?_
              refine mv_iload_n C rfl rfl ?_
              refine mv_if_ne C rfl (fun c109 => ?_) (fun c109 => ?_)
              · exact absurd (by rw [h0]; rfl) c109
              · refine mv_iconst C rfl ?_
                refine mv_goto C rfl ?_
                refine st _ ?_
                (unfold hpart; rw [if_pos h0]; rfl)
          · refine mv_iload C rfl rfl ?_
            refine mv_aload_n C rfl rfl ?_
            refine mv_getJ C rfl rfl rfl (hc1 _) ?_
            refine mv_icmp_ge C rfl (fun c99 => ?_) (fun c99 => ?_)
            · exact absurd c99 (nI_ge (by omega) (by omega))
            · refine mv_aload_n C rfl rfl ?_
              refine mv_getR C rfl rfl rfl ?_
              refine mv_iload C rfl rfl ?_
              refine mv_iload_n C rfl rfl ?_
              refine mv_if_ne C rfl (fun c109 => ?_) (fun c109 => ?_)
              · refine mv_iload_n C rfl rfl ?_
                refine mv_i2l C rfl ?_
                refine mv_aload_n C rfl rfl ?_
                refine mv_iload C rfl rfl ?_
                refine mv_cV C rfl (mv_up R1 rfl) (by decide) rfl rfl rfl (Nat.le_of_ble_eq_true rfl) (Nat.le_refl _) (Nat.le_refl _) rfl ?_
                refine mv_i2l C rfl ?_
                refine mv_lmul C rfl ?_
                refine mv_iload_n C rfl rfl ?_
                refine mv_i2l C rfl ?_
                refine mv_ldiv C rfl (by (rw [nI_l (by omega)]; exact fun q => h0 ((lN_eq (b := 0) (by omega) (by decide)).mp q))) ?_
                refine mv_l2i C rfl ?_
                refine st _ ?_
                (unfold hpart; rw [if_neg h0]; exact l_part (by omega) (by omega) (by omega) (by omega) (by omega))
              · exact absurd ((nI_eq (b := 0) (by omega) (by decide)).mp c109) h0
      have fin1 : V 71 [some (.ref 68), some (.int (nI r)), some (.int (nI (hsum (hwt u) (u 27 0)))), some (.int (nI (hbest (hwt u) (u 27 0)))), none, none] [] (mv_E (mv_u z 68 0 0)) := by
        have l2 := loop2 (u 27 0) 0 (by omega)
        rw [f67_0, mv_w_self] at l2
        have go : ∀ x : Int32, x = (if hsum (hwt u) (u 27 0) = 0 then 0 else nI r) → V 80 [some (.ref 68), some (.int (nI r)), some (.int (nI (hsum (hwt u) (u 27 0)))), some (.int (nI (hbest (hwt u) (u 27 0)))), none, none] [.int x] (mv_E (mv_u z 68 0 0)) := by
          intro x hx
          subst hx
          refine mv_is4 C rfl rfl ?_
          refine mv_aload_n C rfl rfl ?_
          refine mv_aload_n C rfl rfl ?_
          refine mv_getJ C rfl rfl rfl hc ?_
          refine mv_putI C rfl rfl rfl rfl ?_
          refine mv_sto hz1 ?_
          refine mv_iconst C rfl ?_
          refine mv_is5 C rfl rfl ?_
          exact l2
        by_cases h0 : hsum (hwt u) (u 27 0) = 0
        · refine mv_iload_n C rfl rfl ?_
          refine mv_if_ne C rfl (fun c72 => ?_) (fun c72 => ?_)
          · exact absurd (by rw [h0]; rfl) c72
          · refine mv_iconst C rfl ?_
            refine mv_goto C rfl ?_
            exact go _ (by rw [if_pos h0])
        · refine mv_iload_n C rfl rfl ?_
          refine mv_if_ne C rfl (fun c72 => ?_) (fun c72 => ?_)
          · refine mv_iload_n C rfl rfl ?_
            exact go _ (by rw [if_neg h0])
          · exact absurd ((nI_eq (b := 0) (by omega) (by decide)).mp c72) h0
      have loop1 : ∀ (k i : Nat), i + k = u 27 0 → V 26 [some (.ref 68), some (.int (nI r)), some (.int (nI (hsum (hwt u) i))), some (.int (nI (hbest (hwt u) i))), some (.int (nI i)), none] [] (mv_E (mv_u z 68 0 0)) := by
        intro k
        induction k with
        | zero =>
          intro i hi2
          obtain rfl : i = u 27 0 := by omega
          refine mv_iload C rfl rfl ?_
          refine mv_aload_n C rfl rfl ?_
          refine mv_getJ C rfl rfl rfl hc ?_
          refine mv_icmp_ge C rfl (fun c32 => ?_) (fun c32 => ?_)
          · exact mv_forget C _ (mv_le_c (mv_le_c (mv_le_c (mv_le_c (mv_le_n (mv_le_c (mv_le_rf _))))))) fin1
          · exact absurd (nI_le (by omega) (by omega)) c32
        | succ k ih =>
          intro i hi2
          have e := ih (i + 1) (by omega)
          simp only [hsum, hbest] at e
          have R1 := r_weightOf _ u i (by omega) hi hh
          have hbl : hbest (hwt u) i < u 27 0 := by have := hbest_le (hwt u) i; omega
          have R2 := r_weightOf _ u (hbest (hwt u) i) hbl hi hh
          have hw := hw9 i
          have hwb := hw9 (hbest (hwt u) i)
          have hs1 := hsum_w u hi i (by omega)
          have st : ∀ x : Int32, x = nI (if hwt u (hbest (hwt u) i) < hwt u i then i else hbest (hwt u) i) → V 64 [some (.ref 68), some (.int (nI r)), some (.int (nI (hsum (hwt u) i + hwt u i))), some (.int (nI (hbest (hwt u) i))), some (.int (nI i)), none] [.int x] (mv_E (mv_u z 68 0 0)) := by
            intro x hx
            subst hx
            refine mv_is_n3 C rfl rfl ?_
            refine mv_inc4 C rfl rfl ?_
            refine mv_goto C rfl ?_
            simp only [nI_1]
            exact e
          refine mv_iload C rfl rfl ?_
          refine mv_aload_n C rfl rfl ?_
          refine mv_getJ C rfl rfl rfl hc ?_
          refine mv_icmp_ge C rfl (fun c32 => ?_) (fun c32 => ?_)
          · exact absurd c32 (nI_ge (by omega) (by omega))
          · refine mv_iload_n C rfl rfl ?_
            refine mv_aload_n C rfl rfl ?_
            refine mv_iload C rfl rfl ?_
            refine mv_cV C rfl (mv_up R1 rfl) (by decide) rfl rfl rfl (Nat.le_of_ble_eq_true rfl) (Nat.le_refl _) (Nat.le_refl _) rfl ?_
            refine mv_iadd C rfl ?_
            refine mv_top (nI_add _ _) ?_
            refine mv_is_n2 C rfl rfl ?_
            refine mv_aload_n C rfl rfl ?_
            refine mv_iload C rfl rfl ?_
            refine mv_cV C rfl (mv_up R1 rfl) (by decide) rfl rfl rfl (Nat.le_of_ble_eq_true rfl) (Nat.le_refl _) (Nat.le_refl _) rfl ?_
            refine mv_aload_n C rfl rfl ?_
            refine mv_iload_n C rfl rfl ?_
            refine mv_cV C rfl (mv_up R2 rfl) (by decide) rfl rfl rfl (Nat.le_of_ble_eq_true rfl) (Nat.le_refl _) (Nat.le_refl _) rfl ?_
            refine mv_icmp_le C rfl (fun c55 => ?_) (fun c55 => ?_)
            · rw [nI_leI (by omega) (by omega)] at c55
              refine mv_iload_n C rfl rfl ?_
              refine st _ ?_
              first | (rw [if_neg (by omega)]) | (rw [if_pos (by omega)])
            · rw [nI_leI (by omega) (by omega)] at c55
              refine mv_iload C rfl rfl ?_
              refine mv_goto C rfl ?_
              refine st _ ?_
              first | (rw [if_neg (by omega)]) | (rw [if_pos (by omega)])
      refine mv_aload_n C rfl rfl ?_
      refine mv_iconst C rfl ?_
      refine mv_putI C rfl rfl rfl rfl ?_
      refine mv_iload_n C rfl rfl ?_
      refine mv_i2l C rfl ?_
      refine mv_lconst C rfl ?_
      refine mv_ldc2_w C rfl ?_
      refine mv_cS C rfl (mv_up R0 rfl) (by decide) rfl (Nat.le_of_ble_eq_true rfl) (Nat.le_refl _) (Nat.le_refl _) rfl ?_
      refine mv_if_ne C rfl (fun c14 => ?_) (fun c14 => ?_)
      · refine mv_iconst C rfl ?_
        refine mv_is_n2 C rfl rfl ?_
        refine mv_iconst C rfl ?_
        refine mv_is_n3 C rfl rfl ?_
        refine mv_iconst C rfl ?_
        refine mv_is4 C rfl rfl ?_
        exact loop1 (u 27 0) 0 (by omega)
      · exact absurd c14 (by decide)
    · by_cases h00 : hsum (hwt u) (u 27 0) = 0
      · rw [if_pos h00, ← hz1, mv_wu (by decide)]
        refine rM_row h0 _ _ _ (fun i hi2 => ?_)
        simp only [f67, hi2, if_true, hrow, hpart, h00, ne_eq, not_true, and_false, if_false]
      · rw [if_neg h00, ← hz1, mv_wu (by decide)]
        refine rM_row h0 _ _ _ (fun i hi2 => ?_)
        unfold hrow
        rw [if_pos ⟨hi2, h00⟩]
        by_cases q : i = hbest (hwt u) (u 27 0)
        · rw [if_pos q, q]; simp [upd]
        · rw [if_neg q]; simp [upd, q, f67, hi2]
    · rw [← hz1]; split <;> exact fM_w (fM_u (fM_u fM_rf (by decide)) (by decide)) (by decide)
  · rw [if_neg hcc] at R0 ⊢
    rw [if_neg hcc]
    refine ⟨_, mv_up (d := 4) (S1 := mv_E (mv_u z 68 0 0)) ?_ rfl, h0, fM_u fM_rf (by decide)⟩
    refine mv_start pX11_reward (some .int) [some (.ref 68), some (.int R), none, none, none, none] rfl rfl rfl rfl (fun V C => ?_)
    refine mv_aload_n C rfl rfl ?_
    refine mv_iconst C rfl ?_
    refine mv_putI C rfl rfl rfl rfl ?_
    refine mv_iload_n C rfl rfl ?_
    refine mv_i2l C rfl ?_
    refine mv_lconst C rfl ?_
    refine mv_ldc2_w C rfl ?_
    refine mv_cS C rfl (mv_up R0 rfl) (by decide) rfl (Nat.le_of_ble_eq_true rfl) (Nat.le_refl _) (Nat.le_refl _) rfl ?_
    refine mv_if_ne C rfl (fun c14 => ?_) (fun c14 => ?_)
    · exact absurd rfl c14
    · refine mv_iconst C rfl ?_
      refine mv_ireturn C rfl mv_okI ?_ ?_
      all_goals rfl
end
end
section
section
def updN (e : Nat → Nat) (q x : Nat) : Nat → Nat := fun p => if p = q then x else e p
def relq (e : Nat → Nat) (a b h : Nat) : Bool := decide (e a ≠ 0) && (decide (e b = 0) || decide (e a + h < e b))
def rel1 (e : Nat → Nat) (a b h : Nat) : Nat → Nat := bif relq e a b h then updN e b (e a + h) else e
def hrel (u : hM) (e : Nat → Nat) (r : Nat) : Nat → Nat := rel1 (rel1 e (u 3 r) (u 4 r) (u 5 r)) (u 4 r) (u 3 r) (u 5 r)
def hrelq (u : hM) (e : Nat → Nat) (r : Nat) : Bool := relq e (u 3 r) (u 4 r) (u 5 r) || relq (rel1 e (u 3 r) (u 4 r) (u 5 r)) (u 4 r) (u 3 r) (u 5 r)
def hrnd (u : hM) : Nat → Nat → (Nat → Nat) → Nat → Nat
  | 0, _, e => e
  | k + 1, i, e => hrnd u k (i + 1) (if u 6 i = 0 then hrel u e i else e)
def hrndq (u : hM) : Nat → Nat → (Nat → Nat) → Bool → Bool
  | 0, _, _, b => b
  | k + 1, i, e, b => hrndq u k (i + 1) (if u 6 i = 0 then hrel u e i else e) (if u 6 i = 0 then b || hrelq u e i else b)
def hit (u : hM) : Nat → (Nat → Nat) → Nat → Nat
  | 0, e => e
  | k + 1, e => hit u k (hrnd u (u 2 0) 0 e)
theorem hrel_no {u : hM} {e : Nat → Nat} {r : Nat} (h : hrelq u e r = false) : hrel u e r = e := by
  simp only [hrelq, Bool.or_eq_false_iff] at h
  have e1 : rel1 e (u 3 r) (u 4 r) (u 5 r) = e := by unfold rel1; rw [h.1]; rfl
  unfold hrel
  rw [e1] at h ⊢
  unfold rel1; rw [h.2]; rfl
theorem hrndq_t (u : hM) : ∀ k i e, hrndq u k i e true = true
  | 0, _, _ => rfl
  | k + 1, i, e => by
    simp only [hrndq]
    split
    · rw [Bool.true_or]; exact hrndq_t u k _ _
    · exact hrndq_t u k _ _
theorem hrnd_fix (u : hM) : ∀ k i e b, hrndq u k i e b = false → hrnd u k i e = e
  | 0, _, _, _, _ => rfl
  | k + 1, i, e, b, h => by
    simp only [hrndq] at h
    simp only [hrnd]
    by_cases h6 : u 6 i = 0
    · rw [if_pos h6, if_pos h6] at h
      rw [if_pos h6]
      have hb : (b || hrelq u e i) = false := by
        cases q : (b || hrelq u e i) with
        | false => rfl
        | true => rw [q, hrndq_t] at h; cases h
      have h2 := hrel_no (Bool.or_eq_false_iff.mp hb).2
      rw [h2] at h ⊢
      exact hrnd_fix u k (i + 1) e _ h
    · rw [if_neg h6, if_neg h6] at h
      rw [if_neg h6]
      exact hrnd_fix u k (i + 1) e _ h
theorem hit_fix (u : hM) {e : Nat → Nat} (h : hrnd u (u 2 0) 0 e = e) : ∀ k, hit u k e = e
  | 0 => rfl
  | k + 1 => by simp only [hit]; rw [h]; exact hit_fix u h k
theorem rel1_le {e : Nat → Nat} {a b h m : Nat} (he : ∀ p, e p ≤ m) (hh : h ≤ 12) (p : Nat) : rel1 e a b h p ≤ m + 12 := by
  unfold rel1
  cases relq e a b h with
  | true => simp only [cond_true, updN]; split; (have := he a; omega); (have := he p; omega)
  | false => simp only [cond_false]; have := he p; omega
theorem hrel_le {u : hM} {e : Nat → Nat} {r m : Nat} (he : ∀ p, e p ≤ m) (hh : u 5 r ≤ 12) (p : Nat) : hrel u e r p ≤ m + 24 := rel1_le (m := m + 12) (fun q => rel1_le he hh q) hh p
def g5 (z : mv_Z) (n : Nat) (e : Nat → Nat) : Nat → Int32 := fun p => if p < n then hst (e p) else z.1 5 p
theorem g5_upd (z : mv_Z) (n : Nat) (e : Nat → Nat) (q x : Nat) (hq : q < n) : upd (g5 z n e) q (hst x) = g5 z n (updN e q x) := by
  funext p
  by_cases h : p = q
  · subst h; simp [upd, g5, updN, hq]
  · simp [upd, g5, updN, h]
theorem g5_at {z : mv_Z} {n p : Nat} {e : Nat → Nat} (h : p < n) : g5 z n e p = hst (e p) := by simp [g5, h]
theorem hst_pos {e : Nat} (h : e ≠ 0) : hst e = nI (e - 1) := by cases e with | zero => exact absurd rfl h | succ k => rfl
theorem r_shorten (z : mv_Z) (n : Nat) (e : Nat → Nat) (a b h : Nat) (hn : n ≤ 24) (ha : a < n) (hb : b < n) (hh : h ≤ 12) (he : ∀ p, e p ≤ 1000000) : mv_Runs 1 56 [.ref 3, .int (nI a), .int (nI b), .int (nI h)] (mv_E (mv_w z 5 (g5 z n e))) (some (.int (bif relq e a b h then 1 else 0))) (mv_E (mv_w z 5 (g5 z n (rel1 e a b h)))) := by
  have hea := he a
  have heb := he b
  have la : (mv_w z 5 (g5 z n e)).1 5 a = hst (e a) := by rw [mv_w_get, g5_at ha]
  have lb : (mv_w z 5 (g5 z n e)).1 5 b = hst (e b) := by rw [mv_w_get, g5_at hb]
  by_cases h0 : e a = 0
  · have hq : relq e a b h = false := by simp [relq, h0]
    rw [show rel1 e a b h = e by (unfold rel1; rw [hq]; rfl), hq]
    refine mv_start pX6_shorten (some .boolean) [some (.ref 3), some (.int (nI a)), some (.int (nI b)), some (.int (nI h)), none] rfl rfl rfl rfl (fun V C => ?_)
    refine mv_aload_n C rfl rfl ?_
    refine mv_getR C rfl rfl rfl ?_
    refine mv_iload_n C rfl rfl ?_
    refine mv_aldJ C rfl rfl rfl (by omega) la ?_
    refine mv_iconst C rfl ?_
    refine mv_icmp_ne C rfl (fun c7 => ?_) (fun c7 => ?_)
    · exact absurd (by rw [h0]; rfl) c7
    · refine mv_iconst C rfl ?_
      refine mv_ireturn C rfl mv_okZ0 ?_ ?_
      all_goals rfl
  · have la2 : (mv_w z 5 (g5 z n e)).1 5 a = nI (e a - 1) := by rw [la, hst_pos h0]
    have ew : nI (e a - 1) + nI h = hst (e a + h) := by rw [nI_add, hst_pos (by omega)]; congr 1; omega
    by_cases hq1 : e b = 0
    · have hq : relq e a b h = true := by simp [relq, h0, hq1]
      rw [show rel1 e a b h = updN e b (e a + h) by (unfold rel1; rw [hq]; rfl), hq]
      refine mv_start pX6_shorten (some .boolean) [some (.ref 3), some (.int (nI a)), some (.int (nI b)), some (.int (nI h)), none] rfl rfl rfl rfl (fun V C => ?_)
      refine mv_aload_n C rfl rfl ?_
      refine mv_getR C rfl rfl rfl ?_
      refine mv_iload_n C rfl rfl ?_
      refine mv_aldJ C rfl rfl rfl (by omega) la2 ?_
      refine mv_iconst C rfl ?_
      refine mv_icmp_ne C rfl (fun c7 => ?_) (fun c7 => ?_)
      · refine mv_aload_n C rfl rfl ?_
        refine mv_getR C rfl rfl rfl ?_
        refine mv_iload_n C rfl rfl ?_
        refine mv_aldJ C rfl rfl rfl (by omega) la2 ?_
        refine mv_iload_n C rfl rfl ?_
        refine mv_iadd C rfl ?_
        refine mv_top ew ?_
        refine mv_is4 C rfl rfl ?_
        refine mv_aload_n C rfl rfl ?_
        refine mv_getR C rfl rfl rfl ?_
        refine mv_iload_n C rfl rfl ?_
        refine mv_aldJ C rfl rfl rfl (by omega) lb ?_
        refine mv_iconst C rfl ?_
        refine mv_icmp_eq C rfl (fun c29 => ?_) (fun c29 => ?_)
        · refine mv_aload_n C rfl rfl ?_
          refine mv_getR C rfl rfl rfl ?_
          refine mv_iload_n C rfl rfl ?_
          refine mv_iload C rfl rfl ?_
          refine mv_ast C rfl rfl rfl (by omega) ?_
          refine mv_sto (by rw [mv_uw, g5_upd _ _ _ _ _ hb]) ?_
          refine mv_iconst C rfl ?_
          refine mv_ireturn C rfl mv_okZ1 ?_ ?_
          all_goals rfl
        · exact absurd (by rw [hq1]; rfl) c29
      · exact absurd c7 (nI_nm1 (by omega))
    · have lb2 : (mv_w z 5 (g5 z n e)).1 5 b = nI (e b - 1) := by rw [lb, hst_pos hq1]
      by_cases hq2 : e a + h < e b
      · have hq : relq e a b h = true := by simp [relq, h0, hq2]
        rw [show rel1 e a b h = updN e b (e a + h) by (unfold rel1; rw [hq]; rfl), hq]
        refine mv_start pX6_shorten (some .boolean) [some (.ref 3), some (.int (nI a)), some (.int (nI b)), some (.int (nI h)), none] rfl rfl rfl rfl (fun V C => ?_)
        refine mv_aload_n C rfl rfl ?_
        refine mv_getR C rfl rfl rfl ?_
        refine mv_iload_n C rfl rfl ?_
        refine mv_aldJ C rfl rfl rfl (by omega) la2 ?_
        refine mv_iconst C rfl ?_
        refine mv_icmp_ne C rfl (fun c7 => ?_) (fun c7 => ?_)
        · refine mv_aload_n C rfl rfl ?_
          refine mv_getR C rfl rfl rfl ?_
          refine mv_iload_n C rfl rfl ?_
          refine mv_aldJ C rfl rfl rfl (by omega) la2 ?_
          refine mv_iload_n C rfl rfl ?_
          refine mv_iadd C rfl ?_
          refine mv_top ew ?_
          refine mv_is4 C rfl rfl ?_
          refine mv_aload_n C rfl rfl ?_
          refine mv_getR C rfl rfl rfl ?_
          refine mv_iload_n C rfl rfl ?_
          refine mv_aldJ C rfl rfl rfl (by omega) lb2 ?_
          refine mv_iconst C rfl ?_
          refine mv_icmp_eq C rfl (fun c29 => ?_) (fun c29 => ?_)
          · exact absurd c29 (nI_nm1 (by omega))
          · refine mv_aload_n C rfl rfl ?_
            refine mv_getR C rfl rfl rfl ?_
            refine mv_iload_n C rfl rfl ?_
            refine mv_aldJ C rfl rfl rfl (by omega) lb2 ?_
            refine mv_iload C rfl rfl ?_
            refine mv_icmp_gt C rfl (fun c40 => ?_) (fun c40 => ?_)
            · refine mv_aload_n C rfl rfl ?_
              refine mv_getR C rfl rfl rfl ?_
              refine mv_iload_n C rfl rfl ?_
              refine mv_iload C rfl rfl ?_
              refine mv_ast C rfl rfl rfl (by omega) ?_
              refine mv_sto (by rw [mv_uw, g5_upd _ _ _ _ _ hb]) ?_
              refine mv_iconst C rfl ?_
              refine mv_ireturn C rfl mv_okZ1 ?_ ?_
              all_goals rfl
            · exact absurd (by rw [hst_pos (by omega)]; exact nI_lt (by omega) (by omega)) c40
        · exact absurd c7 (nI_nm1 (by omega))
      · have hq : relq e a b h = false := by simp [relq, hq1, hq2]
        rw [show rel1 e a b h = e by (unfold rel1; rw [hq]; rfl), hq]
        refine mv_start pX6_shorten (some .boolean) [some (.ref 3), some (.int (nI a)), some (.int (nI b)), some (.int (nI h)), none] rfl rfl rfl rfl (fun V C => ?_)
        refine mv_aload_n C rfl rfl ?_
        refine mv_getR C rfl rfl rfl ?_
        refine mv_iload_n C rfl rfl ?_
        refine mv_aldJ C rfl rfl rfl (by omega) la2 ?_
        refine mv_iconst C rfl ?_
        refine mv_icmp_ne C rfl (fun c7 => ?_) (fun c7 => ?_)
        · refine mv_aload_n C rfl rfl ?_
          refine mv_getR C rfl rfl rfl ?_
          refine mv_iload_n C rfl rfl ?_
          refine mv_aldJ C rfl rfl rfl (by omega) la2 ?_
          refine mv_iload_n C rfl rfl ?_
          refine mv_iadd C rfl ?_
          refine mv_top ew ?_
          refine mv_is4 C rfl rfl ?_
          refine mv_aload_n C rfl rfl ?_
          refine mv_getR C rfl rfl rfl ?_
          refine mv_iload_n C rfl rfl ?_
          refine mv_aldJ C rfl rfl rfl (by omega) lb2 ?_
          refine mv_iconst C rfl ?_
          refine mv_icmp_eq C rfl (fun c29 => ?_) (fun c29 => ?_)
          · exact absurd c29 (nI_nm1 (by omega))
          · refine mv_aload_n C rfl rfl ?_
            refine mv_getR C rfl rfl rfl ?_
            refine mv_iload_n C rfl rfl ?_
            refine mv_aldJ C rfl rfl rfl (by omega) lb2 ?_
            refine mv_iload C rfl rfl ?_
            refine mv_icmp_gt C rfl (fun c40 => ?_) (fun c40 => ?_)
            · exact absurd c40 (by rw [hst_pos (by omega)]; exact nI_nlt (by omega) (by omega))
            · refine mv_iconst C rfl ?_
              refine mv_ireturn C rfl mv_okZ0 ?_ ?_
              all_goals rfl
        · exact absurd c7 (nI_nm1 (by omega))
end
end
section
section
theorem b_or01 (a b : Bool) : (bif a then (1 : Int32) else 0) ||| (bif b then 1 else 0) = (bif a || b then 1 else 0) := by cases a <;> cases b <;> decide
def hfar (u : hM) (a : Nat) : Nat → Nat := hit u (u 0 0) (updN (fun _ => 0) a 1)
theorem g5_init (z : mv_Z) (i : Nat) : upd (g5 z i (fun _ => 0)) i (-1) = g5 z (i + 1) (fun _ => 0) := by
  funext p
  by_cases h : p = i
  · subst h; simp [upd, g5, hst]
  · simp only [upd, h, if_false, g5]
    by_cases h1 : p < i
    · rw [if_pos h1, if_pos (by omega)]
    · rw [if_neg h1, if_neg (by omega)]
theorem r_shortest (z : mv_Z) (u : hM) (a b : Nat) (ha : a < u 0 0) (hb : b < u 0 0) (hi : hI u) (hz : rX u z) : mv_Runs 2 55 [.ref 3, .int (nI a), .int (nI b)] (mv_E z) (some (.int (hst (hfar u a b)))) (mv_E (mv_w z 5 (g5 z (u 0 0) (hfar u a)))) := by
  have hn := rX_s hz 3 6 0 (by decide)
  have hr := rX_s hz 3 7 2 (by decide)
  have h24 := hi.1
  have h40 := hi.2.2.1
  have hrd := hi.2.2.2.1
  have hsh := hi.2.2.2.2.1
  have hnf : ∀ f, (mv_w z 5 f).1 3 6 = nI (u 0 0) := fun f => by rw [mv_w_ne (by decide)]; exact hn
  have hrf : ∀ f, (mv_w z 5 f).1 3 7 = nI (u 2 0) := fun f => by rw [mv_w_ne (by decide)]; exact hr
  have hA : ∀ f r, (mv_w z 5 f).1 6 r = nI (u 3 r) := fun f r => by rw [mv_w_ne (by decide)]; exact rX_a hz 6 3 (by decide) r
  have hB : ∀ f r, (mv_w z 5 f).1 7 r = nI (u 4 r) := fun f r => by rw [mv_w_ne (by decide)]; exact rX_a hz 7 4 (by decide) r
  have hH : ∀ f r, (mv_w z 5 f).1 8 r = nI (u 5 r) := fun f r => by rw [mv_w_ne (by decide)]; exact rX_a hz 8 5 (by decide) r
  have hS : ∀ f r, (mv_w z 5 f).1 9 r = nI (u 6 r) := fun f r => by rw [mv_w_ne (by decide)]; exact rX_a hz 9 6 (by decide) r
  refine mv_start pX6_shortest (some .int) [some (.ref 3), some (.int (nI a)), some (.int (nI b)), none, none, none] rfl rfl rfl rfl (fun V C => ?_)
  have fin : ∀ w3 w4 w5 : Option Value, V 140 [some (.ref 3), some (.int (nI a)), some (.int (nI b)), w3, w4, w5] [] (mv_E (mv_w z 5 (g5 z (u 0 0) (hfar u a)))) := by
    intro w3 w4 w5
    refine mv_aload_n C rfl rfl ?_
    refine mv_getR C rfl rfl rfl ?_
    refine mv_iload_n C rfl rfl ?_
    refine mv_aldJ C rfl rfl rfl (by omega) (show _ = hst (hfar u a b) by rw [mv_w_get, g5_at hb]) ?_
    refine mv_ireturn C rfl mv_okI ?_ ?_
    all_goals rfl
  have outer : ∀ (k t : Nat) (e : Nat → Nat) (bt : Bool) (w5 : Option Value), t + k = u 0 0 → (bt = false → hrnd u (u 2 0) 0 e = e) → hit u k e = hfar u a → (∀ p, e p ≤ 1 + 24 * (40 * t)) → V 35 [some (.ref 3), some (.int (nI a)), some (.int (nI b)), some (.int (bif bt then 1 else 0)), some (.int (nI t)), w5] [] (mv_E (mv_w z 5 (g5 z (u 0 0) e))) := by
    intro k
    induction k with
    | zero =>
      intro t e bt w5 ht hbt he hle
      simp only [hit] at he
      subst he
      refine mv_iload C rfl rfl ?_
      refine mv_aload_n C rfl rfl ?_
      refine mv_getJ C rfl rfl rfl (hnf _) ?_
      refine mv_icmp_ge C rfl (fun c41 => ?_) (fun c41 => ?_)
      · exact fin _ _ _
      · exact absurd (nI_le (by omega) (by omega)) c41
    | succ k ih =>
      intro t e bt w5 ht hbt he hle
      cases bt with
      | false =>
        have hf := hbt rfl
        rw [hit_fix u hf] at he
        subst he
        refine mv_iload C rfl rfl ?_
        refine mv_aload_n C rfl rfl ?_
        refine mv_getJ C rfl rfl rfl (hnf _) ?_
        refine mv_icmp_ge C rfl (fun c41 => ?_) (fun c41 => ?_)
        · exact absurd c41 (nI_ge (by omega) (by omega))
        · refine mv_iload_n C rfl rfl ?_
          refine mv_if_eq C rfl (fun c45 => ?_) (fun c45 => ?_)
          · exact fin _ _ _
          · exact absurd rfl c45
      | true =>
        simp only [hit] at he
        have inner : ∀ (j i : Nat) (e1 : Nat → Nat) (b1 : Bool), i + j = u 2 0 → hrnd u j i e1 = hrnd u (u 2 0) 0 e → hrndq u j i e1 b1 = hrndq u (u 2 0) 0 e false → (∀ p, e1 p ≤ 1 + 24 * (40 * t + i)) → V 53 [some (.ref 3), some (.int (nI a)), some (.int (nI b)), some (.int (bif b1 then 1 else 0)), some (.int (nI t)), some (.int (nI i))] [] (mv_E (mv_w z 5 (g5 z (u 0 0) e1))) := by
          intro j
          induction j with
          | zero =>
            intro i e1 b1 hj h1 h2 h3
            simp only [hrnd] at h1
            simp only [hrndq] at h2
            have := ih (t + 1) e1 b1 (some (.int (nI i))) (by omega) (fun q => by rw [h1]; rw [q] at h2; have h4 := hrnd_fix u (u 2 0) 0 e false h2.symm; rw [h4]; exact h4) (by rw [h1]; exact he) (fun p => by have := h3 p; omega)
            refine mv_iload C rfl rfl ?_
            refine mv_aload_n C rfl rfl ?_
            refine mv_getJ C rfl rfl rfl (hrf _) ?_
            refine mv_icmp_ge C rfl (fun c59 => ?_) (fun c59 => ?_)
            · refine mv_inc4 C rfl rfl ?_
              refine mv_goto C rfl ?_
              simp only [nI_1]
              exact this
            · exact absurd (nI_le (by omega) (by omega)) c59
          | succ j jh =>
            intro i e1 b1 hj h1 h2 h3
            have hri := hrd i (by omega)
            have hsi := hsh i
            simp only [hrnd] at h1
            simp only [hrndq] at h2
            have h3b : ∀ p, e1 p ≤ 1000000 := fun p => by have := h3 p; omega
            by_cases h6 : u 6 i = 0
            · rw [if_pos h6] at h1
              rw [if_pos h6, if_pos h6] at h2
              have nx := jh (i + 1) (hrel u e1 i) (b1 || hrelq u e1 i) (by omega) h1 h2 (fun p => by have := hrel_le (u := u) (e := e1) (r := i) h3 (by omega) p; omega)
              have R1 := r_shorten z (u 0 0) e1 (u 3 i) (u 4 i) (u 5 i) h24 (by omega) (by omega) (by omega) h3b
              have R2 := r_shorten z (u 0 0) (rel1 e1 (u 3 i) (u 4 i) (u 5 i)) (u 4 i) (u 3 i) (u 5 i) h24 (by omega) (by omega) (by omega) (fun p => by have := rel1_le (e := e1) (a := u 3 i) (b := u 4 i) (h := u 5 i) h3 (by omega) p; omega)
              refine mv_iload C rfl rfl ?_
              refine mv_aload_n C rfl rfl ?_
              refine mv_getJ C rfl rfl rfl (hrf _) ?_
              refine mv_icmp_ge C rfl (fun c59 => ?_) (fun c59 => ?_)
              · exact absurd c59 (nI_ge (by omega) (by omega))
              · refine mv_aload_n C rfl rfl ?_
                refine mv_getR C rfl rfl rfl ?_
                refine mv_iload C rfl rfl ?_
                refine mv_zldJ C rfl rfl rfl (by omega) (hS _ _) ?_
                refine mv_if_ne C rfl (fun c69 => ?_) (fun c69 => ?_)
                · exact absurd (by rw [h6]; rfl) c69
                · refine mv_iload_n C rfl rfl ?_
                  refine mv_aload_n C rfl rfl ?_
                  refine mv_aload_n C rfl rfl ?_
                  refine mv_getR C rfl rfl rfl ?_
                  refine mv_iload C rfl rfl ?_
                  refine mv_aldJ C rfl rfl rfl (by omega) (hA _ _) ?_
                  refine mv_aload_n C rfl rfl ?_
                  refine mv_getR C rfl rfl rfl ?_
                  refine mv_iload C rfl rfl ?_
                  refine mv_aldJ C rfl rfl rfl (by omega) (hB _ _) ?_
                  refine mv_aload_n C rfl rfl ?_
                  refine mv_getR C rfl rfl rfl ?_
                  refine mv_iload C rfl rfl ?_
                  refine mv_aldJ C rfl rfl rfl (by omega) (hH _ _) ?_
                  refine mv_cV C rfl R1 (by decide) rfl rfl rfl (Nat.le_of_ble_eq_true rfl) (Nat.le_refl _) (Nat.le_refl _) rfl ?_
                  refine mv_ior C rfl ?_
                  refine mv_top (b_or01 _ _) ?_
                  refine mv_is_n3 C rfl rfl ?_
                  refine mv_iload_n C rfl rfl ?_
                  refine mv_aload_n C rfl rfl ?_
                  refine mv_aload_n C rfl rfl ?_
                  refine mv_getR C rfl rfl rfl ?_
                  refine mv_iload C rfl rfl ?_
                  refine mv_aldJ C rfl rfl rfl (by omega) (hB _ _) ?_
                  refine mv_aload_n C rfl rfl ?_
                  refine mv_getR C rfl rfl rfl ?_
                  refine mv_iload C rfl rfl ?_
                  refine mv_aldJ C rfl rfl rfl (by omega) (hA _ _) ?_
                  refine mv_aload_n C rfl rfl ?_
                  refine mv_getR C rfl rfl rfl ?_
                  refine mv_iload C rfl rfl ?_
                  refine mv_aldJ C rfl rfl rfl (by omega) (hH _ _) ?_
                  refine mv_cV C rfl R2 (by decide) rfl rfl rfl (Nat.le_of_ble_eq_true rfl) (Nat.le_refl _) (Nat.le_refl _) rfl ?_
                  refine mv_ior C rfl ?_
                  refine mv_top (b_or01 _ _) ?_
                  refine mv_is_n3 C rfl rfl ?_
                  refine mv_inc5 C rfl rfl ?_
                  refine mv_goto C rfl ?_
                  simp only [nI_1]
                  rw [Bool.or_assoc]
                  exact nx
            · rw [if_neg h6] at h1
              rw [if_neg h6, if_neg h6] at h2
              have nx := jh (i + 1) e1 b1 (by omega) h1 h2 (fun p => by have := h3 p; omega)
              have h61 : u 6 i = 1 := by omega
              refine mv_iload C rfl rfl ?_
              refine mv_aload_n C rfl rfl ?_
              refine mv_getJ C rfl rfl rfl (hrf _) ?_
              refine mv_icmp_ge C rfl (fun c59 => ?_) (fun c59 => ?_)
              · exact absurd c59 (nI_ge (by omega) (by omega))
              · refine mv_aload_n C rfl rfl ?_
                refine mv_getR C rfl rfl rfl ?_
                refine mv_iload C rfl rfl ?_
                refine mv_zldJ C rfl rfl rfl (by omega) (hS _ _) ?_
                refine mv_if_ne C rfl (fun c69 => ?_) (fun c69 => ?_)
                · refine mv_inc5 C rfl rfl ?_
                  refine mv_goto C rfl ?_
                  simp only [nI_1]
                  exact nx
                · exact absurd c69 (by rw [h61]; decide)
        have i0 := inner (u 2 0) 0 e false (by omega) rfl rfl (fun p => by have := hle p; omega)
        refine mv_iload C rfl rfl ?_
        refine mv_aload_n C rfl rfl ?_
        refine mv_getJ C rfl rfl rfl (hnf _) ?_
        refine mv_icmp_ge C rfl (fun c41 => ?_) (fun c41 => ?_)
        · exact absurd c41 (nI_ge (by omega) (by omega))
        · refine mv_iload_n C rfl rfl ?_
          refine mv_if_eq C rfl (fun c45 => ?_) (fun c45 => ?_)
          · exact absurd c45 (by decide)
          · refine mv_iconst C rfl ?_
            refine mv_is_n3 C rfl rfl ?_
            refine mv_iconst C rfl ?_
            refine mv_is5 C rfl rfl ?_
            exact i0
  have o0 := outer (u 0 0) 0 (updN (fun _ => 0) a 1) true none (by omega) (fun q => by cases q) rfl (fun p => by simp only [updN]; split <;> omega)
  have mid : ∀ w3 : Option Value, V 23 [some (.ref 3), some (.int (nI a)), some (.int (nI b)), w3, none, none] [] (mv_E (mv_w z 5 (g5 z (u 0 0) (fun _ => 0)))) := by
    intro w3
    refine mv_aload_n C rfl rfl ?_
    refine mv_getR C rfl rfl rfl ?_
    refine mv_iload_n C rfl rfl ?_
    refine mv_iconst C rfl ?_
    refine mv_ast C rfl rfl rfl (by omega) ?_
    refine mv_sto (z1 := mv_w z 5 (g5 z (u 0 0) (updN (fun _ => 0) a 1))) (by rw [mv_uw, ← g5_upd _ _ _ _ _ ha]; rfl) ?_
    refine mv_iconst C rfl ?_
    refine mv_is_n3 C rfl rfl ?_
    refine mv_iconst C rfl ?_
    refine mv_is4 C rfl rfl ?_
    exact o0
  have init : ∀ (k i : Nat), i + k = u 0 0 → V 2 [some (.ref 3), some (.int (nI a)), some (.int (nI b)), some (.int (nI i)), none, none] [] (mv_E (mv_w z 5 (g5 z i (fun _ => 0)))) := by
    intro k
    induction k with
    | zero =>
      intro i hi2
      obtain rfl : i = u 0 0 := by omega
      refine mv_iload_n C rfl rfl ?_
      refine mv_aload_n C rfl rfl ?_
      refine mv_getJ C rfl rfl rfl (hnf _) ?_
      refine mv_icmp_ge C rfl (fun c7 => ?_) (fun c7 => ?_)
      · exact mid _
      · exact absurd (nI_le (by omega) (by omega)) c7
    | succ k ih =>
      intro i hi2
      have e := ih (i + 1) (by omega)
      rw [← g5_init, ← mv_uw] at e
      refine mv_iload_n C rfl rfl ?_
      refine mv_aload_n C rfl rfl ?_
      refine mv_getJ C rfl rfl rfl (hnf _) ?_
      refine mv_icmp_ge C rfl (fun c7 => ?_) (fun c7 => ?_)
      · exact absurd c7 (nI_ge (by omega) (by omega))
      · refine mv_aload_n C rfl rfl ?_
        refine mv_getR C rfl rfl rfl ?_
        refine mv_iload_n C rfl rfl ?_
        refine mv_iconst C rfl ?_
        refine mv_ast C rfl rfl rfl (by omega) ?_
        refine mv_inc3 C rfl rfl ?_
        refine mv_goto C rfl ?_
        simp only [nI_1]
        exact e
  have z0 : mv_w z 5 (g5 z 0 (fun _ => 0)) = z := by rw [show g5 z 0 (fun _ => 0) = z.1 5 by (funext p; simp [g5]), mv_w_self]
  have l0 := init (u 0 0) 0 (by omega)
  rw [z0] at l0
  refine mv_iconst C rfl ?_
  refine mv_is_n3 C rfl rfl ?_
  exact l0
def a_far (u : hM) (a b : Int32) : Int32 := if (0 ≤ a ∧ a < nI (u 0 0)) ∧ (0 ≤ b ∧ b < nI (u 0 0)) then hst (hfar u a.toNatClampNeg b.toNatClampNeg) else -1
theorem x_far (u : hM) (z : mv_Z) (a b : Int32) (hi : hI u) (hz : rX u z) : xR 78 [.int a, .int b] u z (.int (a_far u a b)) u := by
  have hn := rX_s hz 3 6 0 (by decide)
  have h24 := hi.1
  have Ra := r_hasParish z a
  have Rb := r_hasParish z b
  rw [hn] at Ra Rb
  unfold a_far
  by_cases hc : (0 ≤ a ∧ a < nI (u 0 0)) ∧ (0 ≤ b ∧ b < nI (u 0 0))
  · rw [if_pos hc]
    rw [if_pos hc.1] at Ra
    rw [if_pos hc.2] at Rb
    have ea := nI_rngc hc.1.1 hc.1.2 (by omega)
    have eb := nI_rngc hc.2.1 hc.2.2 (by omega)
    generalize a.toNatClampNeg = ka at *
    generalize b.toNatClampNeg = kb at *
    obtain ⟨la, rfl⟩ := ea
    obtain ⟨lb, rfl⟩ := eb
    have R := r_shortest z u ka kb la lb hi hz
    refine ⟨_, mv_up (d := 3) (S1 := mv_E (mv_w z 5 (g5 z (u 0 0) (hfar u ka)))) ?_ rfl, rX_freew hz 5 _ (by decide), fX_w fX_rf (by decide)⟩
    refine mv_start pX10_far (some .int) [some (.ref 0), some (.int (nI ka)), some (.int (nI kb))] rfl rfl rfl rfl (fun V C => ?_)
    refine mv_aload_n C rfl rfl ?_
    refine mv_getR C rfl rfl rfl ?_
    refine mv_iload_n C rfl rfl ?_
    refine mv_cV C rfl (mv_up Ra rfl) (by decide) rfl rfl rfl (Nat.le_of_ble_eq_true rfl) (Nat.le_refl _) (Nat.le_refl _) rfl ?_
    refine mv_if_eq C rfl (fun c8 => ?_) (fun c8 => ?_)
    · exact absurd c8 (by decide)
    · refine mv_aload_n C rfl rfl ?_
      refine mv_getR C rfl rfl rfl ?_
      refine mv_iload_n C rfl rfl ?_
      refine mv_cV C rfl (mv_up Rb rfl) (by decide) rfl rfl rfl (Nat.le_of_ble_eq_true rfl) (Nat.le_refl _) (Nat.le_refl _) rfl ?_
      refine mv_if_ne C rfl (fun c19 => ?_) (fun c19 => ?_)
      · refine mv_aload_n C rfl rfl ?_
        refine mv_getR C rfl rfl rfl ?_
        refine mv_iload_n C rfl rfl ?_
        refine mv_iload_n C rfl rfl ?_
        refine mv_cV C rfl R (by decide) rfl rfl rfl (Nat.le_of_ble_eq_true rfl) (Nat.le_refl _) (Nat.le_refl _) rfl ?_
        refine mv_ireturn C rfl mv_okI ?_ ?_
        all_goals rfl
      · exact absurd c19 (by decide)
  · rw [if_neg hc]
    refine ⟨_, mv_up (d := 3) (S1 := mv_E z) ?_ rfl, hz, fX_rf⟩
    refine mv_start pX10_far (some .int) [some (.ref 0), some (.int a), some (.int b)] rfl rfl rfl rfl (fun V C => ?_)
    refine mv_aload_n C rfl rfl ?_
    refine mv_getR C rfl rfl rfl ?_
    refine mv_iload_n C rfl rfl ?_
    refine mv_cV C rfl (mv_up Ra rfl) (by decide) rfl rfl rfl (Nat.le_of_ble_eq_true rfl) (Nat.le_refl _) (Nat.le_refl _) rfl ?_
    refine mv_if_eq C rfl (fun c8 => ?_) (fun c8 => ?_)
    · try simp only [b01, b10, Classical.not_not] at c8
      try simp (disch := omega) only [lit_0, lit_1, lit_2, lit_3, lit_4, lit_5, lit_6, lit_7, lit_8, lit_9, lit_10, lit_11, lit_12, lit_23, lit_24, lit_30, lit_31, lit_32, lit_39, lit_40, lit_41, lit_46, lit_47, lit_48, lit_96, lit_99, lit_100, lit_255, lit_999, lit_1000, lit_2024, lit_32767, lit_1000000, nI_ltI, nI_leI, nI_eq, Nat.not_lt, Nat.not_le] at c8
      try simp only [unl_0, unl_1, unl_2, unl_3, unl_4, unl_5, unl_6, unl_7, unl_8, unl_9, unl_10, unl_11, unl_12, unl_23, unl_24, unl_30, unl_31, unl_32, unl_39, unl_40, unl_41, unl_46, unl_47, unl_48, unl_96, unl_99, unl_100, unl_255, unl_999, unl_1000, unl_2024, unl_32767, unl_1000000] at c8
      refine mv_iconst C rfl ?_
      refine mv_ireturn C rfl mv_okI ?_ ?_
      all_goals rfl
    · try simp only [b01, b10, Classical.not_not] at c8
      try simp (disch := omega) only [lit_0, lit_1, lit_2, lit_3, lit_4, lit_5, lit_6, lit_7, lit_8, lit_9, lit_10, lit_11, lit_12, lit_23, lit_24, lit_30, lit_31, lit_32, lit_39, lit_40, lit_41, lit_46, lit_47, lit_48, lit_96, lit_99, lit_100, lit_255, lit_999, lit_1000, lit_2024, lit_32767, lit_1000000, nI_ltI, nI_leI, nI_eq, Nat.not_lt, Nat.not_le] at c8
      try simp only [unl_0, unl_1, unl_2, unl_3, unl_4, unl_5, unl_6, unl_7, unl_8, unl_9, unl_10, unl_11, unl_12, unl_23, unl_24, unl_30, unl_31, unl_32, unl_39, unl_40, unl_41, unl_46, unl_47, unl_48, unl_96, unl_99, unl_100, unl_255, unl_999, unl_1000, unl_2024, unl_32767, unl_1000000] at c8
      refine mv_aload_n C rfl rfl ?_
      refine mv_getR C rfl rfl rfl ?_
      refine mv_iload_n C rfl rfl ?_
      refine mv_cV C rfl (mv_up Rb rfl) (by decide) rfl rfl rfl (Nat.le_of_ble_eq_true rfl) (Nat.le_refl _) (Nat.le_refl _) rfl ?_
      refine mv_if_ne C rfl (fun c19 => ?_) (fun c19 => ?_)
      · exact absurd ⟨c8, b10.mp c19⟩ hc
      · try simp only [b01, b10, Classical.not_not] at c19
        try simp (disch := omega) only [lit_0, lit_1, lit_2, lit_3, lit_4, lit_5, lit_6, lit_7, lit_8, lit_9, lit_10, lit_11, lit_12, lit_23, lit_24, lit_30, lit_31, lit_32, lit_39, lit_40, lit_41, lit_46, lit_47, lit_48, lit_96, lit_99, lit_100, lit_255, lit_999, lit_1000, lit_2024, lit_32767, lit_1000000, nI_ltI, nI_leI, nI_eq, Nat.not_lt, Nat.not_le] at c19
        try simp only [unl_0, unl_1, unl_2, unl_3, unl_4, unl_5, unl_6, unl_7, unl_8, unl_9, unl_10, unl_11, unl_12, unl_23, unl_24, unl_30, unl_31, unl_32, unl_39, unl_40, unl_41, unl_46, unl_47, unl_48, unl_96, unl_99, unl_100, unl_255, unl_999, unl_1000, unl_2024, unl_32767, unl_1000000] at c19
        refine mv_iconst C rfl ?_
        refine mv_ireturn C rfl mv_okI ?_ ?_
        all_goals rfl
end
end
section
section
theorem rel1_at (e : Nat → Nat) (a b h : Nat) : rel1 e a b h b = if e a ≠ 0 ∧ (e b = 0 ∨ e a + h < e b) then e a + h else e b := by
  unfold rel1
  by_cases q : e a ≠ 0 ∧ (e b = 0 ∨ e a + h < e b)
  · rw [if_pos q, show relq e a b h = true by simp [relq, q]]; simp [updN]
  · rw [if_neg q, show relq e a b h = false by (cases w : relq e a b h with | false => rfl | true => exact absurd (by simpa [relq] using w) q)]; rfl
theorem rel1_ne {e : Nat → Nat} {a b h p : Nat} (hp : p ≠ b) : rel1 e a b h p = e p := by
  unfold rel1
  cases relq e a b h with
  | true => simp [updN, hp]
  | false => rfl
theorem rel_swap (e : Nat → Nat) (a b h : Nat) (hab : a ≠ b) : rel1 (rel1 e b a h) a b h = rel1 (rel1 e a b h) b a h := by
  have hba : b ≠ a := fun q => hab q.symm
  funext p
  by_cases pa : p = a
  · subst pa
    rw [rel1_ne hab, rel1_at, rel1_at, rel1_at, rel1_ne hab]
    repeat' split
    all_goals omega
  · by_cases pb : p = b
    · subst pb
      rw [rel1_ne pa, rel1_at, rel1_at, rel1_at, rel1_ne pa]
      repeat' split
      all_goals omega
    · rw [rel1_ne pb, rel1_ne pa, rel1_ne pa, rel1_ne pb]
def fr (e : Nat) : Int32 := if e = 0 then nI 268435456 else nI (e - 1)
theorem fr_min {ea eb h : Nat} (ha : ea ≤ 1000000) (hb : eb ≤ 1000000) (hh : h ≤ 12) : (if fr eb + nI h < fr ea then fr eb + nI h else fr ea) = fr (if eb ≠ 0 ∧ (ea = 0 ∨ eb + h < ea) then eb + h else ea) := by
  unfold fr
  by_cases h0 : eb = 0
  · rw [if_pos h0, if_neg (fun q : eb ≠ 0 ∧ (ea = 0 ∨ eb + h < ea) => q.1 h0), nI_add]
    rw [if_neg]
    intro q
    split at q
    · exact absurd ((nI_ltI (by omega) (by omega)).mp q) (by omega)
    · exact absurd ((nI_ltI (by omega) (by omega)).mp q) (by omega)
  · rw [if_neg h0, nI_add]
    by_cases h1 : ea = 0
    · rw [if_pos h1, if_pos (show eb ≠ 0 ∧ (ea = 0 ∨ eb + h < ea) from ⟨h0, Or.inl h1⟩), if_neg (show ¬ eb + h = 0 by omega), if_pos (nI_lt (by omega) (by omega))]
      congr 1; omega
    · rw [if_neg h1]
      by_cases h2 : eb + h < ea
      · rw [if_pos (show eb ≠ 0 ∧ (ea = 0 ∨ eb + h < ea) from ⟨h0, Or.inr h2⟩), if_neg (show ¬ eb + h = 0 by omega), if_pos (nI_lt (by omega) (by omega))]
        congr 1; omega
      · rw [if_neg (show ¬ (eb ≠ 0 ∧ (ea = 0 ∨ eb + h < ea)) by omega), if_neg h1, if_neg (nI_nlt (by omega) (by omega))]
def g75 (z : mv_Z) (n : Nat) (e : Nat → Nat) : Nat → Int32 := fun p => if p < n then fr (e p) else z.1 75 p
theorem g75_at {z : mv_Z} {n p : Nat} {e : Nat → Nat} (h : p < n) : g75 z n e p = fr (e p) := by simp [g75, h]
theorem g75_rel (z : mv_Z) (n : Nat) (e : Nat → Nat) (a b h : Nat) (hb : b < n) : upd (g75 z n e) b (fr (rel1 e a b h b)) = g75 z n (rel1 e a b h) := by
  funext p
  by_cases q : p = b
  · subst q; simp [upd, g75, hb]
  · simp only [upd, q, if_false, g75]; rw [rel1_ne q]
theorem g75_init (z : mv_Z) (a i : Nat) : upd (g75 z i (updN (fun _ => 0) a 1)) i (fr (updN (fun _ => 0) a 1 i)) = g75 z (i + 1) (updN (fun _ => 0) a 1) := by
  funext p
  by_cases h : p = i
  · subst h; simp [upd, g75]
  · simp only [upd, h, if_false, g75]
    by_cases h1 : p < i
    · rw [if_pos h1, if_pos (by omega)]
    · rw [if_neg h1, if_neg (by omega)]
theorem rM_freew {u : hM} {z : mv_Z} (h : rM u z) (cell : Nat) (f : Nat → Int32) (hc : cell ∈ [75, 80, 81, 83]) : rM u (mv_w z cell f) := by
  obtain ⟨⟨h1a, h1b⟩, h3, h4, h6, h8⟩ := h
  have e1 : ∀ c ∈ [75, 80, 81, 83], c ≠ 68 ∧ c ≠ 84 ∧ c ≠ 89 ∧ c ≠ 90 ∧ c ≠ 91 ∧ c ≠ 92 ∧ c ≠ 93 ∧ c ≠ 82 ∧ (∀ q ∈ tM, q.1 ≠ c) ∧ ∀ q ∈ sM, q.1 ≠ c := by decide
  obtain ⟨c1, c2, c3, c4, c5, c6, c7, c8, c9, c10⟩ := e1 _ hc
  unfold rM
  rw [mv_w_ne (q := 68) c1.symm, mv_w_ne (q := 84) c2.symm, mv_w_ne (q := 89) c3.symm, mv_w_ne (q := 90) c4.symm, mv_w_ne (q := 91) c5.symm, mv_w_ne (q := 92) c6.symm, mv_w_ne (q := 93) c7.symm, mv_w_ne (q := 82) c8.symm]
  exact ⟨⟨fun q hq => by rw [mv_w_ne (c9 q hq)]; exact h1a q hq, fun q hq => by rw [mv_w_ne (c10 q hq)]; exact h1b q hq⟩, h3, h4, h6, h8⟩
theorem hrnd_le (u : hM) (hh : ∀ r, r < u 2 0 → u 5 r ≤ 12) : ∀ k i e m, i + k = u 2 0 → (∀ p, e p ≤ m) → ∀ p, hrnd u k i e p ≤ m + 24 * k
  | 0, _, e, m, _, h, p => by simp only [hrnd]; have := h p; omega
  | k + 1, i, e, m, hi, h, p => by
    simp only [hrnd]
    have := hrnd_le u hh k (i + 1) (if u 6 i = 0 then hrel u e i else e) (m + 24) (by omega) (fun q => by
      split
      · exact hrel_le h (hh i (by omega)) q
      · have := h q; omega) p
    omega
theorem hit_le (u : hM) (hh : ∀ r, r < u 2 0 → u 5 r ≤ 12) : ∀ k e m, (∀ p, e p ≤ m) → ∀ p, hit u k e p ≤ m + 24 * u 2 0 * k
  | 0, e, m, h, p => by simp only [hit]; have := h p; omega
  | k + 1, e, m, h, p => by
    simp only [hit]
    have := hit_le u hh k _ _ (hrnd_le u hh (u 2 0) 0 e m (by omega) h) p
    rw [Nat.mul_succ]; omega
theorem m_far (u : hM) (z : mv_Z) (a b : Int32) (hi : hI u) (hz : rM u z) : mR 123 [.int a, .int b] u z (.int (a_far u a b)) u := by
  have h0 := rM_free hz 68 0 0 (Or.inr ⟨rfl, by decide⟩)
  have hn := rM_s h0 1 0 (by decide)
  have hr := rM_s h0 4 2 (by decide)
  have h24 := hi.1
  have h40 := hi.2.2.1
  have hrd := hi.2.2.2.1
  have hsh := hi.2.2.2.2.1
  have Ra := r_mIsParish (mv_u z 68 0 0) a _ hn h24
  have Rb := r_mIsParish (mv_u z 68 0 0) b _ hn h24
  unfold a_far
  by_cases hc : (0 ≤ a ∧ a < nI (u 0 0)) ∧ (0 ≤ b ∧ b < nI (u 0 0))
  · rw [if_pos hc]
    rw [if_pos hc.1] at Ra
    rw [if_pos hc.2] at Rb
    have ea := nI_rngc hc.1.1 hc.1.2 (by omega)
    have eb := nI_rngc hc.2.1 hc.2.2 (by omega)
    generalize a.toNatClampNeg = ka at *
    generalize b.toNatClampNeg = kb at *
    obtain ⟨la, rfl⟩ := ea
    obtain ⟨lb, rfl⟩ := eb
    have hf1 : (mv_u z 68 0 0).1 75 = (mv_u z 68 0 0).1 75 := rfl
    generalize hz0 : mv_u z 68 0 0 = z0 at *
    refine ⟨mv_w z0 75 (g75 z0 (u 0 0) (hfar u ka)), mv_up (d := 3) ?_ rfl, rM_freew h0 75 _ (by decide), by rw [← hz0]; exact fM_w (fM_u fM_rf (by decide)) (by decide)⟩
    have hnf : ∀ f, (mv_w z0 75 f).1 68 1 = nI (u 0 0) := fun f => by rw [mv_w_ne (by decide)]; exact hn
    have hrf : ∀ f, (mv_w z0 75 f).1 68 4 = nI (u 2 0) := fun f => by rw [mv_w_ne (by decide)]; exact hr
    have hA : ∀ f r, (mv_w z0 75 f).1 71 r = nI (u 3 r) := fun f r => by rw [mv_w_ne (by decide)]; exact rM_a h0 71 3 (by decide) r
    have hB : ∀ f r, (mv_w z0 75 f).1 72 r = nI (u 4 r) := fun f r => by rw [mv_w_ne (by decide)]; exact rM_a h0 72 4 (by decide) r
    have hH : ∀ f r, (mv_w z0 75 f).1 73 r = nI (u 5 r) := fun f r => by rw [mv_w_ne (by decide)]; exact rM_a h0 73 5 (by decide) r
    have hS : ∀ f r, (mv_w z0 75 f).1 74 r = nI (u 6 r) := fun f r => by rw [mv_w_ne (by decide)]; exact rM_a h0 74 6 (by decide) r
    have hG : ∀ e p, p < u 0 0 → (mv_w z0 75 (g75 z0 (u 0 0) e)).1 75 p = fr (e p) := fun e p hp => by rw [mv_w_get, g75_at hp]
    have hle : hfar u ka kb ≤ 1000000 := by
      have := hit_le u (fun r hr => (hrd r hr).2.2.2.2) (u 0 0) (updN (fun _ => 0) ka 1) 1 (fun p => by simp only [updN]; split <;> omega) kb
      have h2 : 24 * u 2 0 * u 0 0 ≤ 24 * 40 * 24 := Nat.mul_le_mul (by omega) h24
      show hit u (u 0 0) (updN (fun _ => 0) ka 1) kb ≤ 1000000
      omega
    refine mv_start pX11_far (some .int) [some (.ref 68), some (.int (nI ka)), some (.int (nI kb)), none, none, none, none] rfl rfl rfl rfl (fun V C => ?_)
    have fin : ∀ w3 w4 w5 w6 : Option Value, V 182 [some (.ref 68), some (.int (nI ka)), some (.int (nI kb)), w3, w4, w5, w6] [] (mv_E (mv_w z0 75 (g75 z0 (u 0 0) (hfar u ka)))) := by
      intro w3 w4 w5 w6
      by_cases hq : hfar u ka kb = 0
      · rw [hq] at C
        refine mv_aload_n C rfl rfl ?_
        refine mv_getR C rfl rfl rfl ?_
        refine mv_iload_n C rfl rfl ?_
        refine mv_aldJ C rfl rfl rfl (by omega) (show _ = nI 268435456 by (rw [hG _ _ lb, hq]; rfl)) ?_
        refine mv_ldc C rfl ?_
        refine mv_icmp_ge C rfl (fun c190 => ?_) (fun c190 => ?_)
        · refine mv_iconst C rfl ?_
          refine mv_ireturn C rfl mv_okI ?_ ?_
          all_goals first | rfl | (rw [hq]; rfl)
        · exact absurd (by decide) c190
      · have hv : (mv_w z0 75 (g75 z0 (u 0 0) (hfar u ka))).1 75 kb = nI (hfar u ka kb - 1) := by rw [hG _ _ lb]; unfold fr; rw [if_neg hq]
        refine mv_aload_n C rfl rfl ?_
        refine mv_getR C rfl rfl rfl ?_
        refine mv_iload_n C rfl rfl ?_
        refine mv_aldJ C rfl rfl rfl (by omega) hv ?_
        refine mv_ldc C rfl ?_
        refine mv_icmp_ge C rfl (fun c190 => ?_) (fun c190 => ?_)
        · exact absurd c190 (nI_ge (b := 268435456) (by omega) (by decide))
        · refine mv_aload_n C rfl rfl ?_
          refine mv_getR C rfl rfl rfl ?_
          refine mv_iload_n C rfl rfl ?_
          refine mv_aldJ C rfl rfl rfl (by omega) hv ?_
          refine mv_goto C rfl ?_
          refine mv_ireturn C rfl mv_okI ?_ ?_
          all_goals first | rfl | (rw [hst_pos hq])
    have outer : ∀ (k t : Nat) (e : Nat → Nat) (w4 w5 w6 : Option Value), t + k = u 0 0 → hit u k e = hfar u ka → (∀ p, e p ≤ 1 + 24 * (40 * t)) → V 58 [some (.ref 68), some (.int (nI ka)), some (.int (nI kb)), some (.int (nI t)), w4, w5, w6] [] (mv_E (mv_w z0 75 (g75 z0 (u 0 0) e))) := by
      intro k
      induction k with
      | zero =>
        intro t e w4 w5 w6 ht he hle
        simp only [hit] at he
        subst he
        refine mv_iload_n C rfl rfl ?_
        refine mv_aload_n C rfl rfl ?_
        refine mv_getJ C rfl rfl rfl (hnf _) ?_
        refine mv_icmp_ge C rfl (fun c63 => ?_) (fun c63 => ?_)
        · exact fin _ _ _ _
        · exact absurd (nI_le (by omega) (by omega)) c63
      | succ k ih =>
        intro t e w4 w5 w6 ht he hle
        simp only [hit] at he
        have inner : ∀ (j i : Nat) (e1 : Nat → Nat) (w5 w6 : Option Value), i + j = u 2 0 → hrnd u j i e1 = hrnd u (u 2 0) 0 e → (∀ p, e1 p ≤ 1 + 24 * (40 * t + i)) → V 69 [some (.ref 68), some (.int (nI ka)), some (.int (nI kb)), some (.int (nI t)), some (.int (nI i)), w5, w6] [] (mv_E (mv_w z0 75 (g75 z0 (u 0 0) e1))) := by
          intro j
          induction j with
          | zero =>
            intro i e1 w5 w6 hj h1 h3
            simp only [hrnd] at h1
            have := ih (t + 1) e1 (some (.int (nI i))) w5 w6 (by omega) (by rw [h1]; exact he) (fun p => by have := h3 p; omega)
            refine mv_iload C rfl rfl ?_
            refine mv_aload_n C rfl rfl ?_
            refine mv_getJ C rfl rfl rfl (hrf _) ?_
            refine mv_icmp_ge C rfl (fun c75 => ?_) (fun c75 => ?_)
            · refine mv_inc3 C rfl rfl ?_
              refine mv_goto C rfl ?_
              simp only [nI_1]
              exact this
            · exact absurd (nI_le (by omega) (by omega)) c75
          | succ j jh =>
            intro i e1 w5 w6 hj h1 h3
            have hri := hrd i (by omega)
            have hsi := hsh i
            simp only [hrnd] at h1
            have h3b : ∀ p, e1 p ≤ 1000000 := fun p => by have := h3 p; omega
            by_cases h6 : u 6 i = 0
            · rw [if_pos h6] at h1
              have hsw : rel1 (rel1 e1 (u 4 i) (u 3 i) (u 5 i)) (u 3 i) (u 4 i) (u 5 i) = hrel u e1 i := rel_swap e1 (u 3 i) (u 4 i) (u 5 i) hri.2.2.1
              have hb1 : ∀ p, rel1 e1 (u 4 i) (u 3 i) (u 5 i) p ≤ 1000000 := fun p => by have := rel1_le (e := e1) (a := u 4 i) (b := u 3 i) (h := u 5 i) h3 (by omega) p; omega
              have nx := jh (i + 1) (hrel u e1 i) (some (.int (nI (u 3 i)))) (some (.int (nI (u 4 i)))) (by omega) h1 (fun p => by have := hrel_le (u := u) (e := e1) (r := i) h3 (by omega) p; omega)
              have m1 := fr_min (ea := e1 (u 3 i)) (eb := e1 (u 4 i)) (h := u 5 i) (h3b _) (h3b _) (by omega)
              rw [← rel1_at] at m1
              have m2 := fr_min (ea := rel1 e1 (u 4 i) (u 3 i) (u 5 i) (u 4 i)) (eb := rel1 e1 (u 4 i) (u 3 i) (u 5 i) (u 3 i)) (h := u 5 i) (hb1 _) (hb1 _) (by omega)
              rw [← rel1_at] at m2
              rw [← hsw, ← g75_rel _ _ _ _ _ _ hri.2.1, ← mv_uw] at nx
              refine mv_iload C rfl rfl ?_
              refine mv_aload_n C rfl rfl ?_
              refine mv_getJ C rfl rfl rfl (hrf _) ?_
              refine mv_icmp_ge C rfl (fun c75 => ?_) (fun c75 => ?_)
              · exact absurd c75 (nI_ge (by omega) (by omega))
              · refine mv_aload_n C rfl rfl ?_
                refine mv_getR C rfl rfl rfl ?_
                refine mv_iload C rfl rfl ?_
                refine mv_zldJ C rfl rfl rfl (by omega) (hS _ _) ?_
                refine mv_if_ne C rfl (fun c85 => ?_) (fun c85 => ?_)
                · exact absurd (by rw [h6]; rfl) c85
                · refine mv_aload_n C rfl rfl ?_
                  refine mv_getR C rfl rfl rfl ?_
                  refine mv_iload C rfl rfl ?_
                  refine mv_aldJ C rfl rfl rfl (by omega) (hA _ _) ?_
                  refine mv_is5 C rfl rfl ?_
                  refine mv_aload_n C rfl rfl ?_
                  refine mv_getR C rfl rfl rfl ?_
                  refine mv_iload C rfl rfl ?_
                  refine mv_aldJ C rfl rfl rfl (by omega) (hB _ _) ?_
                  refine mv_is6 C rfl rfl ?_
                  refine mv_aload_n C rfl rfl ?_
                  refine mv_getR C rfl rfl rfl ?_
                  refine mv_iload C rfl rfl ?_
                  refine mv_aload_n C rfl rfl ?_
                  refine mv_getR C rfl rfl rfl ?_
                  refine mv_iload C rfl rfl ?_
                  refine mv_aldJ C rfl rfl rfl (by omega) (hG _ _ hri.1) ?_
                  refine mv_aload_n C rfl rfl ?_
                  refine mv_getR C rfl rfl rfl ?_
                  refine mv_iload C rfl rfl ?_
                  refine mv_aldJ C rfl rfl rfl (by omega) (hG _ _ hri.2.1) ?_
                  refine mv_aload_n C rfl rfl ?_
                  refine mv_getR C rfl rfl rfl ?_
                  refine mv_iload C rfl rfl ?_
                  refine mv_aldJ C rfl rfl rfl (by omega) (hH _ _) ?_
                  refine mv_iadd C rfl ?_
                  refine mv_mmin C rfl rfl (Nat.le_of_ble_eq_true rfl) ?_
                  refine mv_top m1 ?_
                  refine mv_ast C rfl rfl rfl (by omega) ?_
                  refine mv_sto (z1 := mv_w z0 75 (g75 z0 (u 0 0) (rel1 e1 (u 4 i) (u 3 i) (u 5 i)))) (by rw [mv_uw, g75_rel _ _ _ _ _ _ hri.1]) ?_
                  refine mv_aload_n C rfl rfl ?_
                  refine mv_getR C rfl rfl rfl ?_
                  refine mv_iload C rfl rfl ?_
                  refine mv_aload_n C rfl rfl ?_
                  refine mv_getR C rfl rfl rfl ?_
                  refine mv_iload C rfl rfl ?_
                  refine mv_aldJ C rfl rfl rfl (by omega) (hG _ _ hri.2.1) ?_
                  refine mv_aload_n C rfl rfl ?_
                  refine mv_getR C rfl rfl rfl ?_
                  refine mv_iload C rfl rfl ?_
                  refine mv_aldJ C rfl rfl rfl (by omega) (hG _ _ hri.1) ?_
                  refine mv_aload_n C rfl rfl ?_
                  refine mv_getR C rfl rfl rfl ?_
                  refine mv_iload C rfl rfl ?_
                  refine mv_aldJ C rfl rfl rfl (by omega) (hH _ _) ?_
                  refine mv_iadd C rfl ?_
                  refine mv_mmin C rfl rfl (Nat.le_of_ble_eq_true rfl) ?_
                  refine mv_top m2 ?_
                  refine mv_ast C rfl rfl rfl (by omega) ?_
                  refine mv_inc4 C rfl rfl ?_
                  refine mv_goto C rfl ?_
                  simp only [nI_1]
                  exact nx
            · rw [if_neg h6] at h1
              have nx := jh (i + 1) e1 w5 w6 (by omega) h1 (fun p => by have := h3 p; omega)
              have h61 : u 6 i = 1 := by omega
              refine mv_iload C rfl rfl ?_
              refine mv_aload_n C rfl rfl ?_
              refine mv_getJ C rfl rfl rfl (hrf _) ?_
              refine mv_icmp_ge C rfl (fun c75 => ?_) (fun c75 => ?_)
              · exact absurd c75 (nI_ge (by omega) (by omega))
              · refine mv_aload_n C rfl rfl ?_
                refine mv_getR C rfl rfl rfl ?_
                refine mv_iload C rfl rfl ?_
                refine mv_zldJ C rfl rfl rfl (by omega) (hS _ _) ?_
                refine mv_if_ne C rfl (fun c85 => ?_) (fun c85 => ?_)
                · refine mv_inc4 C rfl rfl ?_
                  refine mv_goto C rfl ?_
                  simp only [nI_1]
                  exact nx
                · exact absurd c85 (by rw [h61]; decide)
        have i0 := fun w5 w6 => inner (u 2 0) 0 e w5 w6 (by omega) rfl (fun p => by have := hle p; omega)
        refine mv_iload_n C rfl rfl ?_
        refine mv_aload_n C rfl rfl ?_
        refine mv_getJ C rfl rfl rfl (hnf _) ?_
        refine mv_icmp_ge C rfl (fun c63 => ?_) (fun c63 => ?_)
        · exact absurd c63 (nI_ge (by omega) (by omega))
        · refine mv_iconst C rfl ?_
          refine mv_is4 C rfl rfl ?_
          exact i0 _ _
    have init : ∀ (k i : Nat), i + k = u 0 0 → V 25 [some (.ref 68), some (.int (nI ka)), some (.int (nI kb)), some (.int (nI i)), none, none, none] [] (mv_E (mv_w z0 75 (g75 z0 i (updN (fun _ => 0) ka 1)))) := by
      intro k
      induction k with
      | zero =>
        intro i hi2
        obtain rfl : i = u 0 0 := by omega
        have o0 := outer (u 0 0) 0 (updN (fun _ => 0) ka 1) none none none (by omega) rfl (fun p => by simp only [updN]; split <;> omega)
        refine mv_iload_n C rfl rfl ?_
        refine mv_aload_n C rfl rfl ?_
        refine mv_getJ C rfl rfl rfl (hnf _) ?_
        refine mv_icmp_ge C rfl (fun c30 => ?_) (fun c30 => ?_)
        · refine mv_iconst C rfl ?_
          refine mv_is_n3 C rfl rfl ?_
          exact o0
        · exact absurd (nI_le (by omega) (by omega)) c30
      | succ k ih =>
        intro i hi2
        have e := ih (i + 1) (by omega)
        rw [← g75_init, ← mv_uw] at e
        have st : ∀ x : Int32, x = fr (updN (fun _ => 0) ka 1 i) → V 49 [some (.ref 68), some (.int (nI ka)), some (.int (nI kb)), some (.int (nI i)), none, none, none] [.int x, .int (nI i), .ref 75] (mv_E (mv_w z0 75 (g75 z0 i (updN (fun _ => 0) ka 1)))) := by
          intro x hx
          subst hx
          refine mv_ast C rfl rfl rfl (by omega) ?_
          refine mv_inc3 C rfl rfl ?_
          refine mv_goto C rfl ?_
          simp only [nI_1]
          exact e
        refine mv_iload_n C rfl rfl ?_
        refine mv_aload_n C rfl rfl ?_
        refine mv_getJ C rfl rfl rfl (hnf _) ?_
        refine mv_icmp_ge C rfl (fun c30 => ?_) (fun c30 => ?_)
        · exact absurd c30 (nI_ge (by omega) (by omega))
        · refine mv_aload_n C rfl rfl ?_
          refine mv_getR C rfl rfl rfl ?_
          refine mv_iload_n C rfl rfl ?_
          refine mv_iload_n C rfl rfl ?_
          refine mv_iload_n C rfl rfl ?_
          refine mv_icmp_ne C rfl (fun c40 => ?_) (fun c40 => ?_)
          · have hq : ¬ i = ka := fun q => c40 (by rw [q])
            refine mv_ldc C rfl ?_
            refine st _ ?_
            simp only [updN, hq, if_true, if_false]
            rfl
          · have hq : i = ka := (nI_eq (by omega) (by omega)).mp c40
            refine mv_iconst C rfl ?_
            refine mv_goto C rfl ?_
            refine st _ ?_
            simp only [updN, hq, if_true, if_false]
            rfl
    have zz : mv_w z0 75 (g75 z0 0 (updN (fun _ => 0) ka 1)) = z0 := by rw [show g75 z0 0 (updN (fun _ => 0) ka 1) = z0.1 75 by (funext p; simp [g75]), mv_w_self]
    have l0 := init (u 0 0) 0 (by omega)
    rw [zz] at l0
    refine mv_aload_n C rfl rfl ?_
    refine mv_iconst C rfl ?_
    refine mv_putI C rfl rfl rfl rfl ?_
    refine mv_sto hz0 ?_
    refine mv_aload_n C rfl rfl ?_
    refine mv_iload_n C rfl rfl ?_
    refine mv_cV C rfl (mv_up Ra rfl) (by decide) rfl rfl rfl (Nat.le_of_ble_eq_true rfl) (Nat.le_refl _) (Nat.le_refl _) rfl ?_
    refine mv_if_eq C rfl (fun c10 => ?_) (fun c10 => ?_)
    · exact absurd c10 (by decide)
    · refine mv_aload_n C rfl rfl ?_
      refine mv_iload_n C rfl rfl ?_
      refine mv_cV C rfl (mv_up Rb rfl) (by decide) rfl rfl rfl (Nat.le_of_ble_eq_true rfl) (Nat.le_refl _) (Nat.le_refl _) rfl ?_
      refine mv_if_ne C rfl (fun c18 => ?_) (fun c18 => ?_)
      · refine mv_iconst C rfl ?_
        refine mv_is_n3 C rfl rfl ?_
        exact l0
      · exact absurd c18 (by decide)
  · rw [if_neg hc]
    refine ⟨_, mv_up (d := 3) (S1 := mv_E (mv_u z 68 0 0)) ?_ rfl, h0, fM_u fM_rf (by decide)⟩
    refine mv_start pX11_far (some .int) [some (.ref 68), some (.int a), some (.int b), none, none, none, none] rfl rfl rfl rfl (fun V C => ?_)
    refine mv_aload_n C rfl rfl ?_
    refine mv_iconst C rfl ?_
    refine mv_putI C rfl rfl rfl rfl ?_
    refine mv_aload_n C rfl rfl ?_
    refine mv_iload_n C rfl rfl ?_
    refine mv_cV C rfl (mv_up Ra rfl) (by decide) rfl rfl rfl (Nat.le_of_ble_eq_true rfl) (Nat.le_refl _) (Nat.le_refl _) rfl ?_
    refine mv_if_eq C rfl (fun c10 => ?_) (fun c10 => ?_)
    · try simp only [b01, b10, Classical.not_not] at c10
      try simp (disch := omega) only [lit_0, lit_1, lit_2, lit_3, lit_4, lit_5, lit_6, lit_7, lit_8, lit_9, lit_10, lit_11, lit_12, lit_23, lit_24, lit_30, lit_31, lit_32, lit_39, lit_40, lit_41, lit_46, lit_47, lit_48, lit_96, lit_99, lit_100, lit_255, lit_999, lit_1000, lit_2024, lit_32767, lit_1000000, nI_ltI, nI_leI, nI_eq, Nat.not_lt, Nat.not_le] at c10
      try simp only [unl_0, unl_1, unl_2, unl_3, unl_4, unl_5, unl_6, unl_7, unl_8, unl_9, unl_10, unl_11, unl_12, unl_23, unl_24, unl_30, unl_31, unl_32, unl_39, unl_40, unl_41, unl_46, unl_47, unl_48, unl_96, unl_99, unl_100, unl_255, unl_999, unl_1000, unl_2024, unl_32767, unl_1000000] at c10
      refine mv_iconst C rfl ?_
      refine mv_ireturn C rfl mv_okI ?_ ?_
      all_goals rfl
    · try simp only [b01, b10, Classical.not_not] at c10
      try simp (disch := omega) only [lit_0, lit_1, lit_2, lit_3, lit_4, lit_5, lit_6, lit_7, lit_8, lit_9, lit_10, lit_11, lit_12, lit_23, lit_24, lit_30, lit_31, lit_32, lit_39, lit_40, lit_41, lit_46, lit_47, lit_48, lit_96, lit_99, lit_100, lit_255, lit_999, lit_1000, lit_2024, lit_32767, lit_1000000, nI_ltI, nI_leI, nI_eq, Nat.not_lt, Nat.not_le] at c10
      try simp only [unl_0, unl_1, unl_2, unl_3, unl_4, unl_5, unl_6, unl_7, unl_8, unl_9, unl_10, unl_11, unl_12, unl_23, unl_24, unl_30, unl_31, unl_32, unl_39, unl_40, unl_41, unl_46, unl_47, unl_48, unl_96, unl_99, unl_100, unl_255, unl_999, unl_1000, unl_2024, unl_32767, unl_1000000] at c10
      refine mv_aload_n C rfl rfl ?_
      refine mv_iload_n C rfl rfl ?_
      refine mv_cV C rfl (mv_up Rb rfl) (by decide) rfl rfl rfl (Nat.le_of_ble_eq_true rfl) (Nat.le_refl _) (Nat.le_refl _) rfl ?_
      refine mv_if_ne C rfl (fun c18 => ?_) (fun c18 => ?_)
      · exact absurd ⟨c10, b10.mp c18⟩ hc
      · try simp only [b01, b10, Classical.not_not] at c18
        try simp (disch := omega) only [lit_0, lit_1, lit_2, lit_3, lit_4, lit_5, lit_6, lit_7, lit_8, lit_9, lit_10, lit_11, lit_12, lit_23, lit_24, lit_30, lit_31, lit_32, lit_39, lit_40, lit_41, lit_46, lit_47, lit_48, lit_96, lit_99, lit_100, lit_255, lit_999, lit_1000, lit_2024, lit_32767, lit_1000000, nI_ltI, nI_leI, nI_eq, Nat.not_lt, Nat.not_le] at c18
        try simp only [unl_0, unl_1, unl_2, unl_3, unl_4, unl_5, unl_6, unl_7, unl_8, unl_9, unl_10, unl_11, unl_12, unl_23, unl_24, unl_30, unl_31, unl_32, unl_39, unl_40, unl_41, unl_46, unl_47, unl_48, unl_96, unl_99, unl_100, unl_255, unl_999, unl_1000, unl_2024, unl_32767, unl_1000000] at c18
        refine mv_iconst C rfl ?_
        refine mv_ireturn C rfl mv_okI ?_ ?_
        all_goals rfl
end
end
section
section
theorem i_parish (u : hM) (c : Int32) (hi : hI u) : hI (o_parish u c) := by
  unfold o_parish
  split
  · rename_i hc
    have hk : c.toNatClampNeg < 6 := cl_le hc.1.1 (show c < nI 6 from hc.1.2) (by decide)
    have hc2 := hc.2
    clear hc
    generalize c.toNatClampNeg = k at *
    unfold hI at *
    simp only [hu, Nat.reduceEqDiff, false_and, if_false, true_and, and_self, if_true, reduceIte]
    obtain ⟨h0, h1, h2, h3, h4, h5, h6, h7, h8, h9, h10, h11, h12, h13, h14, h15, h16, h17, h18, h19, h20, h21⟩ := hi
    refine ⟨?_, ?_, ?_, ?_, ?_, ?_, ?_, ?_, ?_, ?_, ?_, ?_, ?_, ?_, ?_, ?_, ?_, ?_, ?_, ?_, ?_, ?_⟩
    all_goals first | assumption | grind
  · exact hi
theorem i_road (u : hM) (a b h : Int32) (hi : hI u) : hI (o_road u a b h) := by
  unfold o_road
  split
  · rename_i hc
    have h24 := hi.1
    have ha : a.toNatClampNeg < u 0 0 := cl_le hc.1.1 hc.1.2 (by omega)
    have hb : b.toNatClampNeg < u 0 0 := cl_le hc.2.1.1 hc.2.1.2 (by omega)
    have hab : a.toNatClampNeg ≠ b.toNatClampNeg := fun q => hc.2.2.1 (by rw [nI_nn hc.1.1, nI_nn hc.2.1.1, q])
    have hh1 : 1 ≤ h.toNatClampNeg ∧ h.toNatClampNeg ≤ 12 := by
      have e := nI_nn (i32_1le hc.2.2.2.1.1)
      have l : h.toNatClampNeg < 13 := cl_le (i32_1le hc.2.2.2.1.1) (show h < nI 13 by have := hc.2.2.2.1.2; rw [i32_le, i32_12] at this; rw [i32_lt, nI_toInt (by decide)]; omega) (by decide)
      have g := hc.2.2.2.1.1
      rw [e] at g
      exact ⟨(nI_leI (a := 1) (by decide) (by omega)).mp g, by omega⟩
    have hc2 := hc.2.2.2.2
    clear hc
    generalize a.toNatClampNeg = ka at *
    generalize b.toNatClampNeg = kb at *
    generalize h.toNatClampNeg = kh at *
    unfold hI at *
    simp only [hu, Nat.reduceEqDiff, false_and, if_false, true_and, and_self, if_true, reduceIte]
    obtain ⟨h0, h1, h2, h3, h4, h5, h6, h7, h8, h9, h10, h11, h12, h13, h14, h15, h16, h17, h18, h19, h20, h21⟩ := hi
    refine ⟨?_, ?_, ?_, ?_, ?_, ?_, ?_, ?_, ?_, ?_, ?_, ?_, ?_, ?_, ?_, ?_, ?_, ?_, ?_, ?_, ?_, ?_⟩
    all_goals first | assumption | grind
  · exact hi

theorem i_shut (u : hM) (r : Int32) (v : Nat) (hv : v ≤ 1) (hi : hI u) : hI (o_shut u r v) := by
  unfold o_shut
  split
  · generalize r.toNatClampNeg = k at *
    unfold hI at *
    simp only [hu, Nat.reduceEqDiff, false_and, if_false, true_and, and_self, if_true, reduceIte]
    obtain ⟨h0, h1, h2, h3, h4, h5, h6, h7, h8, h9, h10, h11, h12, h13, h14, h15, h16, h17, h18, h19, h20, h21⟩ := hi
    refine ⟨?_, ?_, ?_, ?_, ?_, ?_, ?_, ?_, ?_, ?_, ?_, ?_, ?_, ?_, ?_, ?_, ?_, ?_, ?_, ?_, ?_, ?_⟩
    all_goals first | assumption | grind
  · exact hi
theorem i_strike (u : hM) (r : Int32) (v : Nat) (hv : v ≤ 1) (hi : hI u) : hI (o_strike u r v) := by
  unfold o_strike
  split
  · rename_i hc
    have hk : r.toNatClampNeg < u 9 0 := cl_le hc.1 hc.2 (by have := hi.2.2.2.2.2.2.2.1; omega)
    clear hc
    generalize r.toNatClampNeg = k at *
    unfold hI at *
    simp only [hu, Nat.reduceEqDiff, false_and, if_false, true_and, and_self, if_true, reduceIte]
    obtain ⟨h0, h1, h2, h3, h4, h5, h6, h7, h8, h9, h10, h11, h12, h13, h14, h15, h16, h17, h18, h19, h20, h21⟩ := hi
    refine ⟨?_, ?_, ?_, ?_, ?_, ?_, ?_, ?_, ?_, ?_, ?_, ?_, ?_, ?_, ?_, ?_, ?_, ?_, ?_, ?_, ?_, ?_⟩
    all_goals first | assumption | grind
  · exact hi
theorem i_exit (u : hM) (r : Int32) (v : Nat) (hv : v ≤ 1) (hi : hI u) : hI (o_exit u r v) := by
  unfold o_exit
  split
  · rename_i hc
    have hk : r.toNatClampNeg < u 0 0 := cl_le hc.1 hc.2 (by have := hi.1; omega)
    clear hc
    generalize r.toNatClampNeg = k at *
    unfold hI at *
    simp only [hu, Nat.reduceEqDiff, false_and, if_false, true_and, and_self, if_true, reduceIte]
    obtain ⟨h0, h1, h2, h3, h4, h5, h6, h7, h8, h9, h10, h11, h12, h13, h14, h15, h16, h17, h18, h19, h20, h21⟩ := hi
    refine ⟨?_, ?_, ?_, ?_, ?_, ?_, ?_, ?_, ?_, ?_, ?_, ?_, ?_, ?_, ?_, ?_, ?_, ?_, ?_, ?_, ?_, ?_⟩
    all_goals first | assumption | grind
  · exact hi
theorem i_begin (u : hM) (r : Int32) (hi : hI u) : hI (o_begin u r) := by
  unfold o_begin
  split
  · rename_i hc
    have hk : r.toNatClampNeg < u 0 0 := cl_le hc.1 hc.2 (by have := hi.1; omega)
    clear hc
    generalize r.toNatClampNeg = k at *
    unfold hI at *
    simp only [hu, Nat.reduceEqDiff, false_and, if_false, true_and, and_self, if_true, reduceIte]
    obtain ⟨h0, h1, h2, h3, h4, h5, h6, h7, h8, h9, h10, h11, h12, h13, h14, h15, h16, h17, h18, h19, h20, h21⟩ := hi
    refine ⟨?_, ?_, ?_, ?_, ?_, ?_, ?_, ?_, ?_, ?_, ?_, ?_, ?_, ?_, ?_, ?_, ?_, ?_, ?_, ?_, ?_, ?_⟩
    all_goals first | assumption | grind
  · exact hi
theorem i_fact (u : hM) (key k : Nat) (o h : Int32) (hk : (key = 0 ∧ k < 2) ∨ (key = 2 ∧ k = 2)) (hi : hI u) : hI (o_fact u key k o h) := by
  unfold o_fact
  split
  · rename_i hc
    have hkey : u key 0 ≤ 40 := by rcases hk with ⟨rfl, -⟩ | ⟨rfl, -⟩; (have := hi.1; omega); exact hi.2.2.1
    have ho : o.toNatClampNeg < u key 0 := cl_le hc.1.1 hc.1.2 (by omega)
    have hh : h.toNatClampNeg < 48 := cl_le hc.2.1.1 (show h < nI 48 from hc.2.1.2) (by decide)
    have h40 := hc.2.2
    clear hc
    generalize o.toNatClampNeg = ko at *
    generalize h.toNatClampNeg = kh at *
    rcases hk with ⟨rfl, hk⟩ | ⟨rfl, rfl⟩
    · skip
      unfold hI at *
      simp only [hu, Nat.reduceEqDiff, false_and, if_false, true_and, and_self, if_true, reduceIte]
      obtain ⟨h0, h1, h2, h3, h4, h5, h6, h7, h8, h9, h10, h11, h12, h13, h14, h15, h16, h17, h18, h19, h20, h21⟩ := hi
      refine ⟨?_, ?_, ?_, ?_, ?_, ?_, ?_, ?_, ?_, ?_, ?_, ?_, ?_, ?_, ?_, ?_, ?_, ?_, ?_, ?_, ?_, ?_⟩
      all_goals first | assumption | grind
    · skip
      unfold hI at *
      simp only [hu, Nat.reduceEqDiff, false_and, if_false, true_and, and_self, if_true, reduceIte]
      obtain ⟨h0, h1, h2, h3, h4, h5, h6, h7, h8, h9, h10, h11, h12, h13, h14, h15, h16, h17, h18, h19, h20, h21⟩ := hi
      refine ⟨?_, ?_, ?_, ?_, ?_, ?_, ?_, ?_, ?_, ?_, ?_, ?_, ?_, ?_, ?_, ?_, ?_, ?_, ?_, ?_, ?_, ?_⟩
      all_goals first | assumption | grind
  · exact hi
theorem i_trait (u : hM) (t v b : Int32) (hi : hI u) : hI (o_trait u t v b) := by
  unfold o_trait
  cases hc : c_trait t v b with
  | false => exact hi
  | true =>
    simp only [c_trait, Bool.and_eq_true, decide_eq_true_eq] at hc
    obtain ⟨⟨ht, hv⟩, hb⟩ := hc
    have hv1 : (v.toInt + 1).toNat ≤ 32 := by have := hv.2; rw [i32_le, i32_31] at this; omega
    have hb1 : b.toNatClampNeg < 32 := cl_le hb.1 (show b < nI 32 by have := hb.2; rw [i32_le, i32_31] at this; rw [i32_lt, nI_toInt (by decide)]; omega) (by decide)
    clear ht hv hb
    simp only [cond_true]
    generalize t.toNatClampNeg = k at *
    generalize (v.toInt + 1).toNat = v1 at *
    generalize b.toNatClampNeg = b1 at *
    unfold hI at *
    simp only [hu, Nat.reduceEqDiff, false_and, if_false, true_and, and_self, if_true, reduceIte]
    obtain ⟨h0, h1, h2, h3, h4, h5, h6, h7, h8, h9, h10, h11, h12, h13, h14, h15, h16, h17, h18, h19, h20, h21⟩ := hi
    refine ⟨?_, ?_, ?_, ?_, ?_, ?_, ?_, ?_, ?_, ?_, ?_, ?_, ?_, ?_, ?_, ?_, ?_, ?_, ?_, ?_, ?_, ?_⟩
    all_goals first | assumption | grind
theorem i_telling (u : hM) (n : Int32) (hi : hI u) : hI (o_telling u n) := by
  unfold o_telling
  split
  · generalize n.toNatClampNeg = k at *
    have hb : ∀ i, hnb u k i ≤ 31 := fun i => by
      have := (hi.2.2.2.2.2.2.2.2.2.2.1 i).2
      unfold hnb; split; exact this; split <;> omega
    unfold hI at *
    simp only [hu, htell, Nat.reduceEqDiff, false_and, if_false, true_and, and_self, if_true, reduceIte]
    obtain ⟨h0, h1, h2, h3, h4, h5, h6, h7, h8, h9, h10, h11, h12, h13, h14, h15, h16, h17, h18, h19, h20, h21⟩ := hi
    refine ⟨?_, ?_, ?_, ?_, ?_, ?_, ?_, ?_, ?_, ?_, ?_, ?_, ?_, ?_, ?_, ?_, ?_, ?_, ?_, ?_, ?_, ?_⟩
    all_goals first | assumption | grind
  · exact hi
theorem dig_lt (A B k : Nat) : dig A B k < 32 := Nat.mod_lt _ (by decide)
theorem i_person (u : hM) (p a b : Int32) (hi : hI u) : hI (o_person u p a b) := by
  unfold o_person
  split
  · rename_i hc
    have hp : p.toNatClampNeg < u 0 0 := cl_le hc.1.1 hc.1.2 (by have := hi.1; omega)
    have h30 := hc.2.2.2
    clear hc
    generalize p.toNatClampNeg = kp at *
    generalize a.toNatClampNeg = A at *
    generalize b.toNatClampNeg = B at *
    have hd := dig_lt A B
    unfold hI at *
    simp only [hu, h18, Nat.reduceEqDiff, false_and, if_false, true_and, and_self, if_true, reduceIte]
    obtain ⟨h0, h1, h2, h3, h4, h5, h6, h7, h8, h9, h10, h11, h12, h13, h14, h15, h16, h17, h18, h19, h20, h21⟩ := hi
    refine ⟨?_, ?_, ?_, ?_, ?_, ?_, ?_, ?_, ?_, ?_, ?_, ?_, ?_, ?_, ?_, ?_, ?_, ?_, ?_, ?_, ?_, ?_⟩
    all_goals first | assumption | grind
  · exact hi
theorem i_sign (u : hM) (v : Int32) (hi : hI u) : hI (o_sign u v) := by
  unfold o_sign
  split
  · have hb := byt_lt v
    unfold hI at *
    simp only [hu, h20, Nat.reduceEqDiff, false_and, if_false, true_and, and_self, if_true, reduceIte]
    obtain ⟨h0, h1, h2, h3, h4, h5, h6, h7, h8, h9, h10, h11, h12, h13, h14, h15, h16, h17, h18, h19, h20, h21⟩ := hi
    refine ⟨?_, ?_, ?_, ?_, ?_, ?_, ?_, ?_, ?_, ?_, ?_, ?_, ?_, ?_, ?_, ?_, ?_, ?_, ?_, ?_, ?_, ?_⟩
    all_goals first | assumption | grind
  · exact hi
theorem i_end (u : hM) (n : Int32) (hi : hI u) : hI (o_end u n) := by
  unfold o_end
  split
  · rename_i hc
    have h100 : u 19 0 ≤ 100 := hi.2.2.2.2.2.2.2.2.2.2.2.2.2.2.1
    have hn : n.toNatClampNeg < 101 := cl_le hc.1 (show n < nI 101 by have := hc.2; rw [i32_le, nI_toInt (by omega)] at this; rw [i32_lt, nI_toInt (by decide)]; omega) (by decide)
    clear hc
    generalize n.toNatClampNeg = k at *
    unfold hI at *
    simp only [hu, Nat.reduceEqDiff, false_and, if_false, true_and, and_self, if_true, reduceIte]
    obtain ⟨h0, h1, h2, h3, h4, h5, h6, h7, h8, h9, h10, h11, h12, h13, h14, h15, h16, h17, h18, h19, h20, h21⟩ := hi
    refine ⟨?_, ?_, ?_, ?_, ?_, ?_, ?_, ?_, ?_, ?_, ?_, ?_, ?_, ?_, ?_, ?_, ?_, ?_, ?_, ?_, ?_, ?_⟩
    all_goals first | assumption | grind
  · exact hi
theorem i_repeal (u : hM) (hi : hI u) : hI (hu u 21 0 0) := by
  unfold hI at *
  simp only [hu, Nat.reduceEqDiff, false_and, if_false, true_and, and_self, if_true, reduceIte]
  obtain ⟨h0, h1, h2, h3, h4, h5, h6, h7, h8, h9, h10, h11, h12, h13, h14, h15, h16, h17, h18, h19, h20, h21⟩ := hi
  refine ⟨?_, ?_, ?_, ?_, ?_, ?_, ?_, ?_, ?_, ?_, ?_, ?_, ?_, ?_, ?_, ?_, ?_, ?_, ?_, ?_, ?_, ?_⟩
  all_goals first | assumption | grind
theorem i_waive (u : hM) (hi : hI u) : hI (hu u 27 0 0) := by
  unfold hI at *
  simp only [hu, Nat.reduceEqDiff, false_and, if_false, true_and, and_self, if_true, reduceIte]
  obtain ⟨h0, h1, h2, h3, h4, h5, h6, h7, h8, h9, h10, h11, h12, h13, h14, h15, h16, h17, h18, h19, h20, h21⟩ := hi
  refine ⟨?_, ?_, ?_, ?_, ?_, ?_, ?_, ?_, ?_, ?_, ?_, ?_, ?_, ?_, ?_, ?_, ?_, ?_, ?_, ?_, ?_, ?_⟩
  all_goals first | assumption | grind
theorem i_claim (u : hM) (p h : Int32) (hi : hI u) : hI (o_claim u p h) := by
  unfold o_claim
  split
  · rename_i hc
    have hp : p.toNatClampNeg < u 0 0 := cl_le hc.1.1 hc.1.2 (by have := hi.1; omega)
    have hh : h.toNatClampNeg < 48 := cl_le hc.2.1.1 (show h < nI 48 from hc.2.1.2) (by decide)
    have h12 := hc.2.2
    clear hc
    generalize p.toNatClampNeg = kp at *
    generalize h.toNatClampNeg = kh at *
    unfold hI at *
    simp only [hu, Nat.reduceEqDiff, false_and, if_false, true_and, and_self, if_true, reduceIte]
    obtain ⟨h0, h1, h2, h3, h4, h5, h6, h7, h8, h9, h10, h11, h12, h13, h14, h15, h16, h17, h18, h19, h20, h21⟩ := hi
    refine ⟨?_, ?_, ?_, ?_, ?_, ?_, ?_, ?_, ?_, ?_, ?_, ?_, ?_, ?_, ?_, ?_, ?_, ?_, ?_, ?_, ?_, ?_⟩
    all_goals first | assumption | grind
  · exact hi
theorem hI_row (u : hM) (n : Nat) (g : Nat → Nat) (hn : n ≤ 48) (hg : ∀ i, g i ≤ 1000000) (hi : hI u) : hI (hrw u n g) := by
  unfold hI at *
  simp only [hu, hrw, Nat.reduceEqDiff, false_and, if_false, true_and, and_self, if_true, reduceIte]
  obtain ⟨h0, h1, h2, h3, h4, h5, h6, h7, h8, h9, h10, h11, h12, h13, h14, h15, h16, h17, h18, h19, h20, h21⟩ := hi
  refine ⟨?_, ?_, ?_, ?_, ?_, ?_, ?_, ?_, ?_, ?_, ?_, ?_, ?_, ?_, ?_, ?_, ?_, ?_, ?_, ?_, ?_, ?_⟩
  all_goals first | assumption | grind
theorem hrow_le (u : hM) (R : Nat) (hR : R ≤ 1000000) (i : Nat) : hrow u R i ≤ 1000000 := by
  unfold hrow
  split
  · rename_i hc
    have h1 := hpart_le R (hwt u) (u 27 0) (u 27 0) (Nat.le_refl _)
    have h2 := hpart_le R (hwt u) (u 27 0) (i + 1) (by omega)
    have h3 := hsum_mono (fun c => hpart R (hsum (hwt u) (u 27 0)) (hwt u c)) (show i + 1 ≤ u 27 0 by omega)
    simp only [hsum] at h2 h3
    unfold hrest
    split <;> omega
  · omega
theorem i_reward (u : hM) (R : Int32) (hi : hI u) : hI (o_reward u R) := by
  unfold o_reward
  split
  · rename_i hc
    have hr : R.toNatClampNeg < 1000001 := cl_le (i32_1le hc.1) (show R < nI 1000001 by have := hc.2; rw [i32_le, i32_1000000] at this; rw [i32_lt, nI_toInt (by decide)]; omega) (by decide)
    exact hI_row u _ _ (by have := hi.2.2.2.2.2.2.2.2.2.2.2.2.2.2.2.2.2.2.1; omega) (hrow_le u _ (by omega)) hi
  · exact hi
end
end
section
section
def kany (g : Nat → Bool) : Nat → Bool
  | 0 => false
  | n + 1 => kany g n || g n
theorem kany_t {g : Nat → Bool} {n : Nat} : kany g n = true ↔ ∃ i, i < n ∧ g i = true := by
  induction n with
  | zero => simp [kany]
  | succ n ih =>
    simp only [kany, Bool.or_eq_true, ih]
    constructor
    · rintro (⟨i, hi, h⟩ | h)
      · exact ⟨i, by omega, h⟩
      · exact ⟨n, by omega, h⟩
    · rintro ⟨i, hi, h⟩
      by_cases e : i = n
      · subst e; exact Or.inr h
      · exact Or.inl ⟨i, by omega, h⟩
theorem kany_f {g : Nat → Bool} {n : Nat} : kany g n = false ↔ ∀ i, i < n → g i = false := by
  rw [← Bool.not_eq_true, kany_t]
  constructor
  · intro h i hi
    cases e : g i with
    | false => rfl
    | true => exact absurd ⟨i, hi, e⟩ h
  · rintro h ⟨i, hi, e⟩
    rw [h i hi] at e; cases e
theorem kany_c {g h : Nat → Bool} {n : Nat} (e : ∀ i, i < n → g i = h i) : kany g n = kany h n := by
  induction n with
  | zero => rfl
  | succ n ih => simp only [kany]; rw [ih (fun i hi => e i (by omega)), e n (by omega)]
/-- bits of a long -/
def hbL (x : Int64) (i : Nat) : Bool := x.toBitVec.getLsbD i
theorem hL_ext {x y : Int64} (h : ∀ i, i < 64 → hbL x i = hbL y i) : x = y := Int64.toBitVec_inj.mp (BitVec.eq_of_getLsbD_eq (fun i hi => h i hi))
theorem hL_or (x y : Int64) (i : Nat) : hbL (x ||| y) i = (hbL x i || hbL y i) := by unfold hbL; rw [Int64.toBitVec_or, BitVec.getLsbD_or]
theorem hL_and (x y : Int64) (i : Nat) : hbL (x &&& y) i = (hbL x i && hbL y i) := by unfold hbL; rw [Int64.toBitVec_and, BitVec.getLsbD_and]
theorem hL_0 (i : Nat) : hbL 0 i = false := BitVec.getLsbD_zero
theorem hL_1 : ∀ i, i < 64 → hbL 1 i = decide (i = 0) := by decide +kernel
theorem sL_l : ∀ n, n < 64 → (((nI n).toInt64 &&& 63).toBitVec.smod 64).toNat = n := by decide +kernel
theorem hL_shl (n : Nat) (hn : n < 64) (x : Int64) {i : Nat} (hi : i < 64) : hbL (x <<< ((nI n).toInt64 &&& 63)) i = (decide (n ≤ i) && hbL x (i - n)) := by
  unfold hbL
  rw [Int64.toBitVec_shiftLeft]
  show (x.toBitVec <<< (((nI n).toInt64 &&& 63).toBitVec.smod 64).toNat).getLsbD i = _
  rw [sL_l n hn, BitVec.getLsbD_shiftLeft]
  rcases Nat.lt_or_ge i n with h | h
  · simp [h, Nat.not_le.mpr h]
  · simp [hi, h, Nat.not_lt.mpr h]
theorem hL_bit {p i : Nat} (hp : p < 64) (hi : i < 64) : hbL (1 <<< ((nI p).toInt64 &&& 63)) i = decide (i = p) := by
  rw [hL_shl p hp 1 hi]
  by_cases h : p ≤ i
  · rw [hL_1 _ (by omega)]
    by_cases e : i = p
    · subst e; simp
    · have : ¬ i - p = 0 := by omega
      simp [h, e, this]
  · have e : ¬ i = p := by omega
    simp [h, e]
theorem hL_two {p : Nat} (hp : p < 64) : (1 <<< ((nI p).toInt64 &&& 63) : Int64).toBitVec = BitVec.ofNat 64 (2 ^ p) := by
  apply BitVec.eq_of_getLsbD_eq
  intro i hi
  rw [show (1 <<< ((nI p).toInt64 &&& 63) : Int64).toBitVec.getLsbD i = hbL (1 <<< ((nI p).toInt64 &&& 63)) i from rfl, hL_bit hp hi, BitVec.getLsbD_ofNat, Nat.testBit_two_pow]
  simp [hi, eq_comm]
theorem hL_sub {a b i : Nat} (hab : a ≤ b) (hb : b < 64) (hi : i < 64) : hbL ((1 <<< ((nI b).toInt64 &&& 63)) - (1 <<< ((nI a).toInt64 &&& 63))) i = decide (a ≤ i ∧ i < b) := by
  unfold hbL
  rw [Int64.toBitVec_sub, hL_two hb, hL_two (by omega)]
  have hp : 2 ^ a ≤ 2 ^ b := Nat.pow_le_pow_right (by decide) hab
  have hb2 : 2 ^ b < 2 ^ 64 := Nat.pow_lt_pow_right (by decide) hb
  have e : BitVec.ofNat 64 (2 ^ b) - BitVec.ofNat 64 (2 ^ a) = BitVec.ofNat 64 (2 ^ b - 2 ^ a) := by
    apply BitVec.eq_of_toNat_eq
    generalize 2 ^ a = x at hp
    generalize 2 ^ b = y at hp hb2
    simp only [BitVec.toNat_sub, BitVec.toNat_ofNat]
    omega
  have e2 : 2 ^ b - 2 ^ a = 2 ^ a * (2 ^ (b - a) - 1) := by rw [Nat.mul_sub, ← Nat.pow_add, show a + (b - a) = b by omega, Nat.mul_one]
  rw [e, BitVec.getLsbD_ofNat, e2, Nat.testBit_two_pow_mul, Nat.testBit_two_pow_sub_one]
  rw [Bool.eq_iff_iff]
  simp only [Bool.and_eq_true, decide_eq_true_eq]
  omega
def kmL (g : Nat → Bool) : Nat → Int64
  | 0 => 0
  | n + 1 => bif g n then kmL g n ||| (1 <<< ((nI n).toInt64 &&& 63)) else kmL g n
theorem hL_mask (g : Nat → Bool) : ∀ n, n ≤ 64 → ∀ i, i < 64 → hbL (kmL g n) i = (decide (i < n) && g i)
  | 0, _, i, _ => by simp [kmL, hL_0]
  | n + 1, hn, i, hi => by
    have ih := hL_mask g n (by omega) i hi
    simp only [kmL]
    cases hg : g n with
    | true =>
      simp only [cond_true]
      rw [hL_or, ih, hL_bit (by omega) hi]
      by_cases e : i = n
      · subst e; simp [hg]
      · have : (i < n + 1) ↔ i < n := by omega
        simp [e, this]
    | false =>
      simp only [cond_false]
      rw [ih]
      by_cases e : i = n
      · subst e; simp [hg]
      · have : (i < n + 1) ↔ i < n := by omega
        simp [this]
def kL (g : Nat → Bool) : Int64 := kmL g 64
theorem kL_b {g : Nat → Bool} {i : Nat} (hi : i < 64) : hbL (kL g) i = g i := by unfold kL; rw [hL_mask g 64 (by decide) i hi]; simp [hi]
theorem kL_eq {x : Int64} {g : Nat → Bool} (h : ∀ i, i < 64 → hbL x i = g i) : x = kL g := hL_ext (fun i hi => by rw [h i hi, kL_b hi])
theorem kL_c {g h : Nat → Bool} (e : ∀ i, i < 64 → g i = h i) : kL g = kL h := kL_eq (fun i hi => by rw [kL_b hi, e i hi])
def kb (g : Nat → Bool) : Int32 := hmask g 32
theorem kb_b {g : Nat → Bool} {i : Nat} (hi : i < 32) : hbit (kb g) i = g i := by unfold kb; rw [hb_mask g 32 (by decide) i hi]; simp [hi]
theorem kb_eq {x : Int32} {g : Nat → Bool} (h : ∀ i, i < 32 → hbit x i = g i) : x = kb g := hb_ext (fun i hi => by rw [h i hi, kb_b hi])
theorem kb_c {g h : Nat → Bool} (e : ∀ i, i < 32 → g i = h i) : kb g = kb h := kb_eq (fun i hi => by rw [kb_b hi, e i hi])
theorem kb_or (g h : Nat → Bool) : kb g ||| kb h = kb (fun i => g i || h i) := kb_eq (fun i hi => by rw [hb_or, kb_b hi, kb_b hi])
theorem kb_and (g h : Nat → Bool) : kb g &&& kb h = kb (fun i => g i && h i) := kb_eq (fun i hi => by rw [hb_and, kb_b hi, kb_b hi])
theorem kb_m1 : (-1 : Int32) = kb (fun _ => true) := kb_eq (fun i hi => hb_m1 i hi)
theorem kb_0 : (0 : Int32) = kb (fun _ => false) := kb_eq (fun i hi => hb_0 i)
theorem kL_0 : (0 : Int64) = kL (fun _ => false) := kL_eq (fun i hi => hL_0 i)
theorem kb_bit {p : Nat} (hp : p < 32) : (1 <<< (nI p &&& 31) : Int32) = kb (fun i => decide (i = p)) := kb_eq (fun i hi => hb_bit hp hi)
theorem kb_not (g : Nat → Bool) : kb g ^^^ (-1) = kb (fun i => !g i) := kb_eq (fun i hi => by rw [hb_not _ hi, kb_b hi])
theorem kL_bit {p : Nat} (hp : p < 64) : (1 <<< ((nI p).toInt64 &&& 63) : Int64) = kL (fun i => decide (i = p)) := kL_eq (fun i hi => hL_bit hp hi)
theorem kL_or (g h : Nat → Bool) : kL g ||| kL h = kL (fun i => g i || h i) := kL_eq (fun i hi => by rw [hL_or, kL_b hi, kL_b hi])
theorem kb_z {g : Nat → Bool} : kb g = 0 ↔ ∀ i, i < 32 → g i = false := by
  constructor
  · intro h i hi; rw [← kb_b (g := g) hi, h, hb_0]
  · intro h; rw [kb_0]; exact kb_c h
theorem kL_z {g : Nat → Bool} : kL g = 0 ↔ ∀ i, i < 64 → g i = false := by
  constructor
  · intro h i hi; rw [← kL_b (g := g) hi, h, hL_0]
  · intro h; rw [kL_0]; exact kL_c h
theorem kb_has {g : Nat → Bool} {p : Nat} (hp : p < 32) : (kb g >>> (nI p &&& 31)) &&& 1 = 0 ↔ g p = false := by rw [hb_has hp, kb_b hp]
/-- facts that keep him from a parish at an hour, from a road at an hour -/
def kbl (A : Nat → Bool) (u : hM) (p t f : Nat) : Bool := A f && decide (u 12 f = t ∧ (u 10 f = 0 ∧ ¬ u 11 f = p ∨ u 10 f = 1 ∧ u 11 f = p))
def kbr (A : Nat → Bool) (u : hM) (r t f : Nat) : Bool := A f && decide (u 12 f = t ∧ (u 10 f = 0 ∨ u 10 f = 2 ∧ u 11 f = r))
def klet (A : Nat → Bool) (u : hM) (p t : Nat) : Bool := !kany (kbl A u p t) (u 9 0)
def kbar (A : Nat → Bool) (u : hM) (r t : Nat) : Bool := kany (kbr A u r t) (u 9 0)
/-- clear at all hours a .. b - 1 -/
def kbc (A : Nat → Bool) (u : hM) (r a b f : Nat) : Bool := A f && decide ((a ≤ u 12 f ∧ u 12 f < b) ∧ (u 10 f = 0 ∨ u 10 f = 2 ∧ u 11 f = r))
def kclr (A : Nat → Bool) (u : hM) (r a b : Nat) : Bool := !kany (kbc A u r a b) (u 9 0)
theorem kclr_t {A : Nat → Bool} {u : hM} {r a b : Nat} : kclr A u r a b = true ↔ ∀ h, a ≤ h → h < b → kbar A u r h = false := by
  unfold kclr kbar
  simp only [Bool.not_eq_true', kany_f]
  constructor
  · intro h t h1 h2 f hf
    have := h f hf
    unfold kbc at this
    unfold kbr
    cases hA : A f with
    | false => rfl
    | true =>
      rw [hA] at this
      simp only [Bool.true_and, decide_eq_false_iff_not] at this ⊢
      rintro ⟨e, q⟩
      exact this ⟨by omega, q⟩
  · intro h f hf
    unfold kbc
    cases hA : A f with
    | false => rfl
    | true =>
      simp only [Bool.true_and, decide_eq_false_iff_not]
      rintro ⟨⟨e1, e2⟩, q⟩
      have := h (u 12 f) e1 e2 f hf
      unfold kbr at this
      rw [hA] at this
      simp only [Bool.true_and, decide_eq_false_iff_not] at this
      exact this ⟨trivial, q⟩
/-- coming to p at hour t by road r; where he may be -/
def kcm (A : Nat → Bool) (u : hM) (R : Nat → Nat → Bool) (r p t : Nat) : Bool := decide (u 6 r = 0 ∧ 1 ≤ u 5 r ∧ u 5 r ≤ t) && (decide (u 4 r = p) && R (t - u 5 r) (u 3 r) || decide (u 3 r = p) && R (t - u 5 r) (u 4 r)) && kclr A u r (t - u 5 r + 1) t
def kst (A : Nat → Bool) (u : hM) (R : Nat → Nat → Bool) (t p : Nat) : Bool := (if t = 0 then decide (u 8 0 = p + 1) else R (t - 1) p || kany (fun r => kcm A u R r p t) (u 2 0)) && klet A u p t
def ktab (A : Nat → Bool) (u : hM) (W : Nat → Nat → Bool) : Nat → Nat → Nat → Bool
  | 0 => fun _ _ => false
  | n + 1 => fun t p => if t = n then kst A u (ktab A u W n) n p && !W n p else ktab A u W n t p
def kR (A : Nat → Bool) (u : hM) (W : Nat → Nat → Bool) (t p : Nat) : Bool := ktab A u W (t + 1) t p
theorem ktab_lt {A : Nat → Bool} {u : hM} {W : Nat → Nat → Bool} {t p : Nat} : ∀ n, t < n → ktab A u W n t p = kR A u W t p
  | 0, h => absurd h (by omega)
  | n + 1, h => by
    by_cases e : t = n
    · subst e; rfl
    · rw [← ktab_lt n (by omega)]; simp only [ktab]; rw [if_neg e]
theorem kcm_c {A : Nat → Bool} {u : hM} {R R1 : Nat → Nat → Bool} {r p t : Nat} (h : ∀ t1 p1, t1 < t → R t1 p1 = R1 t1 p1) : kcm A u R r p t = kcm A u R1 r p t := by
  unfold kcm
  by_cases e : u 6 r = 0 ∧ 1 ≤ u 5 r ∧ u 5 r ≤ t
  · rw [h _ _ (by omega), h _ _ (by omega)]
  · rw [decide_eq_false e]; rfl
theorem kst_c {A : Nat → Bool} {u : hM} {R R1 : Nat → Nat → Bool} {t p : Nat} (h : ∀ t1 p1, t1 < t → R t1 p1 = R1 t1 p1) : kst A u R t p = kst A u R1 t p := by
  unfold kst
  by_cases e : t = 0
  · rw [if_pos e, if_pos e]
  · rw [if_neg e, if_neg e, h _ _ (by omega), kany_c (fun r _ => kcm_c h)]
theorem kR_eq (A : Nat → Bool) (u : hM) (W : Nat → Nat → Bool) (t p : Nat) : kR A u W t p = (kst A u (kR A u W) t p && !W t p) := by
  show (if t = t then _ else _) = _
  rw [if_pos rfl, kst_c (fun t1 p1 h => ktab_lt t h)]
/-- going on from p at hour t by road r; whence he can go on to the last hour -/
def kdp (A : Nat → Bool) (u : hM) (G : Nat → Nat → Bool) (r p t : Nat) : Bool := decide (u 6 r = 0) && kclr A u r (t + 1) (min (t + u 5 r) 48) && (decide (u 3 r = p) && (decide (48 ≤ t + u 5 r) || G (t + u 5 r) (u 4 r)) || decide (u 4 r = p) && (decide (48 ≤ t + u 5 r) || G (t + u 5 r) (u 3 r)))
def kgo (A : Nat → Bool) (u : hM) (G : Nat → Nat → Bool) (t p : Nat) : Bool := (decide (t = 47) || (G (t + 1) p || kany (fun r => kdp A u G r p t) (u 2 0))) && klet A u p t
/-- k hours before the last -/
def kgt (A : Nat → Bool) (u : hM) : Nat → Nat → Nat → Bool
  | 0 => fun _ _ => false
  | n + 1 => fun t p => if t + n = 47 then kgo A u (kgt A u n) t p else kgt A u n t p
def kG (A : Nat → Bool) (u : hM) (t p : Nat) : Bool := kgt A u (48 - t) t p
theorem kgt_lt {A : Nat → Bool} {u : hM} {t p : Nat} (h48 : t < 48) : ∀ n, 48 ≤ t + n → kgt A u n t p = kG A u t p
  | 0, h => absurd h (by omega)
  | n + 1, h => by
    by_cases e : t + n = 47
    · rw [kG, show 48 - t = n + 1 by omega]
    · rw [← kgt_lt h48 n (by omega)]; simp only [kgt]; rw [if_neg e]
theorem kdp_c {A : Nat → Bool} {u : hM} {G G1 : Nat → Nat → Bool} {r p t : Nat} (hr : 1 ≤ u 5 r) (h : ∀ t1 p1, t < t1 → t1 < 48 → G t1 p1 = G1 t1 p1) : kdp A u G r p t = kdp A u G1 r p t := by
  unfold kdp
  by_cases e : 48 ≤ t + u 5 r
  · rw [decide_eq_true e]; simp only [Bool.true_or]
  · rw [h _ _ (by omega) (by omega), h _ _ (by omega) (by omega)]
theorem kgo_c {A : Nat → Bool} {u : hM} {G G1 : Nat → Nat → Bool} {t p : Nat} (ht : t < 48) (hr : ∀ r, r < u 2 0 → 1 ≤ u 5 r) (h : ∀ t1 p1, t < t1 → t1 < 48 → G t1 p1 = G1 t1 p1) : kgo A u G t p = kgo A u G1 t p := by
  unfold kgo
  by_cases e : t = 47
  · rw [decide_eq_true e]; simp only [Bool.true_or]
  · rw [h _ _ (by omega) (by omega), kany_c (fun r q => kdp_c (hr r q) h)]
theorem kG_eq (A : Nat → Bool) (u : hM) {t : Nat} (p : Nat) (ht : t < 48) (hr : ∀ r, r < u 2 0 → 1 ≤ u 5 r) : kG A u t p = kgo A u (kG A u) t p := by
  have e : kG A u t p = kgt A u ((47 - t) + 1) t p := by rw [kG, show 48 - t = 47 - t + 1 by omega]
  rw [e]
  simp only [kgt]
  rw [if_pos (by omega)]
  exact kgo_c ht hr (fun t1 p1 h1 h2 => kgt_lt h2 _ (by omega))
/-- facts of later hours take nothing from earlier sets -/
theorem klet_c {A B : Nat → Bool} {u : hM} {p t : Nat} (h : ∀ f, f < u 9 0 → u 12 f = t → A f = B f) : klet A u p t = klet B u p t := by
  unfold klet
  rw [kany_c (fun f hf => ?_)]
  unfold kbl
  by_cases e : u 12 f = t
  · rw [h f hf e]
  · rw [decide_eq_false (fun q => e q.1), Bool.and_false, Bool.and_false]
theorem kclr_c {A B : Nat → Bool} {u : hM} {r a b : Nat} (h : ∀ f, f < u 9 0 → a ≤ u 12 f → u 12 f < b → A f = B f) : kclr A u r a b = kclr B u r a b := by
  unfold kclr
  rw [kany_c (fun f hf => ?_)]
  unfold kbc
  by_cases e : a ≤ u 12 f ∧ u 12 f < b
  · rw [h f hf e.1 e.2]
  · rw [decide_eq_false (fun q => e q.1), Bool.and_false, Bool.and_false]
theorem kcm_A {A B : Nat → Bool} {u : hM} {R : Nat → Nat → Bool} {r p t : Nat} (h : ∀ f, f < u 9 0 → u 12 f < t → A f = B f) : kcm A u R r p t = kcm B u R r p t := by
  unfold kcm
  rw [kclr_c (fun f hf _ h2 => h f hf h2)]
theorem kst_A {A B : Nat → Bool} {u : hM} {R : Nat → Nat → Bool} {p t : Nat} (h : ∀ f, f < u 9 0 → u 12 f ≤ t → A f = B f) : kst A u R t p = kst B u R t p := by
  unfold kst
  rw [klet_c (fun f hf e => h f hf (by omega)), kany_c (fun r _ => kcm_A (fun f hf e => h f hf (by omega)))]
theorem kR_A {A B : Nat → Bool} {u : hM} {W : Nat → Nat → Bool} : ∀ (n t p : Nat), t < n → (∀ f, f < u 9 0 → u 12 f ≤ t → A f = B f) → kR A u W t p = kR B u W t p
  | 0, _, _, h, _ => absurd h (by omega)
  | n + 1, t, p, h, hA => by
    rw [kR_eq, kR_eq, kst_A hA]
    rw [kst_c (fun t1 p1 h1 => kR_A n t1 p1 (by omega) (fun f hf e => hA f hf (by omega)))]
theorem kdp_A {A B : Nat → Bool} {u : hM} {G : Nat → Nat → Bool} {r p t : Nat} (h : ∀ f, f < u 9 0 → t < u 12 f → A f = B f) : kdp A u G r p t = kdp B u G r p t := by
  unfold kdp
  rw [kclr_c (fun f hf h2 _ => h f hf (by omega))]
theorem kgo_A {A B : Nat → Bool} {u : hM} {G : Nat → Nat → Bool} {p t : Nat} (h : ∀ f, f < u 9 0 → t ≤ u 12 f → A f = B f) : kgo A u G t p = kgo B u G t p := by
  unfold kgo
  rw [klet_c (fun f hf e => h f hf (by omega)), kany_c (fun r _ => kdp_A (fun f hf e => h f hf (by omega)))]
theorem kG_A {A B : Nat → Bool} {u : hM} (hr : ∀ r, r < u 2 0 → 1 ≤ u 5 r) : ∀ (n t p : Nat), t < 48 → 48 ≤ t + n → (∀ f, f < u 9 0 → t ≤ u 12 f → A f = B f) → kG A u t p = kG B u t p
  | 0, _, _, h, h2, _ => absurd h (by omega)
  | n + 1, t, p, h, h2, hA => by
    rw [kG_eq A u p h hr, kG_eq B u p h hr, kgo_A hA]
    rw [kgo_c h hr (fun t1 p1 h1 h3 => kG_A hr n t1 p1 h3 (by omega) (fun f hf e => hA f hf (by omega)))]
end
end
section
section
def kz (z : mv_Z) (a : Nat → Int32) (b : Nat → Int64) (c d : Nat → Int32) : mv_Z := (fun q => if q = 15 then a else if q = 17 then c else if q = 18 then d else z.1 q, fun q => if q = 16 then b else z.2 q)
theorem kz_self (z : mv_Z) : kz z (z.1 15) (z.2 16) (z.1 17) (z.1 18) = z := by
  unfold kz
  refine Prod.ext (funext fun q => ?_) (funext fun q => ?_)
  · dsimp only
    split
    · rename_i h; rw [h]
    · split
      · rename_i h; rw [h]
      · split
        · rename_i h; rw [h]
        · rfl
  · dsimp only
    split
    · rename_i h; rw [h]
    · rfl
theorem kz_u15 {z : mv_Z} {a : Nat → Int32} {b : Nat → Int64} {c d : Nat → Int32} {i : Nat} {x : Int32} : mv_u (kz z a b c d) 15 i x = kz z (upd a i x) b c d := by
  unfold kz mv_u
  refine Prod.ext (funext fun q => ?_) rfl
  by_cases h : q = 15 <;> simp [va_up, h]
theorem kz_u17 {z : mv_Z} {a : Nat → Int32} {b : Nat → Int64} {c d : Nat → Int32} {i : Nat} {x : Int32} : mv_u (kz z a b c d) 17 i x = kz z a b (upd c i x) d := by
  unfold kz mv_u
  refine Prod.ext (funext fun q => ?_) rfl
  by_cases h : q = 17 <;> simp [va_up, h]
theorem kz_u18 {z : mv_Z} {a : Nat → Int32} {b : Nat → Int64} {c d : Nat → Int32} {i : Nat} {x : Int32} : mv_u (kz z a b c d) 18 i x = kz z a b c (upd d i x) := by
  unfold kz mv_u
  refine Prod.ext (funext fun q => ?_) rfl
  by_cases h : q = 18 <;> simp [va_up, h]
theorem kz_u16 {z : mv_Z} {a : Nat → Int32} {b : Nat → Int64} {c d : Nat → Int32} {i : Nat} {x : Int64} : mv_uL (kz z a b c d) 16 i x = kz z a (vp_updL b i x) c d := by
  unfold kz mv_uL
  refine Prod.ext rfl (funext fun q => ?_)
  by_cases h : q = 16 <;> simp [va_up, h]
theorem rX_1 {u : hM} {z z1 : mv_Z} (h : rX u z) (e : z1.1 = z.1) : rX u z1 := by
  unfold rX rT at h ⊢
  rw [e]; exact h
theorem kz_rX {u : hM} {z : mv_Z} (h : rX u z) (a : Nat → Int32) (b : Nat → Int64) (c d : Nat → Int32) : rX u (kz z a b c d) := by
  refine rX_1 (rX_freew (rX_freew (rX_freew h 15 a (by decide)) 17 c (by decide)) 18 d (by decide)) ?_
  funext q
  unfold kz mv_w
  dsimp only [va_up]
  by_cases h1 : q = 15
  · subst h1; rfl
  · by_cases h2 : q = 17
    · subst h2; rfl
    · by_cases h3 : q = 18
      · subst h3; rfl
      · simp [h1, h2, h3]
theorem kz_fX {z z1 : mv_Z} (h : fX z z1) (a : Nat → Int32) (b : Nat → Int64) (c d : Nat → Int32) : fX z (kz z1 a b c d) := fun q hq => by
  unfold kz
  dsimp only
  rw [if_neg (by omega), if_neg (by omega), if_neg (by omega), if_neg (by omega)]
  exact h q hq
def kfl (f g : Nat → Int32) (n : Nat) : Nat → Int32 := fun i => if i < n then g i else f i
def kflL (f g : Nat → Int64) (n : Nat) : Nat → Int64 := fun i => if i < n then g i else f i
theorem kfl_s (f g : Nat → Int32) (n : Nat) : upd (kfl f g n) n (g n) = kfl f g (n + 1) := by
  funext i
  unfold upd kfl
  by_cases e : i = n
  · subst e; simp
  · have : i < n + 1 ↔ i < n := by omega
    simp [e, this]
theorem kflL_s (f g : Nat → Int64) (n : Nat) : vp_updL (kflL f g n) n (g n) = kflL f g (n + 1) := by
  funext i
  unfold vp_updL kflL
  by_cases e : i = n
  · subst e; simp
  · have : i < n + 1 ↔ i < n := by omega
    simp [e, this]
theorem kfl_0 (f g : Nat → Int32) : kfl f g 0 = f := by funext i; simp [kfl]
theorem kflL_0 (f g : Nat → Int64) : kflL f g 0 = f := by funext i; simp [kflL]
theorem kfl_i {f g : Nat → Int32} {n i : Nat} (h : i < n) : kfl f g n i = g i := by simp [kfl, h]
theorem kflL_i {f g : Nat → Int64} {n i : Nat} (h : i < n) : kflL f g n i = g i := by simp [kflL, h]
/-- what the first i facts leave -/
def kbg (A : Nat → Bool) (u : hM) (r t f : Nat) : Bool := A f && decide (u 12 f = t ∧ u 10 f = 2 ∧ u 11 f = r)
def ksn (A : Nat → Bool) (u : hM) (t f : Nat) : Bool := A f && decide (u 12 f = t ∧ u 10 f = 0)
def k15 (A : Nat → Bool) (u : hM) (a : Nat → Int32) (i : Nat) : Nat → Int32 := kfl a (fun t => kb (fun p => !kany (kbl A u p t) i)) 48
def k16 (A : Nat → Bool) (u : hM) (b : Nat → Int64) (i : Nat) : Nat → Int64 := kflL b (fun r => kL (fun t => kany (kbg A u r t) i)) (u 2 0)
theorem k15_no {A : Nat → Bool} {u : hM} {a : Nat → Int32} {f : Nat} (h : A f = false ∨ u 10 f = 2) : k15 A u a (f + 1) = k15 A u a f := by
  funext t
  unfold k15 kfl
  have e : ∀ p, kbl A u p t f = false := by
    intro p
    unfold kbl
    rcases h with h | h
    · rw [h]; rfl
    · simp [h]
  simp only [kany, e, Bool.or_false]
theorem k16_no {A : Nat → Bool} {u : hM} {b : Nat → Int64} {f : Nat} (h : A f = false ∨ u 10 f < 2) : k16 A u b (f + 1) = k16 A u b f := by
  funext r
  unfold k16 kflL
  have e : ∀ t, kbg A u r t f = false := by
    intro t
    unfold kbg
    rcases h with h | h
    · rw [h]; rfl
    · have : ¬ u 10 f = 2 := by omega
      simp [this]
  simp only [kany, e, Bool.or_false]
theorem k15_up {A : Nat → Bool} {u : hM} {a : Nat → Int32} {f : Nat} {g : Nat → Bool} (h48 : u 12 f < 48) (hg : ∀ p, p < 32 → kbl A u p (u 12 f) f = !g p) : upd (k15 A u a f) (u 12 f) (k15 A u a f (u 12 f) &&& kb g) = k15 A u a (f + 1) := by
  funext t
  unfold upd
  by_cases e : t = u 12 f
  · subst e
    rw [if_pos rfl]
    unfold k15
    rw [kfl_i h48, kfl_i h48, kb_and]
    apply kb_c
    intro p hp
    simp only [kany]
    rw [hg p hp]
    simp
  · rw [if_neg e]
    unfold k15 kfl
    have e2 : ∀ p, kbl A u p t f = false := by
      intro p
      unfold kbl
      have : ¬ u 12 f = t := fun q => e q.symm
      simp [this]
    simp only [kany, e2, Bool.or_false]
theorem k16_up {A : Nat → Bool} {u : hM} {b : Nat → Int64} {f : Nat} (hA : A f = true) (h2 : u 10 f = 2) (hr : u 11 f < u 2 0) : vp_updL (k16 A u b f) (u 11 f) (k16 A u b f (u 11 f) ||| kL (fun t => decide (t = u 12 f))) = k16 A u b (f + 1) := by
  funext r
  unfold vp_updL
  by_cases e : r = u 11 f
  · subst e
    rw [if_pos rfl]
    unfold k16
    rw [kflL_i hr, kflL_i hr, kL_or]
    apply kL_c
    intro t ht
    simp only [kany, kbg, hA, h2]
    simp [eq_comm]
  · rw [if_neg e]
    unfold k16 kflL
    have e2 : ∀ t, kbg A u r t f = false := by
      intro t
      unfold kbg
      have : ¬ u 11 f = r := fun q => e q.symm
      simp [this]
    simp only [kany, e2, Bool.or_false]
theorem r_heedOne (z : mv_Z) (u : hM) (A : Nat → Bool) (a : Nat → Int32) (b : Nat → Int64) (c d : Nat → Int32) (f : Nat) (hi : hI u) (hz : rX u z) (hf : f < u 9 0) (hA : A f = true) : mv_Runs 2 19 [.ref 2, .int (nI f)] (mv_E (kz z (k15 A u a f) (k16 A u b f) c d)) (some (.long (kL (fun t => ksn A u t f)))) (mv_E (kz z (k15 A u a (f + 1)) (k16 A u b (f + 1)) c d)) := by
  obtain ⟨f1, f2, f3, f4⟩ := hi.2.2.2.2.2.2.2.2.1 f hf
  have h40 : u 9 0 ≤ 40 := hi.2.2.2.2.2.2.2.1
  have h24 := hi.1
  have hr40 := hi.2.2.1
  have y1 : ∀ a b c d, (kz z a b c d).1 11 f = nI (u 10 f) := fun _ _ _ _ => rX_a hz 11 10 (by decide) f
  have y2 : ∀ a b c d, (kz z a b c d).1 12 f = nI (u 11 f) := fun _ _ _ _ => rX_a hz 12 11 (by decide) f
  have y3 : ∀ a b c d, (kz z a b c d).1 13 f = nI (u 12 f) := fun _ _ _ _ => rX_a hz 13 12 (by decide) f
  rcases (show u 10 f = 0 ∨ u 10 f = 1 ∨ u 10 f = 2 by omega) with h0 | h0 | h0
  · rw [k16_no (Or.inr (by omega))]
    have e1 : (kL (fun t => ksn A u t f)) = 1 <<< ((nI (u 12 f)).toInt64 &&& 63) := by
      rw [kL_bit (by omega)]
      apply kL_c; intro t ht; simp [ksn, hA, h0, eq_comm]
    have e2 := k15_up (A := A) (u := u) (a := a) (f := f) (g := fun i => decide (i = u 11 f)) f2 (fun p hp => by simp [kbl, hA, h0, eq_comm])
    rw [← kb_bit (by omega)] at e2
    rw [e1, ← e2]
    have y1' : ∀ a b c d, (kz z a b c d).1 11 f = nI 0 := fun a b c d => by rw [y1, h0]
    refine mv_start pX1_heedOne (some .long) [some (.ref 2), some (.int (nI f)), none, none] rfl rfl rfl rfl (fun V C => ?_)
    refine mv_aload_n C rfl rfl ?_
    refine mv_getR C rfl rfl rfl ?_
    refine mv_getR C rfl rfl rfl ?_
    refine mv_iload_n C rfl rfl ?_
    refine mv_aldJ C rfl rfl rfl (by omega) (y2 _ _ _ _) ?_
    refine mv_is_n2 C rfl rfl ?_
    refine mv_aload_n C rfl rfl ?_
    refine mv_getR C rfl rfl rfl ?_
    refine mv_getR C rfl rfl rfl ?_
    refine mv_iload_n C rfl rfl ?_
    refine mv_aldJ C rfl rfl rfl (by omega) (y3 _ _ _ _) ?_
    refine mv_is_n3 C rfl rfl ?_
    refine mv_aload_n C rfl rfl ?_
    refine mv_getR C rfl rfl rfl ?_
    refine mv_getR C rfl rfl rfl ?_
    refine mv_iload_n C rfl rfl ?_
    refine mv_aldJ C rfl rfl rfl (by omega) (y1' _ _ _ _) ?_
    refine mv_lsw C rfl rfl rfl ?_
    refine mv_aload_n C rfl rfl ?_
    refine mv_getR C rfl rfl rfl ?_
    refine mv_iload_n C rfl rfl ?_
    refine mv_dup2 C rfl rfl rfl ?_
    refine mv_ald C rfl rfl rfl (by omega) ?_
    refine mv_iload_n C rfl rfl ?_
    refine mv_cS C rfl (r_bit _ _) (by decide) rfl (Nat.le_of_ble_eq_true rfl) (Nat.le_refl _) (Nat.le_refl _) rfl ?_
    refine mv_iand C rfl ?_
    refine mv_ast C rfl rfl rfl (by omega) ?_
    refine mv_sto kz_u15 ?_
    refine mv_lconst C rfl ?_
    refine mv_iload_n C rfl rfl ?_
    refine mv_lshl C rfl ?_
    refine mv_lreturn C rfl rfl ?_ ?_
    all_goals rfl
  · rw [k16_no (Or.inr (by omega))]
    have e1 : (kL (fun t => ksn A u t f)) = 0 := by
      rw [kL_0]
      apply kL_c; intro t ht; simp [ksn, h0]
    have e2 := k15_up (A := A) (u := u) (a := a) (f := f) (g := fun i => !decide (i = u 11 f)) f2 (fun p hp => by simp [kbl, hA, h0, eq_comm])
    rw [← kb_not, ← kb_bit (by omega)] at e2
    rw [e1, ← e2]
    have y1' : ∀ a b c d, (kz z a b c d).1 11 f = nI 1 := fun a b c d => by rw [y1, h0]
    refine mv_start pX1_heedOne (some .long) [some (.ref 2), some (.int (nI f)), none, none] rfl rfl rfl rfl (fun V C => ?_)
    refine mv_aload_n C rfl rfl ?_
    refine mv_getR C rfl rfl rfl ?_
    refine mv_getR C rfl rfl rfl ?_
    refine mv_iload_n C rfl rfl ?_
    refine mv_aldJ C rfl rfl rfl (by omega) (y2 _ _ _ _) ?_
    refine mv_is_n2 C rfl rfl ?_
    refine mv_aload_n C rfl rfl ?_
    refine mv_getR C rfl rfl rfl ?_
    refine mv_getR C rfl rfl rfl ?_
    refine mv_iload_n C rfl rfl ?_
    refine mv_aldJ C rfl rfl rfl (by omega) (y3 _ _ _ _) ?_
    refine mv_is_n3 C rfl rfl ?_
    refine mv_aload_n C rfl rfl ?_
    refine mv_getR C rfl rfl rfl ?_
    refine mv_getR C rfl rfl rfl ?_
    refine mv_iload_n C rfl rfl ?_
    refine mv_aldJ C rfl rfl rfl (by omega) (y1' _ _ _ _) ?_
    refine mv_lsw C rfl rfl rfl ?_
    refine mv_aload_n C rfl rfl ?_
    refine mv_getR C rfl rfl rfl ?_
    refine mv_iload_n C rfl rfl ?_
    refine mv_dup2 C rfl rfl rfl ?_
    refine mv_ald C rfl rfl rfl (by omega) ?_
    refine mv_iload_n C rfl rfl ?_
    refine mv_cS C rfl (r_bit _ _) (by decide) rfl (Nat.le_of_ble_eq_true rfl) (Nat.le_refl _) (Nat.le_refl _) rfl ?_
    refine mv_iconst C rfl ?_
    refine mv_ixor C rfl ?_
    refine mv_iand C rfl ?_
    refine mv_ast C rfl rfl rfl (by omega) ?_
    refine mv_sto kz_u15 ?_
    refine mv_lconst C rfl ?_
    refine mv_lreturn C rfl rfl ?_ ?_
    all_goals rfl
  · rw [k15_no (Or.inr h0)]
    have f5 := f4 h0
    have e1 : (kL (fun t => ksn A u t f)) = 0 := by
      rw [kL_0]
      apply kL_c; intro t ht; simp [ksn, h0]
    have e2 := k16_up (A := A) (u := u) (b := b) (f := f) hA h0 f5
    rw [← kL_bit (by omega)] at e2
    rw [e1, ← e2]
    have y1' : ∀ a b c d, (kz z a b c d).1 11 f = nI 2 := fun a b c d => by rw [y1, h0]
    refine mv_start pX1_heedOne (some .long) [some (.ref 2), some (.int (nI f)), none, none] rfl rfl rfl rfl (fun V C => ?_)
    refine mv_aload_n C rfl rfl ?_
    refine mv_getR C rfl rfl rfl ?_
    refine mv_getR C rfl rfl rfl ?_
    refine mv_iload_n C rfl rfl ?_
    refine mv_aldJ C rfl rfl rfl (by omega) (y2 _ _ _ _) ?_
    refine mv_is_n2 C rfl rfl ?_
    refine mv_aload_n C rfl rfl ?_
    refine mv_getR C rfl rfl rfl ?_
    refine mv_getR C rfl rfl rfl ?_
    refine mv_iload_n C rfl rfl ?_
    refine mv_aldJ C rfl rfl rfl (by omega) (y3 _ _ _ _) ?_
    refine mv_is_n3 C rfl rfl ?_
    refine mv_aload_n C rfl rfl ?_
    refine mv_getR C rfl rfl rfl ?_
    refine mv_getR C rfl rfl rfl ?_
    refine mv_iload_n C rfl rfl ?_
    refine mv_aldJ C rfl rfl rfl (by omega) (y1' _ _ _ _) ?_
    refine mv_lsw C rfl rfl rfl ?_
    refine mv_aload_n C rfl rfl ?_
    refine mv_getR C rfl rfl rfl ?_
    refine mv_iload_n C rfl rfl ?_
    refine mv_dup2 C rfl rfl rfl ?_
    refine mv_lld C rfl rfl rfl (by omega) ?_
    refine mv_lconst C rfl ?_
    refine mv_iload_n C rfl rfl ?_
    refine mv_lshl C rfl ?_
    refine mv_lor C rfl ?_
    refine mv_lst C rfl rfl rfl (by omega) ?_
    refine mv_sto kz_u16 ?_
    refine mv_lconst C rfl ?_
    refine mv_lreturn C rfl rfl ?_ ?_
    all_goals rfl
end
end
section
section
def kA (u : hM) (L : Nat) (sp : Int32) (f : Nat) : Bool := decide (u 13 f = 0 ∧ ¬ nI f = sp ∧ u 12 f ≤ L)
def kaa (A : Nat → Bool) (u : hM) (a : Nat → Int32) : Nat → Int32 := k15 A u a (u 9 0)
def kbb (A : Nat → Bool) (u : hM) (b : Nat → Int64) : Nat → Int64 := kflL b (fun r => kL (fun t => kbar A u r t)) (u 2 0)
theorem kaa_i {A : Nat → Bool} {u : hM} {a : Nat → Int32} {t : Nat} (h : t < 48) : kaa A u a t = kb (fun p => klet A u p t) := by unfold kaa k15; rw [kfl_i h]; rfl
theorem kbb_i {A : Nat → Bool} {u : hM} {b : Nat → Int64} {r : Nat} (h : r < u 2 0) : kbb A u b r = kL (fun t => kbar A u r t) := by unfold kbb; rw [kflL_i h]
theorem kany_or (g h : Nat → Bool) : ∀ n, (kany g n || kany h n) = kany (fun i => g i || h i) n
  | 0 => rfl
  | n + 1 => by
    simp only [kany]
    rw [← kany_or g h n]
    cases kany g n <;> cases kany h n <;> cases g n <;> cases h n <;> rfl
theorem kbar_or (A : Nat → Bool) (u : hM) (r t : Nat) : (kany (kbg A u r t) (u 9 0) || kany (ksn A u t) (u 9 0)) = kbar A u r t := by
  rw [kany_or]
  unfold kbar
  apply kany_c
  intro f _
  simp only [kbg, ksn, kbr]
  cases A f with
  | false => rfl
  | true =>
    simp only [Bool.true_and]
    rw [Bool.eq_iff_iff]
    simp only [Bool.or_eq_true, decide_eq_true_eq]
    omega
theorem r_heed (z : mv_Z) (u : hM) (a : Nat → Int32) (b : Nat → Int64) (c d : Nat → Int32) (L : Nat) (sp : Int32) (hL : L < 48) (hi : hI u) (hz : rX u z) : mv_Runs 3 18 [.ref 2, .int (nI L), .int sp] (mv_E (kz z a b c d)) none (mv_E (kz z (kaa (kA u L sp) u a) (kbb (kA u L sp) u b) c d)) := by
  have h40 : u 9 0 ≤ 40 := hi.2.2.2.2.2.2.2.1
  have hr40 := hi.2.2.1
  have hsk := hi.2.2.2.2.2.2.2.2.2.1
  have hfc := hi.2.2.2.2.2.2.2.2.1
  have hn : ∀ a b c d, (kz z a b c d).1 10 4 = nI (u 9 0) := fun _ _ _ _ => rX_s hz 10 4 9 (by decide)
  have hr : ∀ a b c d, (kz z a b c d).1 3 7 = nI (u 2 0) := fun _ _ _ _ => rX_s hz 3 7 2 (by decide)
  have y3 : ∀ a b c d f, (kz z a b c d).1 13 f = nI (u 12 f) := fun _ _ _ _ f => rX_a hz 13 12 (by decide) f
  have y4 : ∀ a b c d f, (kz z a b c d).1 14 f = nI (u 13 f) := fun _ _ _ _ f => rX_a hz 14 13 (by decide) f
  generalize hA : kA u L sp = A
  have hA1 : ∀ f, A f = decide (u 13 f = 0 ∧ ¬ nI f = sp ∧ u 12 f ≤ L) := fun f => by rw [← hA]; rfl
  refine mv_start pX1_heed none [some (.ref 2), some (.int (nI L)), some (.int sp), none, none, none] rfl rfl rfl rfl (fun V C => ?_)
  have l4 : ∀ (k i : Nat), i + k = u 2 0 → V 115 [some (.ref 2), some (.int (nI L)), some (.int sp), some (.long (kL (fun t => kany (ksn A u t) (u 9 0)))), none, some (.int (nI i))] [] (mv_E (kz z (kaa A u a) (kflL (k16 A u b (u 9 0)) (fun r => kL (fun t => kbar A u r t)) i) c d)) := by
    intro k
    induction k with
    | zero =>
      intro i hi2
      obtain rfl : i = u 2 0 := by omega
      refine mv_iload C rfl rfl ?_
      refine mv_aload_n C rfl rfl ?_
      refine mv_getR C rfl rfl rfl ?_
      refine mv_getJ C rfl rfl rfl (hr _ _ _ _) ?_
      refine mv_icmp_ge C rfl (fun c124 => ?_) (fun c124 => ?_)
      · refine mv_return_ C rfl rfl ?_ ?_
        · rfl
        · (refine congrArg (fun q => mv_E (kz z (kaa A u a) q c d)) ?_; funext r; unfold kbb k16 kflL; split <;> rfl)
      · exact absurd (nI_le (by omega) (by omega)) c124
    | succ k ih =>
      intro i hi2
      have e := ih (i + 1) (by omega)
      rw [← kflL_s] at e
      have ev : kflL (k16 A u b (u 9 0)) (fun r => kL (fun t => kbar A u r t)) i i ||| kL (fun t => kany (ksn A u t) (u 9 0)) = kL (fun t => kbar A u i t) := by
        rw [show kflL (k16 A u b (u 9 0)) (fun r => kL (fun t => kbar A u r t)) i i = k16 A u b (u 9 0) i by simp [kflL]]
        unfold k16
        rw [kflL_i (by omega), kL_or]
        exact kL_c (fun t _ => kbar_or A u i t)
      refine mv_iload C rfl rfl ?_
      refine mv_aload_n C rfl rfl ?_
      refine mv_getR C rfl rfl rfl ?_
      refine mv_getJ C rfl rfl rfl (hr _ _ _ _) ?_
      refine mv_icmp_ge C rfl (fun c124 => ?_) (fun c124 => ?_)
      · exact absurd c124 (nI_ge (by omega) (by omega))
      · refine mv_aload_n C rfl rfl ?_
        refine mv_getR C rfl rfl rfl ?_
        refine mv_iload C rfl rfl ?_
        refine mv_dup2 C rfl rfl rfl ?_
        refine mv_lld C rfl rfl rfl (by omega) ?_
        refine mv_lload_n C rfl rfl ?_
        refine mv_lor C rfl ?_
        refine mv_topL ev ?_
        refine mv_lst C rfl rfl rfl (by omega) ?_
        refine mv_sto kz_u16 ?_
        refine mv_inc5 C rfl rfl ?_
        refine mv_goto C rfl ?_
        simp only [nI_1]
        exact e
  have l3 : ∀ (k i : Nat), i + k = u 9 0 → V 52 [some (.ref 2), some (.int (nI L)), some (.int sp), some (.long (kL (fun t => kany (ksn A u t) i))), none, some (.int (nI i))] [] (mv_E (kz z (k15 A u a i) (k16 A u b i) c d)) := by
    intro k
    induction k with
    | zero =>
      intro i hi2
      obtain rfl : i = u 9 0 := by omega
      have e := l4 (u 2 0) 0 (by omega)
      rw [kflL_0] at e
      refine mv_iload C rfl rfl ?_
      refine mv_aload_n C rfl rfl ?_
      refine mv_getR C rfl rfl rfl ?_
      refine mv_getJ C rfl rfl rfl (hn _ _ _ _) ?_
      refine mv_icmp_ge C rfl (fun c61 => ?_) (fun c61 => ?_)
      · refine mv_iconst C rfl ?_
        refine mv_is5 C rfl rfl ?_
        exact e
      · exact absurd (nI_le (by omega) (by omega)) c61
    | succ k ih =>
      intro i hi2
      have e := ih (i + 1) (by omega)
      have hs := (hsk i).1
      have hf := hfc i (by omega)
      cases hAi : A i with
      | true =>
        have R := r_heedOne z u A a b c d i hi hz (by omega) hAi
        rw [hA1, decide_eq_true_eq] at hAi
        have ev : kL (fun t => kany (ksn A u t) i) ||| kL (fun t => ksn A u t i) = kL (fun t => kany (ksn A u t) (i + 1)) := by rw [kL_or]; rfl
        refine mv_iload C rfl rfl ?_
        refine mv_aload_n C rfl rfl ?_
        refine mv_getR C rfl rfl rfl ?_
        refine mv_getJ C rfl rfl rfl (hn _ _ _ _) ?_
        refine mv_icmp_ge C rfl (fun c61 => ?_) (fun c61 => ?_)
        · exact absurd c61 (nI_ge (by omega) (by omega))
        · refine mv_aload_n C rfl rfl ?_
          refine mv_getR C rfl rfl rfl ?_
          refine mv_getR C rfl rfl rfl ?_
          refine mv_iload C rfl rfl ?_
          refine mv_zldJ C rfl rfl rfl (by omega) (y4 _ _ _ _ _) ?_
          refine mv_if_ne C rfl (fun c74 => ?_) (fun c74 => ?_)
          · exact absurd (by rw [hAi.1]; rfl) c74
          · refine mv_iload C rfl rfl ?_
            refine mv_iload_n C rfl rfl ?_
            refine mv_icmp_eq C rfl (fun c80 => ?_) (fun c80 => ?_)
            · exact absurd c80 hAi.2.1
            · refine mv_aload_n C rfl rfl ?_
              refine mv_getR C rfl rfl rfl ?_
              refine mv_getR C rfl rfl rfl ?_
              refine mv_iload C rfl rfl ?_
              refine mv_aldJ C rfl rfl rfl (by omega) (y3 _ _ _ _ _) ?_
              refine mv_iload_n C rfl rfl ?_
              refine mv_icmp_gt C rfl (fun c94 => ?_) (fun c94 => ?_)
              · exact absurd c94 (nI_nlt (by omega) (by omega))
              · refine mv_lload_n C rfl rfl ?_
                refine mv_aload_n C rfl rfl ?_
                refine mv_iload C rfl rfl ?_
                refine mv_cV C rfl R (by decide) rfl rfl rfl (Nat.le_of_ble_eq_true rfl) (Nat.le_refl _) (Nat.le_refl _) rfl ?_
                refine mv_lor C rfl ?_
                refine mv_topL ev ?_
                refine mv_ls_n3 C rfl rfl ?_
                refine mv_inc5 C rfl rfl ?_
                refine mv_goto C rfl ?_
                simp only [nI_1]
                exact e
      | false =>
        rw [k15_no (Or.inl hAi), k16_no (Or.inl hAi)] at e
        have ev : kL (fun t => kany (ksn A u t) (i + 1)) = kL (fun t => kany (ksn A u t) i) := by apply kL_c; intro t _; simp [kany, ksn, hAi]
        rw [ev] at e
        rw [hA1, decide_eq_false_iff_not] at hAi
        refine mv_iload C rfl rfl ?_
        refine mv_aload_n C rfl rfl ?_
        refine mv_getR C rfl rfl rfl ?_
        refine mv_getJ C rfl rfl rfl (hn _ _ _ _) ?_
        refine mv_icmp_ge C rfl (fun c61 => ?_) (fun c61 => ?_)
        · exact absurd c61 (nI_ge (by omega) (by omega))
        · refine mv_aload_n C rfl rfl ?_
          refine mv_getR C rfl rfl rfl ?_
          refine mv_getR C rfl rfl rfl ?_
          refine mv_iload C rfl rfl ?_
          refine mv_zldJ C rfl rfl rfl (by omega) (y4 _ _ _ _ _) ?_
          refine mv_if_ne C rfl (fun c74 => ?_) (fun c74 => ?_)
          · refine mv_inc5 C rfl rfl ?_
            refine mv_goto C rfl ?_
            simp only [nI_1]
            exact e
          · refine mv_iload C rfl rfl ?_
            refine mv_iload_n C rfl rfl ?_
            refine mv_icmp_eq C rfl (fun c80 => ?_) (fun c80 => ?_)
            · refine mv_inc5 C rfl rfl ?_
              refine mv_goto C rfl ?_
              simp only [nI_1]
              exact e
            · refine mv_aload_n C rfl rfl ?_
              refine mv_getR C rfl rfl rfl ?_
              refine mv_getR C rfl rfl rfl ?_
              refine mv_iload C rfl rfl ?_
              refine mv_aldJ C rfl rfl rfl (by omega) (y3 _ _ _ _ _) ?_
              refine mv_iload_n C rfl rfl ?_
              refine mv_icmp_gt C rfl (fun c94 => ?_) (fun c94 => ?_)
              · refine mv_inc5 C rfl rfl ?_
                refine mv_goto C rfl ?_
                simp only [nI_1]
                exact e
              · (refine absurd ⟨?_, c80, ?_⟩ hAi; (rcases Nat.lt_or_ge 0 (u 13 i) with q | q; (rw [show u 13 i = 1 by omega] at c74; exact absurd c74 (by decide)); omega); (rcases Nat.lt_or_ge L (u 12 i) with q | q; (exact absurd (nI_lt q (by omega)) c94); exact q))
  have l2 : ∀ (k i : Nat), i + k = u 2 0 → V 23 [some (.ref 2), some (.int (nI L)), some (.int sp), some (.int (nI i)), none, none] [] (mv_E (kz z (k15 A u a 0) (kflL b (fun _ => 0) i) c d)) := by
    intro k
    induction k with
    | zero =>
      intro i hi2
      obtain rfl : i = u 2 0 := by omega
      have e := l3 (u 9 0) 0 (by omega)
      rw [show k16 A u b 0 = kflL b (fun _ => 0) (u 2 0) by (unfold k16; rw [kL_0]; rfl), show (kL (fun t => kany (ksn A u t) 0)) = 0 by (rw [kL_0]; rfl)] at e
      refine mv_iload_n C rfl rfl ?_
      refine mv_aload_n C rfl rfl ?_
      refine mv_getR C rfl rfl rfl ?_
      refine mv_getJ C rfl rfl rfl (hr _ _ _ _) ?_
      refine mv_icmp_ge C rfl (fun c31 => ?_) (fun c31 => ?_)
      · refine mv_lconst C rfl ?_
        refine mv_ls_n3 C rfl rfl ?_
        refine mv_iconst C rfl ?_
        refine mv_is5 C rfl rfl ?_
        exact e
      · exact absurd (nI_le (by omega) (by omega)) c31
    | succ k ih =>
      intro i hi2
      have e := ih (i + 1) (by omega)
      rw [← kflL_s] at e
      refine mv_iload_n C rfl rfl ?_
      refine mv_aload_n C rfl rfl ?_
      refine mv_getR C rfl rfl rfl ?_
      refine mv_getJ C rfl rfl rfl (hr _ _ _ _) ?_
      refine mv_icmp_ge C rfl (fun c31 => ?_) (fun c31 => ?_)
      · exact absurd c31 (nI_ge (by omega) (by omega))
      · refine mv_aload_n C rfl rfl ?_
        refine mv_getR C rfl rfl rfl ?_
        refine mv_iload_n C rfl rfl ?_
        refine mv_lconst C rfl ?_
        refine mv_lst C rfl rfl rfl (by omega) ?_
        refine mv_sto kz_u16 ?_
        refine mv_inc3 C rfl rfl ?_
        refine mv_goto C rfl ?_
        simp only [nI_1]
        exact e
  have l1 : ∀ (k i : Nat), i + k = 48 → V 2 [some (.ref 2), some (.int (nI L)), some (.int sp), some (.int (nI i)), none, none] [] (mv_E (kz z (kfl a (fun _ => -1) i) b c d)) := by
    intro k
    induction k with
    | zero =>
      intro i hi2
      obtain rfl : i = 48 := by omega
      have e := l2 (u 2 0) 0 (by omega)
      rw [kflL_0, show k15 A u a 0 = kfl a (fun _ => -1) 48 by (unfold k15; rw [kb_m1]; rfl)] at e
      refine mv_iload_n C rfl rfl ?_
      refine mv_bipush C rfl ?_
      refine mv_icmp_ge C rfl (fun c5 => ?_) (fun c5 => ?_)
      · refine mv_iconst C rfl ?_
        refine mv_is_n3 C rfl rfl ?_
        exact e
      · exact absurd (by decide) c5
    | succ k ih =>
      intro i hi2
      have e := ih (i + 1) (by omega)
      rw [← kfl_s] at e
      refine mv_iload_n C rfl rfl ?_
      refine mv_bipush C rfl ?_
      refine mv_icmp_ge C rfl (fun c5 => ?_) (fun c5 => ?_)
      · exact absurd c5 (nI_ge (b := 48) (by omega) (by decide))
      · refine mv_aload_n C rfl rfl ?_
        refine mv_getR C rfl rfl rfl ?_
        refine mv_iload_n C rfl rfl ?_
        refine mv_iconst C rfl ?_
        refine mv_ast C rfl rfl rfl (by omega) ?_
        refine mv_sto kz_u15 ?_
        refine mv_inc3 C rfl rfl ?_
        refine mv_goto C rfl ?_
        simp only [nI_1]
        exact e
  have e := l1 48 0 (by omega)
  rw [kfl_0] at e
  refine mv_iconst C rfl ?_
  refine mv_is_n3 C rfl rfl ?_
  exact e
theorem lgc_0 (x y : Int64) : lg_cmp x y = 0 ↔ x = y := by
  rcases lgc_val x y with ⟨h, e⟩ | ⟨h, e⟩ | ⟨h, e⟩
  · rw [e]; exact ⟨fun q => absurd q (by decide), fun q => by (subst q; omega)⟩
  · exact ⟨fun _ => Int64.toInt_inj.mp h, fun _ => e⟩
  · rw [e]; exact ⟨fun q => absurd q (by decide), fun q => by (subst q; omega)⟩
theorem r_isClear (z : mv_Z) (u : hM) (A : Nat → Bool) (a : Nat → Int32) (b : Nat → Int64) (c d : Nat → Int32) (r s t : Nat) (hs : s < t) (ht : t ≤ 48) (h40 : u 2 0 ≤ 40) (hr : r < u 2 0) (hb : b r = kL (fun t => kbar A u r t)) : mv_Runs 1 26 [.ref 2, .int (nI r), .int (nI s), .int (nI t)] (mv_E (kz z a b c d)) (some (.int (bif kclr A u r (s + 1) t then 1 else 0))) (mv_E (kz z a b c d)) := by
  have hb1 : (kz z a b c d).2 16 r = kL (fun t => kbar A u r t) := hb
  have ec : (lg_cmp (kL (fun t => kbar A u r t) &&& ((1 <<< ((nI t).toInt64 &&& 63)) - (1 <<< ((nI (s + 1)).toInt64 &&& 63)))) 0 = 0) ↔ kclr A u r (s + 1) t = true := by
    rw [lgc_0, kclr_t]
    constructor
    · intro h q q1 q2
      have h2 : hbL (kL (fun t => kbar A u r t) &&& ((1 <<< ((nI t).toInt64 &&& 63)) - (1 <<< ((nI (s + 1)).toInt64 &&& 63)))) q = false := by rw [h, hL_0]
      rw [hL_and, kL_b (by omega), hL_sub (by omega) (by omega) (by omega), decide_eq_true (by omega), Bool.and_true] at h2
      exact h2
    · intro h
      apply hL_ext
      intro q hq
      rw [hL_and, kL_b hq, hL_sub (by omega) (by omega) hq, hL_0]
      by_cases e : s + 1 ≤ q ∧ q < t
      · rw [h q e.1 e.2]; rfl
      · rw [decide_eq_false e, Bool.and_false]
  refine mv_start pX1_isClear (some .boolean) [some (.ref 2), some (.int (nI r)), some (.int (nI s)), some (.int (nI t)), none, none] rfl rfl rfl rfl (fun V C => ?_)
  refine mv_lconst C rfl ?_
  refine mv_iload_n C rfl rfl ?_
  refine mv_lshl C rfl ?_
  refine mv_lconst C rfl ?_
  refine mv_iload_n C rfl rfl ?_
  refine mv_iconst C rfl ?_
  refine mv_iadd C rfl ?_
  refine mv_top (nI_1 _) ?_
  refine mv_lshl C rfl ?_
  refine mv_lsub C rfl ?_
  refine mv_ls4 C rfl rfl ?_
  refine mv_aload_n C rfl rfl ?_
  refine mv_getR C rfl rfl rfl ?_
  refine mv_iload_n C rfl rfl ?_
  refine mv_lldJ C rfl rfl rfl (by omega) hb1 ?_
  refine mv_lload C rfl rfl ?_
  refine mv_land C rfl ?_
  refine mv_lconst C rfl ?_
  refine mv_lcmp C rfl ?_
  refine mv_if_ne C rfl (fun c22 => ?_) (fun c22 => ?_)
  · rw [ec, Bool.not_eq_true] at c22
    refine mv_iconst C rfl ?_
    refine mv_ireturn C rfl (by first | exact mv_okZ1 | exact mv_okZ0) ?_ ?_
    all_goals first | rfl | (rw [c22]; rfl)
  · rw [ec] at c22
    refine mv_iconst C rfl ?_
    refine mv_goto C rfl ?_
    refine mv_ireturn C rfl (by first | exact mv_okZ1 | exact mv_okZ0) ?_ ?_
    all_goals first | rfl | (rw [c22]; rfl)
end
end
