def mv_cn : List String := [RX0, RX1, RX2, RX3, RX4, RX5, RX6, RX7, RX8, RX9, RX10, RX11, "HueAndCryLaw", "java/lang/Integer"]
def mv_own (k : Nat) : String := mv_cn.getD k ""
def mv_TB : List Cond := lw_tbl.filter goodWord
/-- the fields' links: class, entry, class of the field, its slot, the word's place, of a nest mate -/
def mv_fl : List (Nat × Nat × Nat × Nat × Nat × Nat) := [(0, 9, 0, 0, 276, 0), (0, 15, 0, 1, 277, 0), (0, 18, 0, 2, 278, 0), (0, 21, 0, 3, 279, 0), (0, 25, 0, 4, 280, 0), (0, 28, 0, 5, 282, 0), (0, 31, 0, 6, 283, 0), (0, 34, 9, 1, 256, 1), (0, 39, 9, 0, 254, 1), (1, 12, 1, 0, 166, 0), (1, 21, 1, 1, 169, 0), (1, 25, 1, 2, 171, 0), (1, 29, 1, 3, 172, 0), (1, 33, 1, 4, 173, 0), (1, 36, 1, 5, 175, 0), (1, 59, 5, 4, 153, 1), (1, 63, 5, 3, 150, 1), (1, 71, 5, 2, 148, 1), (1, 84, 6, 7, 108, 1), (1, 87, 6, 4, 100, 1), (1, 101, 5, 1, 146, 1), (1, 104, 5, 0, 144, 1), (1, 123, 8, 1, 333, 1), (2, 11, 2, 0, 299, 0), (2, 17, 2, 1, 300, 0), (2, 21, 2, 2, 301, 0), (2, 24, 2, 3, 302, 0), (2, 27, 2, 4, 303, 0), (2, 31, 2, 5, 305, 0), (2, 47, 0, 4, 281, 1), (2, 54, 8, 1, 331, 1), (2, 63, 8, 0, 327, 1), (3, 12, 3, 0, 232, 0), (3, 18, 3, 1, 234, 0), (3, 22, 3, 2, 235, 0), (3, 25, 3, 3, 236, 0), (4, 9, 4, 0, 225, 0), (4, 15, 4, 1, 226, 0), (5, 9, 5, 0, 143, 0), (5, 15, 5, 1, 145, 0), (5, 18, 5, 2, 147, 0), (5, 21, 5, 3, 149, 0), (5, 25, 5, 4, 152, 0), (6, 9, 6, 0, 94, 0), (6, 15, 6, 1, 96, 0), (6, 18, 6, 2, 97, 0), (6, 21, 6, 3, 98, 0), (6, 24, 6, 4, 99, 0), (6, 27, 6, 5, 101, 0), (6, 31, 6, 6, 103, 0), (6, 35, 6, 7, 106, 0), (6, 38, 6, 8, 109, 0), (6, 41, 6, 9, 112, 0), (7, 12, 7, 0, 190, 0), (7, 18, 1, 0, 167, 1), (7, 22, 7, 1, 192, 0), (7, 23, 7, 2, 193, 0), (7, 27, 7, 3, 194, 0), (7, 30, 7, 4, 195, 0), (7, 34, 7, 5, 196, 0), (7, 37, 7, 6, 197, 0), (7, 48, 6, 6, 104, 1), (7, 71, 8, 1, 330, 1), (7, 82, 1, 4, 174, 1), (7, 85, 6, 8, 111, 1), (8, 9, 8, 0, 326, 0), (8, 15, 8, 1, 329, 0), (9, 9, 9, 0, 253, 0), (9, 15, 9, 1, 255, 0), (10, 10, 10, 0, 339, 0), (10, 16, 7, 0, 191, 1), (10, 20, 10, 1, 340, 0), (10, 21, 1, 0, 168, 1), (10, 27, 10, 2, 341, 0), (10, 28, 1, 1, 170, 1), (10, 32, 10, 3, 342, 0), (10, 36, 10, 4, 343, 0), (10, 43, 10, 5, 344, 0), (10, 50, 10, 6, 345, 0), (10, 57, 10, 7, 346, 0), (10, 75, 6, 5, 102, 1), (10, 82, 6, 8, 110, 1), (10, 89, 6, 9, 113, 1), (10, 92, 6, 6, 105, 1), (10, 95, 6, 7, 107, 1), (10, 98, 5, 4, 154, 1), (10, 107, 3, 3, 237, 1), (10, 108, 2, 4, 304, 1), (10, 111, 2, 5, 306, 1), (10, 114, 8, 1, 332, 1), (10, 115, 9, 1, 257, 1), (10, 123, 5, 3, 151, 1), (10, 166, 3, 0, 233, 1), (10, 205, 6, 0, 95, 1), (10, 227, 8, 0, 328, 1), (11, 9, 11, 2, 867, 0), (11, 13, 11, 3, 868, 0), (11, 17, 11, 5, 870, 0), (11, 20, 11, 6, 871, 0), (11, 23, 11, 7, 872, 0), (11, 26, 11, 8, 873, 0), (11, 29, 11, 9, 874, 0), (11, 33, 11, 10, 875, 0), (11, 36, 11, 12, 877, 0), (11, 39, 11, 13, 878, 0), (11, 42, 11, 14, 879, 0), (11, 45, 11, 15, 880, 0), (11, 48, 11, 16, 881, 0), (11, 51, 11, 17, 882, 0), (11, 54, 11, 19, 884, 0), (11, 57, 11, 20, 885, 0), (11, 60, 11, 21, 886, 0), (11, 63, 11, 22, 887, 0), (11, 66, 11, 24, 889, 0), (11, 69, 11, 25, 890, 0), (11, 72, 11, 26, 891, 0), (11, 75, 11, 29, 894, 0), (11, 78, 11, 30, 895, 0), (11, 81, 11, 31, 896, 0), (11, 84, 11, 32, 897, 0), (11, 87, 11, 33, 898, 0), (11, 90, 11, 37, 902, 0), (11, 93, 11, 38, 903, 0), (11, 96, 11, 0, 865, 0), (11, 99, 11, 1, 866, 0), (11, 116, 11, 4, 869, 0), (11, 119, 11, 11, 876, 0), (11, 122, 11, 23, 888, 0), (11, 125, 11, 28, 893, 0), (11, 128, 11, 36, 901, 0), (11, 131, 11, 18, 883, 0), (11, 134, 11, 27, 892, 0), (11, 206, 11, 34, 899, 0), (11, 214, 11, 35, 900, 0)]
/-- the calls: class, entry, method, kind, of a nest mate, the places of link, kind, choice, code -/
def mv_cl : List (Nat × Nat × Nat × Nat × Nat × Nat × Nat × Nat × Nat) := [(0, 42, 2, 0, 0, 719, 721, 17, 722), (0, 46, 3, 0, 0, 723, 725, 18, 726), (0, 49, 4, 0, 0, 727, 729, 19, 730), (0, 52, 5, 0, 0, 731, 733, 20, 734), (0, 55, 6, 0, 0, 738, 740, 21, 741), (0, 58, 7, 1, 0, 735, 736, 0, 737), (0, 61, 9, 1, 0, 767, 768, 0, 769), (1, 11, 46, 2, 1, 90, 91, 0, 92), (1, 20, 43, 2, 1, 139, 140, 0, 141), (1, 39, 18, 0, 0, 463, 464, 465, 466), (1, 43, 20, 0, 0, 472, 473, 474, 475), (1, 47, 23, 0, 0, 508, 510, 6, 511), (1, 51, 110, 1, 1, 535, 498, 0, 499), (1, 55, 52, 0, 0, 480, 481, 482, 483), (1, 67, 16, 0, 0, 573, 575, 10, 576), (1, 74, 21, 0, 0, 476, 478, 3, 479), (1, 78, 24, 0, 0, 512, 514, 7, 515), (1, 81, 17, 0, 0, 577, 579, 11, 580), (1, 94, 25, 0, 0, 516, 518, 8, 519), (1, 97, 19, 0, 0, 467, 469, 2, 470), (1, 107, 109, 1, 1, 471, 401, 0, 402), (1, 110, 22, 0, 0, 485, 487, 4, 488), (1, 113, 26, 0, 0, 489, 491, 5, 492), (1, 117, 53, 0, 0, 493, 494, 495, 496), (1, 126, 66, 0, 0, 544, 545, 546, 547), (1, 129, 27, 0, 0, 548, 550, 9, 551), (1, 132, 54, 0, 0, 552, 553, 554, 555), (1, 135, 67, 0, 0, 556, 557, 558, 559), (2, 34, 0, 2, 1, 272, 273, 0, 274), (2, 35, 1, 0, 0, 715, 716, 717, 718), (2, 39, 106, 1, 1, 754, 436, 0, 437), (2, 43, 8, 0, 0, 763, 764, 765, 766), (2, 50, 33, 0, 0, 779, 760, 761, 762), (2, 59, 66, 0, 0, 780, 545, 546, 547), (3, 11, 39, 2, 0, 221, 222, 0, 223), (3, 29, 42, 0, 0, 665, 666, 667, 668), (3, 33, 110, 1, 1, 680, 498, 0, 499), (3, 36, 37, 0, 0, 681, 662, 663, 664), (4, 18, 108, 1, 1, 636, 637, 0, 638), (5, 29, 106, 1, 1, 435, 436, 0, 437), (6, 44, 107, 1, 1, 372, 373, 0, 374), (6, 48, 47, 0, 0, 383, 384, 385, 386), (6, 51, 109, 1, 1, 484, 401, 0, 402), (6, 55, 56, 0, 0, 423, 425, 0, 426), (7, 11, 10, 2, 1, 84, 85, 0, 86), (7, 40, 18, 0, 0, 592, 464, 465, 466), (7, 44, 20, 0, 0, 593, 473, 474, 475), (7, 53, 60, 0, 0, 594, 596, 12, 597), (7, 57, 62, 0, 0, 598, 600, 13, 601), (7, 61, 63, 0, 0, 603, 605, 14, 606), (7, 65, 64, 0, 0, 607, 609, 15, 610), (7, 68, 61, 0, 0, 619, 621, 16, 622), (7, 76, 66, 0, 0, 627, 545, 546, 547), (7, 79, 109, 1, 1, 602, 401, 0, 402), (7, 88, 170, 1, 0, 611, 612, 0, 613), (7, 93, 29, 0, 0, 615, 616, 617, 618), (10, 9, 57, 2, 1, 78, 79, 0, 80), (10, 35, 35, 2, 1, 215, 216, 0, 217), (10, 42, 68, 2, 1, 249, 250, 0, 251), (10, 49, 30, 2, 0, 265, 266, 0, 267), (10, 56, 65, 2, 1, 322, 323, 0, 324), (10, 61, 49, 0, 0, 368, 369, 370, 371), (10, 67, 50, 0, 0, 379, 380, 381, 382), (10, 71, 48, 0, 0, 391, 392, 393, 394), (10, 79, 47, 0, 0, 399, 384, 385, 386), (10, 86, 109, 1, 0, 400, 401, 0, 402), (10, 103, 45, 0, 0, 411, 412, 413, 414), (10, 116, 55, 0, 0, 419, 420, 421, 422), (10, 120, 44, 0, 0, 431, 432, 433, 434), (10, 126, 105, 0, 0, 454, 456, 1, 457), (10, 130, 11, 0, 0, 459, 460, 461, 462), (10, 133, 110, 1, 0, 497, 498, 0, 499), (10, 136, 12, 0, 0, 504, 505, 506, 507), (10, 139, 106, 1, 0, 458, 436, 0, 437), (10, 142, 13, 0, 0, 531, 532, 533, 534), (10, 145, 28, 0, 0, 540, 541, 542, 543), (10, 149, 14, 0, 0, 564, 565, 566, 567), (10, 155, 15, 0, 0, 569, 570, 571, 572), (10, 159, 58, 0, 0, 588, 589, 590, 591), (10, 162, 59, 0, 0, 623, 624, 625, 626), (10, 170, 40, 0, 0, 632, 633, 634, 635), (10, 176, 108, 1, 0, 643, 637, 0, 638), (10, 179, 41, 0, 0, 644, 645, 646, 647), (10, 182, 36, 0, 0, 653, 654, 655, 656), (10, 183, 37, 0, 0, 661, 662, 663, 664), (10, 186, 38, 0, 0, 676, 677, 678, 679), (10, 189, 107, 1, 0, 682, 373, 0, 374), (10, 192, 51, 0, 0, 683, 684, 685, 686), (10, 195, 69, 0, 0, 695, 696, 697, 698), (10, 198, 70, 0, 0, 703, 704, 705, 706), (10, 201, 31, 0, 0, 711, 712, 713, 714), (10, 209, 32, 0, 0, 750, 751, 752, 753), (10, 212, 33, 0, 0, 759, 760, 761, 762), (10, 216, 34, 0, 0, 775, 776, 777, 778), (11, 102, 113, 1, 0, 992, 993, 0, 994), (11, 110, 115, 0, 0, 999, 1001, 23, 1002), (11, 144, 116, 1, 0, 1034, 1035, 0, 1036), (11, 147, 124, 0, 0, 1030, 1032, 24, 1033), (11, 151, 132, 0, 0, 1069, 1071, 28, 1072), (11, 154, 131, 1, 0, 1062, 1063, 0, 1064), (11, 157, 130, 0, 0, 1073, 1075, 29, 1076), (11, 161, 133, 0, 0, 1065, 1067, 27, 1068), (11, 165, 129, 0, 0, 1077, 1079, 30, 1080), (11, 169, 136, 0, 0, 1089, 1091, 32, 1092), (11, 172, 137, 0, 0, 1054, 1056, 25, 1057), (11, 175, 134, 0, 0, 1058, 1060, 26, 1061), (11, 179, 135, 0, 0, 1085, 1087, 31, 1088), (11, 182, 143, 0, 0, 1109, 1111, 33, 1112), (11, 188, 145, 0, 0, 1122, 1124, 35, 1125), (11, 191, 146, 0, 0, 1118, 1120, 34, 1121), (11, 203, 151, 0, 0, 1144, 1146, 36, 1147), (11, 219, 157, 0, 0, 1178, 1180, 39, 1181), (11, 227, 158, 0, 0, 1265, 1267, 40, 1268), (11, 230, 159, 0, 0, 1173, 1175, 38, 1176), (11, 237, 160, 0, 0, 1169, 1171, 37, 1172), (11, 240, 164, 0, 0, 1288, 1290, 42, 1291), (11, 243, 165, 0, 0, 1284, 1286, 41, 1287), (11, 248, 114, 0, 0, 1305, 1307, 43, 1308)]
/-- which methods are constructors -/
def mv_in : List Bool := [true, false, false, false, false, false, false, false, false, false, true, false, false, false, false, false, false, false, false, false, false, false, false, false, false, false, false, false, false, false, true, false, false, false, false, true, false, false, false, true, false, false, false, true, false, false, true, false, false, false, false, false, false, false, false, false, false, true, false, false, false, false, false, false, false, true, false, false, true, false, false, true, false, false, false, false, false, false, false, false, false, false, false, false, false, false, false, false, false, false, false, false, false, false, false, false, false, false, false, false, false, false, false, false, false, false, false, false, false, false, false, true, false, false, false, false, false, false, false, false, false, false, false, false, false, false, false, false, false, false, false, false, false, false, false, false, false, false, false, false, false, false, false, false, false, false, false, false, false, false, false, false, false, false, false, false, false, false, false, false, false, false, false, false, false, false, false, false, false, false, false]
def mv_tx (j : Nat) : String := (["no such number in the row", "nhc", "<>=", "0123456789", "&", ":"] : List String).getD j ""
def mv_tk (j : Nat) : Nat := ([222, 223, 225, 217, 233, 235] : List Nat).getD j 0
def mv_flok (q : Nat × Nat × Nat × Nat × Nat × Nat) : Bool := match q with
  | (own, idx, ci, k, pos, nest) => match vwCl[ci]? with
    | some (_, T, N) => decide (k < N) && (bif Nat.beq nest 0 then decide (lw_tbl[pos]? = some (Cond.fieldLink (mv_own own) idx (T k).1 (T k).2.1 (T k).2.2.1)) else decide (lw_tbl[pos]? = some (Cond.fieldLinkNest (mv_own own) idx (T k).1 (T k).2.1 (T k).2.2.1 "HueAndCry")))
    | none => false
theorem mv_fl_ok : mv_fl.all mv_flok = true := by decide +kernel
def mv_clok (q : Nat × Nat × Nat × Nat × Nat × Nat × Nat × Nat × Nat) : Bool := match q with
  | (own, idx, mid, kind, nest, plink, pkind, psel, pcode) =>
    (bif Nat.beq nest 0 then decide (lw_tbl[plink]? = some (Cond.methodLink (mv_own own) idx (mv_m mid).1)) else decide (lw_tbl[plink]? = some (Cond.methodLinkNest (mv_own own) idx (mv_m mid).1 "HueAndCry")))
    && (bif Nat.beq kind 1 then decide (lw_tbl[pkind]? = some (Cond.static (mv_m mid).1)) else decide (lw_tbl[pkind]? = some (Cond.instanceMethod (mv_m mid).1)))
    && (bif Nat.beq kind 0 then decide (lw_tbl[psel]? = some (Cond.selects (mv_m mid).1.cls (mv_m mid).1 (mv_m mid).1)) && decide ((vwCl[(mv_m mid).2.2.2.2.2.1]?).map (fun q => q.1) = some (mv_m mid).1.cls) else true)
    && (bif Nat.beq kind 2 then decide ((mv_m mid).1.name = "<init>") && decide ((mv_m mid).2.2.2.1 = none) else true)
    && decide ((mv_m mid).1.cls ≠ "java/lang/invoke/MethodHandle") && decide ((mv_m mid).1.cls ≠ "java/lang/invoke/VarHandle")
    && decide ((parseMethodDescriptor (mv_m mid).1.desc).map (fun d => d.parameters.length) = some (mv_m mid).2.2.2.2.1)
    && decide (Cond.initialized (mv_m mid).1.cls ∈ (lw_tbl.drop 44).take 24) && decide (plainName (mv_m mid).1.cls = true) && Nat.blt mid 171
theorem mv_cl_ok : mv_cl.all mv_clok = true := by decide +kernel

def mv_lenof : Instr → Nat
  | .iload _ => 2 | .aload _ => 2 | .lload _ => 2 | .istore _ => 2 | .astore _ => 2 | .lstore _ => 2
  | .bipush _ => 2 | .ldc _ => 2 | .newarray _ => 2
  | .sipush _ => 3 | .ldc_w _ => 3 | .ldc2_w _ => 3 | .iinc _ _ => 3 | .goto _ => 3 | .ifCond _ _ => 3 | .if_icmp _ _ => 3
  | .getfield _ => 3 | .putfield _ => 3 | .new _ => 3 | .anewarray _ => 3 | .invokevirtual _ => 3 | .invokestatic _ => 3 | .invokespecial _ => 3
  | .tableswitch _ _ _ _ => 0 | .lookupswitch _ _ => 0
  | _ => 1
/-- what an instruction says beside its bytes -/
def mv_ck2 (own : Nat) (ini : Bool) (pc : Nat) : mv_I → Bool
  | (.iconst n, _, _, _, v) => decide (v = .int (Int32.ofInt n))
  | (.bipush n, _, _, _, v) => decide (v = .int (Int8.ofInt n).toInt32)
  | (.sipush n, _, _, _, v) => decide (v = .int (Int16.ofInt n).toInt32)
  | (.lconst n, _, _, _, v) => decide (v = .long (Int64.ofNat n))
  | (.iinc _ n, _, _, _, v) => decide (v = .int (Int32.ofInt n))
  | (.ldc k, _, a, _, .int c) => decide (lw_tbl[a]? = some (Cond.constant (mv_own own) k c))
  | (.ldc_w k, _, a, _, .int c) => decide (lw_tbl[a]? = some (Cond.constant (mv_own own) k c))
  | (.ldc k, _, a, _, .ref q) => decide (own = 11) && decide (1001 ≤ q) && decide (q < 1006) && decide (lw_tbl[a]? = some (Cond.stringRef "HueAndCryModel" k (mv_tx (q - 1000)))) && decide (k = mv_tk (q - 1000))
  | (.ldc _, _, _, _, _) => false
  | (.ldc_w _, _, _, _, _) => false
  | (.ldc2_w k, _, a, _, .long c) => decide (lw_tbl[a]? = some (Cond.constantLong (mv_own own) k c))
  | (.ldc2_w _, _, _, _, _) => false
  | (.goto o, _, a, _, _) => decide ((pc : Int) + o = a)
  | (.ifCond _ o, _, a, _, _) => decide ((pc : Int) + o = a)
  | (.if_icmp _ o, _, a, _, _) => decide ((pc : Int) + o = a)
  | (.tableswitch _ _ _ _, _, _, b, _) => decide (b = pc)
  | (.lookupswitch _ ps, _, _, b, _) => decide (b = pc) && (ps.toList.zip (ps.toList.drop 1)).all (fun q => q.1.1 < q.2.1)
  | (.getfield n, _, a, b, .ref j) => match mv_fl[j]? with
    | some (ow, idx, ci, k, _, _) => decide (ow = own ∧ idx = n ∧ ci = a ∧ k = b)
    | none => false
  | (.getfield _, _, _, _, _) => false
  | (.putfield n, _, a, b, .ref j) => match mv_fl[j]?, vwCl[a]? with
    | some (ow, idx, ci, k, _, nest), some (_, T, _) => decide (ow = own ∧ idx = n ∧ ci = a ∧ k = b) && ((decide ((T k).2.2.2 = false)) || (ini && decide (nest = 0) && decide ((T k).1 = mv_own own)))
    | _, _ => false
  | (.putfield _, _, _, _, _) => false
  | (.new n, _, a, b, _) => decide (a < 12) && decide (lw_tbl[b]? = some (Cond.classLink (mv_own own) n (mv_own a))) && decide (Cond.initialized (mv_own a) ∈ (lw_tbl.drop 44).take 24)
  | (.anewarray n, _, _, b, _) => decide (lw_tbl[b]? = some (Cond.classLink (mv_own own) n "HueAndCry$Act"))
  | (.invokevirtual n, _, a, b, _) => (bif Nat.blt b 900 then (match mv_cl[a]? with | some (ow, idx, mid, kind, _) => decide (ow = own ∧ idx = n ∧ mid = b ∧ kind = 0) | none => false) else bif Nat.beq b 904 then decide (own = 11) && decide (lw_tbl[a]? = some (Cond.methodLink (mv_own own) n ⟨"java/lang/String", "indexOf", "(I)I"⟩)) else true)
  | (.invokestatic n, _, a, b, _) => (bif Nat.blt b 900 then (match mv_cl[a]? with | some (ow, idx, mid, kind, _) => decide (ow = own ∧ idx = n ∧ mid = b ∧ kind = 1) | none => false) else bif Nat.beq b 901 then decide (lw_tbl[a]? = some (Cond.methodLink (mv_own own) n Lib.Math.min.name)) else bif Nat.beq b 902 then decide (lw_tbl[a]? = some (Cond.methodLink (mv_own own) n Lib.Math.max.name)) else bif Nat.beq b 903 then decide (lw_tbl[a]? = some (Cond.methodLink (mv_own own) n Lib.Math.abs.name)) else true)
  | (.invokespecial n, _, a, b, _) => (bif Nat.blt b 900 then (match mv_cl[a]? with | some (ow, idx, mid, kind, _) => decide (ow = own ∧ idx = n ∧ mid = b ∧ kind = 2) | none => false) else bif Nat.beq b 999 then decide (lw_tbl[a]? = some (Cond.methodLink (mv_own own) n objectInit)) else true)
  | _ => true
def mv_chk (own : Nat) (ini : Bool) (cc : ByteArray) (pc : Nat) (i : mv_I) : Bool := decide (decode cc pc = .ok (i.1, i.2.1 - pc)) && decide (pc ≤ i.2.1) && (Nat.beq (mv_lenof i.1) 0 || Nat.beq i.2.1 (pc + mv_lenof i.1)) && mv_ck2 own ini pc i
def mv_ok (own : Nat) (ini : Bool) (cc : ByteArray) (P : List (Nat × mv_I)) : Bool := P.all (fun q => mv_chk own ini cc q.1 q.2)

def mv_cp : List Nat := [274, 718, 722, 726, 730, 734, 741, 737, 766, 769, 86, 462, 507, 534, 567, 572, 576, 580, 466, 470, 475, 479, 488, 511, 515, 519, 492, 551, 543, 618, 267, 714, 753, 762, 778, 217, 656, 664, 679, 223, 635, 647, 668, 141, 434, 414, 92, 386, 394, 371, 382, 686, 483, 496, 555, 422, 426, 80, 591, 626, 597, 622, 601, 606, 610, 324, 547, 559, 251, 698, 706, 72, 367, 378, 390, 398, 406, 410, 418, 430, 441, 445, 449, 453, 503, 526, 530, 539, 563, 587, 631, 642, 652, 660, 675, 690, 694, 702, 710, 745, 749, 758, 773, 784, 792, 457, 437, 374, 638, 402, 499, 863, 986, 994, 1308, 1002, 1036, 990, 998, 1007, 1011, 1015, 1019, 1023, 1033, 1029, 1041, 1045, 1049, 1080, 1076, 1064, 1072, 1068, 1061, 1088, 1092, 1057, 1053, 1084, 1096, 1100, 1104, 1112, 1108, 1125, 1121, 1117, 1129, 1134, 1138, 1147, 1143, 1152, 1156, 1160, 1164, 1181, 1268, 1176, 1172, 1168, 1275, 1279, 1291, 1287, 1283, 1295, 1300, 1304, 613]
def mv_cdP (k : Nat) : Prop := lw_tbl[mv_cp.getD k 0]? = some (Cond.code (mv_m k).1 (mv_m k).2.1 (mv_m k).2.2.1 (mv_m k).2.2.2.1)
set_option maxRecDepth 100000 in
theorem mv_cd_0 : mv_cdP 0 := rfl
set_option maxRecDepth 100000 in
theorem mv_cd_1 : mv_cdP 1 := rfl
set_option maxRecDepth 100000 in
theorem mv_cd_2 : mv_cdP 2 := rfl
set_option maxRecDepth 100000 in
theorem mv_cd_3 : mv_cdP 3 := rfl
set_option maxRecDepth 100000 in
theorem mv_cd_4 : mv_cdP 4 := rfl
set_option maxRecDepth 100000 in
theorem mv_cd_5 : mv_cdP 5 := rfl
set_option maxRecDepth 100000 in
theorem mv_cd_6 : mv_cdP 6 := rfl
set_option maxRecDepth 100000 in
theorem mv_cd_7 : mv_cdP 7 := rfl
set_option maxRecDepth 100000 in
theorem mv_cd_8 : mv_cdP 8 := rfl
set_option maxRecDepth 100000 in
theorem mv_cd_9 : mv_cdP 9 := rfl
set_option maxRecDepth 100000 in
theorem mv_cd_10 : mv_cdP 10 := rfl
set_option maxRecDepth 100000 in
theorem mv_cd_11 : mv_cdP 11 := rfl
set_option maxRecDepth 100000 in
theorem mv_cd_12 : mv_cdP 12 := rfl
set_option maxRecDepth 100000 in
theorem mv_cd_13 : mv_cdP 13 := rfl
set_option maxRecDepth 100000 in
theorem mv_cd_14 : mv_cdP 14 := rfl
set_option maxRecDepth 100000 in
theorem mv_cd_15 : mv_cdP 15 := rfl
set_option maxRecDepth 100000 in
theorem mv_cd_16 : mv_cdP 16 := rfl
set_option maxRecDepth 100000 in
theorem mv_cd_17 : mv_cdP 17 := rfl
set_option maxRecDepth 100000 in
theorem mv_cd_18 : mv_cdP 18 := rfl
set_option maxRecDepth 100000 in
theorem mv_cd_19 : mv_cdP 19 := rfl
set_option maxRecDepth 100000 in
theorem mv_cd_20 : mv_cdP 20 := rfl
set_option maxRecDepth 100000 in
theorem mv_cd_21 : mv_cdP 21 := rfl
set_option maxRecDepth 100000 in
theorem mv_cd_22 : mv_cdP 22 := rfl
set_option maxRecDepth 100000 in
theorem mv_cd_23 : mv_cdP 23 := rfl
set_option maxRecDepth 100000 in
theorem mv_cd_24 : mv_cdP 24 := rfl
set_option maxRecDepth 100000 in
theorem mv_cd_25 : mv_cdP 25 := rfl
set_option maxRecDepth 100000 in
theorem mv_cd_26 : mv_cdP 26 := rfl
set_option maxRecDepth 100000 in
theorem mv_cd_27 : mv_cdP 27 := rfl
set_option maxRecDepth 100000 in
theorem mv_cd_28 : mv_cdP 28 := rfl
set_option maxRecDepth 100000 in
theorem mv_cd_29 : mv_cdP 29 := rfl
set_option maxRecDepth 100000 in
theorem mv_cd_30 : mv_cdP 30 := rfl
set_option maxRecDepth 100000 in
theorem mv_cd_31 : mv_cdP 31 := rfl
set_option maxRecDepth 100000 in
theorem mv_cd_32 : mv_cdP 32 := rfl
set_option maxRecDepth 100000 in
theorem mv_cd_33 : mv_cdP 33 := rfl
set_option maxRecDepth 100000 in
theorem mv_cd_34 : mv_cdP 34 := rfl
set_option maxRecDepth 100000 in
theorem mv_cd_35 : mv_cdP 35 := rfl
set_option maxRecDepth 100000 in
theorem mv_cd_36 : mv_cdP 36 := rfl
set_option maxRecDepth 100000 in
theorem mv_cd_37 : mv_cdP 37 := rfl
set_option maxRecDepth 100000 in
theorem mv_cd_38 : mv_cdP 38 := rfl
set_option maxRecDepth 100000 in
theorem mv_cd_39 : mv_cdP 39 := rfl
set_option maxRecDepth 100000 in
theorem mv_cd_40 : mv_cdP 40 := rfl
set_option maxRecDepth 100000 in
theorem mv_cd_41 : mv_cdP 41 := rfl
set_option maxRecDepth 100000 in
theorem mv_cd_42 : mv_cdP 42 := rfl
set_option maxRecDepth 100000 in
theorem mv_cd_43 : mv_cdP 43 := rfl
set_option maxRecDepth 100000 in
theorem mv_cd_44 : mv_cdP 44 := rfl
set_option maxRecDepth 100000 in
theorem mv_cd_45 : mv_cdP 45 := rfl
set_option maxRecDepth 100000 in
theorem mv_cd_46 : mv_cdP 46 := rfl
set_option maxRecDepth 100000 in
theorem mv_cd_47 : mv_cdP 47 := rfl
set_option maxRecDepth 100000 in
theorem mv_cd_48 : mv_cdP 48 := rfl
set_option maxRecDepth 100000 in
theorem mv_cd_49 : mv_cdP 49 := rfl
set_option maxRecDepth 100000 in
theorem mv_cd_50 : mv_cdP 50 := rfl
set_option maxRecDepth 100000 in
theorem mv_cd_51 : mv_cdP 51 := rfl
set_option maxRecDepth 100000 in
theorem mv_cd_52 : mv_cdP 52 := rfl
set_option maxRecDepth 100000 in
theorem mv_cd_53 : mv_cdP 53 := rfl
set_option maxRecDepth 100000 in
theorem mv_cd_54 : mv_cdP 54 := rfl
set_option maxRecDepth 100000 in
theorem mv_cd_55 : mv_cdP 55 := rfl
set_option maxRecDepth 100000 in
theorem mv_cd_56 : mv_cdP 56 := rfl
set_option maxRecDepth 100000 in
theorem mv_cd_57 : mv_cdP 57 := rfl
set_option maxRecDepth 100000 in
theorem mv_cd_58 : mv_cdP 58 := rfl
set_option maxRecDepth 100000 in
theorem mv_cd_59 : mv_cdP 59 := rfl
set_option maxRecDepth 100000 in
theorem mv_cd_60 : mv_cdP 60 := rfl
set_option maxRecDepth 100000 in
theorem mv_cd_61 : mv_cdP 61 := rfl
set_option maxRecDepth 100000 in
theorem mv_cd_62 : mv_cdP 62 := rfl
set_option maxRecDepth 100000 in
theorem mv_cd_63 : mv_cdP 63 := rfl
set_option maxRecDepth 100000 in
theorem mv_cd_64 : mv_cdP 64 := rfl
set_option maxRecDepth 100000 in
theorem mv_cd_65 : mv_cdP 65 := rfl
set_option maxRecDepth 100000 in
theorem mv_cd_66 : mv_cdP 66 := rfl
set_option maxRecDepth 100000 in
theorem mv_cd_67 : mv_cdP 67 := rfl
set_option maxRecDepth 100000 in
theorem mv_cd_68 : mv_cdP 68 := rfl
set_option maxRecDepth 100000 in
theorem mv_cd_69 : mv_cdP 69 := rfl
set_option maxRecDepth 100000 in
theorem mv_cd_70 : mv_cdP 70 := rfl
set_option maxRecDepth 100000 in
theorem mv_cd_71 : mv_cdP 71 := rfl
set_option maxRecDepth 100000 in
theorem mv_cd_72 : mv_cdP 72 := rfl
set_option maxRecDepth 100000 in
theorem mv_cd_73 : mv_cdP 73 := rfl
set_option maxRecDepth 100000 in
theorem mv_cd_74 : mv_cdP 74 := rfl
set_option maxRecDepth 100000 in
theorem mv_cd_75 : mv_cdP 75 := rfl
set_option maxRecDepth 100000 in
theorem mv_cd_76 : mv_cdP 76 := rfl
set_option maxRecDepth 100000 in
theorem mv_cd_77 : mv_cdP 77 := rfl
set_option maxRecDepth 100000 in
theorem mv_cd_78 : mv_cdP 78 := rfl
set_option maxRecDepth 100000 in
theorem mv_cd_79 : mv_cdP 79 := rfl
set_option maxRecDepth 100000 in
theorem mv_cd_80 : mv_cdP 80 := rfl
set_option maxRecDepth 100000 in
theorem mv_cd_81 : mv_cdP 81 := rfl
set_option maxRecDepth 100000 in
theorem mv_cd_82 : mv_cdP 82 := rfl
set_option maxRecDepth 100000 in
theorem mv_cd_83 : mv_cdP 83 := rfl
set_option maxRecDepth 100000 in
theorem mv_cd_84 : mv_cdP 84 := rfl
set_option maxRecDepth 100000 in
theorem mv_cd_85 : mv_cdP 85 := rfl
set_option maxRecDepth 100000 in
theorem mv_cd_86 : mv_cdP 86 := rfl
set_option maxRecDepth 100000 in
theorem mv_cd_87 : mv_cdP 87 := rfl
set_option maxRecDepth 100000 in
theorem mv_cd_88 : mv_cdP 88 := rfl
set_option maxRecDepth 100000 in
theorem mv_cd_89 : mv_cdP 89 := rfl
set_option maxRecDepth 100000 in
theorem mv_cd_90 : mv_cdP 90 := rfl
set_option maxRecDepth 100000 in
theorem mv_cd_91 : mv_cdP 91 := rfl
set_option maxRecDepth 100000 in
theorem mv_cd_92 : mv_cdP 92 := rfl
set_option maxRecDepth 100000 in
theorem mv_cd_93 : mv_cdP 93 := rfl
set_option maxRecDepth 100000 in
theorem mv_cd_94 : mv_cdP 94 := rfl
set_option maxRecDepth 100000 in
theorem mv_cd_95 : mv_cdP 95 := rfl
set_option maxRecDepth 100000 in
theorem mv_cd_96 : mv_cdP 96 := rfl
set_option maxRecDepth 100000 in
theorem mv_cd_97 : mv_cdP 97 := rfl
set_option maxRecDepth 100000 in
theorem mv_cd_98 : mv_cdP 98 := rfl
set_option maxRecDepth 100000 in
theorem mv_cd_99 : mv_cdP 99 := rfl
set_option maxRecDepth 100000 in
theorem mv_cd_100 : mv_cdP 100 := rfl
set_option maxRecDepth 100000 in
theorem mv_cd_101 : mv_cdP 101 := rfl
set_option maxRecDepth 100000 in
theorem mv_cd_102 : mv_cdP 102 := rfl
set_option maxRecDepth 100000 in
theorem mv_cd_103 : mv_cdP 103 := rfl
set_option maxRecDepth 100000 in
theorem mv_cd_104 : mv_cdP 104 := rfl
set_option maxRecDepth 100000 in
theorem mv_cd_105 : mv_cdP 105 := rfl
set_option maxRecDepth 100000 in
theorem mv_cd_106 : mv_cdP 106 := rfl
set_option maxRecDepth 100000 in
theorem mv_cd_107 : mv_cdP 107 := rfl
set_option maxRecDepth 100000 in
theorem mv_cd_108 : mv_cdP 108 := rfl
set_option maxRecDepth 100000 in
theorem mv_cd_109 : mv_cdP 109 := rfl
set_option maxRecDepth 100000 in
theorem mv_cd_110 : mv_cdP 110 := rfl
set_option maxRecDepth 100000 in
theorem mv_cd_111 : mv_cdP 111 := rfl
set_option maxRecDepth 100000 in
theorem mv_cd_112 : mv_cdP 112 := rfl
set_option maxRecDepth 100000 in
theorem mv_cd_113 : mv_cdP 113 := rfl
set_option maxRecDepth 100000 in
theorem mv_cd_114 : mv_cdP 114 := rfl
set_option maxRecDepth 100000 in
theorem mv_cd_115 : mv_cdP 115 := rfl
set_option maxRecDepth 100000 in
theorem mv_cd_116 : mv_cdP 116 := rfl
set_option maxRecDepth 100000 in
theorem mv_cd_117 : mv_cdP 117 := rfl
set_option maxRecDepth 100000 in
theorem mv_cd_118 : mv_cdP 118 := rfl
set_option maxRecDepth 100000 in
theorem mv_cd_119 : mv_cdP 119 := rfl
set_option maxRecDepth 100000 in
theorem mv_cd_120 : mv_cdP 120 := rfl
set_option maxRecDepth 100000 in
theorem mv_cd_121 : mv_cdP 121 := rfl
set_option maxRecDepth 100000 in
theorem mv_cd_122 : mv_cdP 122 := rfl
set_option maxRecDepth 100000 in
theorem mv_cd_123 : mv_cdP 123 := rfl
set_option maxRecDepth 100000 in
theorem mv_cd_124 : mv_cdP 124 := rfl
set_option maxRecDepth 100000 in
theorem mv_cd_125 : mv_cdP 125 := rfl
set_option maxRecDepth 100000 in
theorem mv_cd_126 : mv_cdP 126 := rfl
set_option maxRecDepth 100000 in
theorem mv_cd_127 : mv_cdP 127 := rfl
set_option maxRecDepth 100000 in
theorem mv_cd_128 : mv_cdP 128 := rfl
set_option maxRecDepth 100000 in
theorem mv_cd_129 : mv_cdP 129 := rfl
set_option maxRecDepth 100000 in
theorem mv_cd_130 : mv_cdP 130 := rfl
set_option maxRecDepth 100000 in
theorem mv_cd_131 : mv_cdP 131 := rfl
set_option maxRecDepth 100000 in
theorem mv_cd_132 : mv_cdP 132 := rfl
set_option maxRecDepth 100000 in
theorem mv_cd_133 : mv_cdP 133 := rfl
set_option maxRecDepth 100000 in
theorem mv_cd_134 : mv_cdP 134 := rfl
set_option maxRecDepth 100000 in
theorem mv_cd_135 : mv_cdP 135 := rfl
set_option maxRecDepth 100000 in
theorem mv_cd_136 : mv_cdP 136 := rfl
set_option maxRecDepth 100000 in
theorem mv_cd_137 : mv_cdP 137 := rfl
set_option maxRecDepth 100000 in
theorem mv_cd_138 : mv_cdP 138 := rfl
set_option maxRecDepth 100000 in
theorem mv_cd_139 : mv_cdP 139 := rfl
set_option maxRecDepth 100000 in
theorem mv_cd_140 : mv_cdP 140 := rfl
set_option maxRecDepth 100000 in
theorem mv_cd_141 : mv_cdP 141 := rfl
set_option maxRecDepth 100000 in
theorem mv_cd_142 : mv_cdP 142 := rfl
set_option maxRecDepth 100000 in
theorem mv_cd_143 : mv_cdP 143 := rfl
set_option maxRecDepth 100000 in
theorem mv_cd_144 : mv_cdP 144 := rfl
set_option maxRecDepth 100000 in
theorem mv_cd_145 : mv_cdP 145 := rfl
set_option maxRecDepth 100000 in
theorem mv_cd_146 : mv_cdP 146 := rfl
set_option maxRecDepth 100000 in
theorem mv_cd_147 : mv_cdP 147 := rfl
set_option maxRecDepth 100000 in
theorem mv_cd_148 : mv_cdP 148 := rfl
set_option maxRecDepth 100000 in
theorem mv_cd_149 : mv_cdP 149 := rfl
set_option maxRecDepth 100000 in
theorem mv_cd_150 : mv_cdP 150 := rfl
set_option maxRecDepth 100000 in
theorem mv_cd_151 : mv_cdP 151 := rfl
set_option maxRecDepth 100000 in
theorem mv_cd_152 : mv_cdP 152 := rfl
set_option maxRecDepth 100000 in
theorem mv_cd_153 : mv_cdP 153 := rfl
set_option maxRecDepth 100000 in
theorem mv_cd_154 : mv_cdP 154 := rfl
set_option maxRecDepth 100000 in
theorem mv_cd_155 : mv_cdP 155 := rfl
set_option maxRecDepth 100000 in
theorem mv_cd_156 : mv_cdP 156 := rfl
set_option maxRecDepth 100000 in
theorem mv_cd_157 : mv_cdP 157 := rfl
set_option maxRecDepth 100000 in
theorem mv_cd_158 : mv_cdP 158 := rfl
set_option maxRecDepth 100000 in
theorem mv_cd_159 : mv_cdP 159 := rfl
set_option maxRecDepth 100000 in
theorem mv_cd_160 : mv_cdP 160 := rfl
set_option maxRecDepth 100000 in
theorem mv_cd_161 : mv_cdP 161 := rfl
set_option maxRecDepth 100000 in
theorem mv_cd_162 : mv_cdP 162 := rfl
set_option maxRecDepth 100000 in
theorem mv_cd_163 : mv_cdP 163 := rfl
set_option maxRecDepth 100000 in
theorem mv_cd_164 : mv_cdP 164 := rfl
set_option maxRecDepth 100000 in
theorem mv_cd_165 : mv_cdP 165 := rfl
set_option maxRecDepth 100000 in
theorem mv_cd_166 : mv_cdP 166 := rfl
set_option maxRecDepth 100000 in
theorem mv_cd_167 : mv_cdP 167 := rfl
set_option maxRecDepth 100000 in
theorem mv_cd_168 : mv_cdP 168 := rfl
set_option maxRecDepth 100000 in
theorem mv_cd_169 : mv_cdP 169 := rfl
set_option maxRecDepth 100000 in
theorem mv_cd_170 : mv_cdP 170 := rfl
set_option maxRecDepth 100000 in
theorem mv_cd : ∀ k, k < 171 → mv_cdP k := by
  have h : ∀ k ∈ List.range 171, mv_cdP k := by
    show ∀ k ∈ [0, 1, 2, 3, 4, 5, 6, 7, 8, 9, 10, 11, 12, 13, 14, 15, 16, 17, 18, 19, 20, 21, 22, 23, 24, 25, 26, 27, 28, 29, 30, 31, 32, 33, 34, 35, 36, 37, 38, 39, 40, 41, 42, 43, 44, 45, 46, 47, 48, 49, 50, 51, 52, 53, 54, 55, 56, 57, 58, 59, 60, 61, 62, 63, 64, 65, 66, 67, 68, 69, 70, 71, 72, 73, 74, 75, 76, 77, 78, 79, 80, 81, 82, 83, 84, 85, 86, 87, 88, 89, 90, 91, 92, 93, 94, 95, 96, 97, 98, 99, 100, 101, 102, 103, 104, 105, 106, 107, 108, 109, 110, 111, 112, 113, 114, 115, 116, 117, 118, 119, 120, 121, 122, 123, 124, 125, 126, 127, 128, 129, 130, 131, 132, 133, 134, 135, 136, 137, 138, 139, 140, 141, 142, 143, 144, 145, 146, 147, 148, 149, 150, 151, 152, 153, 154, 155, 156, 157, 158, 159, 160, 161, 162, 163, 164, 165, 166, 167, 168, 169, 170], mv_cdP k
    exact List.forall_mem_cons.mpr ⟨mv_cd_0, List.forall_mem_cons.mpr ⟨mv_cd_1, List.forall_mem_cons.mpr ⟨mv_cd_2, List.forall_mem_cons.mpr ⟨mv_cd_3, List.forall_mem_cons.mpr ⟨mv_cd_4, List.forall_mem_cons.mpr ⟨mv_cd_5, List.forall_mem_cons.mpr ⟨mv_cd_6, List.forall_mem_cons.mpr ⟨mv_cd_7, List.forall_mem_cons.mpr ⟨mv_cd_8, List.forall_mem_cons.mpr ⟨mv_cd_9, List.forall_mem_cons.mpr ⟨mv_cd_10, List.forall_mem_cons.mpr ⟨mv_cd_11, List.forall_mem_cons.mpr ⟨mv_cd_12, List.forall_mem_cons.mpr ⟨mv_cd_13, List.forall_mem_cons.mpr ⟨mv_cd_14, List.forall_mem_cons.mpr ⟨mv_cd_15, List.forall_mem_cons.mpr ⟨mv_cd_16, List.forall_mem_cons.mpr ⟨mv_cd_17, List.forall_mem_cons.mpr ⟨mv_cd_18, List.forall_mem_cons.mpr ⟨mv_cd_19, List.forall_mem_cons.mpr ⟨mv_cd_20, List.forall_mem_cons.mpr ⟨mv_cd_21, List.forall_mem_cons.mpr ⟨mv_cd_22, List.forall_mem_cons.mpr ⟨mv_cd_23, List.forall_mem_cons.mpr ⟨mv_cd_24, List.forall_mem_cons.mpr ⟨mv_cd_25, List.forall_mem_cons.mpr ⟨mv_cd_26, List.forall_mem_cons.mpr ⟨mv_cd_27, List.forall_mem_cons.mpr ⟨mv_cd_28, List.forall_mem_cons.mpr ⟨mv_cd_29, List.forall_mem_cons.mpr ⟨mv_cd_30, List.forall_mem_cons.mpr ⟨mv_cd_31, List.forall_mem_cons.mpr ⟨mv_cd_32, List.forall_mem_cons.mpr ⟨mv_cd_33, List.forall_mem_cons.mpr ⟨mv_cd_34, List.forall_mem_cons.mpr ⟨mv_cd_35, List.forall_mem_cons.mpr ⟨mv_cd_36, List.forall_mem_cons.mpr ⟨mv_cd_37, List.forall_mem_cons.mpr ⟨mv_cd_38, List.forall_mem_cons.mpr ⟨mv_cd_39, List.forall_mem_cons.mpr ⟨mv_cd_40, List.forall_mem_cons.mpr ⟨mv_cd_41, List.forall_mem_cons.mpr ⟨mv_cd_42, List.forall_mem_cons.mpr ⟨mv_cd_43, List.forall_mem_cons.mpr ⟨mv_cd_44, List.forall_mem_cons.mpr ⟨mv_cd_45, List.forall_mem_cons.mpr ⟨mv_cd_46, List.forall_mem_cons.mpr ⟨mv_cd_47, List.forall_mem_cons.mpr ⟨mv_cd_48, List.forall_mem_cons.mpr ⟨mv_cd_49, List.forall_mem_cons.mpr ⟨mv_cd_50, List.forall_mem_cons.mpr ⟨mv_cd_51, List.forall_mem_cons.mpr ⟨mv_cd_52, List.forall_mem_cons.mpr ⟨mv_cd_53, List.forall_mem_cons.mpr ⟨mv_cd_54, List.forall_mem_cons.mpr ⟨mv_cd_55, List.forall_mem_cons.mpr ⟨mv_cd_56, List.forall_mem_cons.mpr ⟨mv_cd_57, List.forall_mem_cons.mpr ⟨mv_cd_58, List.forall_mem_cons.mpr ⟨mv_cd_59, List.forall_mem_cons.mpr ⟨mv_cd_60, List.forall_mem_cons.mpr ⟨mv_cd_61, List.forall_mem_cons.mpr ⟨mv_cd_62, List.forall_mem_cons.mpr ⟨mv_cd_63, List.forall_mem_cons.mpr ⟨mv_cd_64, List.forall_mem_cons.mpr ⟨mv_cd_65, List.forall_mem_cons.mpr ⟨mv_cd_66, List.forall_mem_cons.mpr ⟨mv_cd_67, List.forall_mem_cons.mpr ⟨mv_cd_68, List.forall_mem_cons.mpr ⟨mv_cd_69, List.forall_mem_cons.mpr ⟨mv_cd_70, List.forall_mem_cons.mpr ⟨mv_cd_71, List.forall_mem_cons.mpr ⟨mv_cd_72, List.forall_mem_cons.mpr ⟨mv_cd_73, List.forall_mem_cons.mpr ⟨mv_cd_74, List.forall_mem_cons.mpr ⟨mv_cd_75, List.forall_mem_cons.mpr ⟨mv_cd_76, List.forall_mem_cons.mpr ⟨mv_cd_77, List.forall_mem_cons.mpr ⟨mv_cd_78, List.forall_mem_cons.mpr ⟨mv_cd_79, List.forall_mem_cons.mpr ⟨mv_cd_80, List.forall_mem_cons.mpr ⟨mv_cd_81, List.forall_mem_cons.mpr ⟨mv_cd_82, List.forall_mem_cons.mpr ⟨mv_cd_83, List.forall_mem_cons.mpr ⟨mv_cd_84, List.forall_mem_cons.mpr ⟨mv_cd_85, List.forall_mem_cons.mpr ⟨mv_cd_86, List.forall_mem_cons.mpr ⟨mv_cd_87, List.forall_mem_cons.mpr ⟨mv_cd_88, List.forall_mem_cons.mpr ⟨mv_cd_89, List.forall_mem_cons.mpr ⟨mv_cd_90, List.forall_mem_cons.mpr ⟨mv_cd_91, List.forall_mem_cons.mpr ⟨mv_cd_92, List.forall_mem_cons.mpr ⟨mv_cd_93, List.forall_mem_cons.mpr ⟨mv_cd_94, List.forall_mem_cons.mpr ⟨mv_cd_95, List.forall_mem_cons.mpr ⟨mv_cd_96, List.forall_mem_cons.mpr ⟨mv_cd_97, List.forall_mem_cons.mpr ⟨mv_cd_98, List.forall_mem_cons.mpr ⟨mv_cd_99, List.forall_mem_cons.mpr ⟨mv_cd_100, List.forall_mem_cons.mpr ⟨mv_cd_101, List.forall_mem_cons.mpr ⟨mv_cd_102, List.forall_mem_cons.mpr ⟨mv_cd_103, List.forall_mem_cons.mpr ⟨mv_cd_104, List.forall_mem_cons.mpr ⟨mv_cd_105, List.forall_mem_cons.mpr ⟨mv_cd_106, List.forall_mem_cons.mpr ⟨mv_cd_107, List.forall_mem_cons.mpr ⟨mv_cd_108, List.forall_mem_cons.mpr ⟨mv_cd_109, List.forall_mem_cons.mpr ⟨mv_cd_110, List.forall_mem_cons.mpr ⟨mv_cd_111, List.forall_mem_cons.mpr ⟨mv_cd_112, List.forall_mem_cons.mpr ⟨mv_cd_113, List.forall_mem_cons.mpr ⟨mv_cd_114, List.forall_mem_cons.mpr ⟨mv_cd_115, List.forall_mem_cons.mpr ⟨mv_cd_116, List.forall_mem_cons.mpr ⟨mv_cd_117, List.forall_mem_cons.mpr ⟨mv_cd_118, List.forall_mem_cons.mpr ⟨mv_cd_119, List.forall_mem_cons.mpr ⟨mv_cd_120, List.forall_mem_cons.mpr ⟨mv_cd_121, List.forall_mem_cons.mpr ⟨mv_cd_122, List.forall_mem_cons.mpr ⟨mv_cd_123, List.forall_mem_cons.mpr ⟨mv_cd_124, List.forall_mem_cons.mpr ⟨mv_cd_125, List.forall_mem_cons.mpr ⟨mv_cd_126, List.forall_mem_cons.mpr ⟨mv_cd_127, List.forall_mem_cons.mpr ⟨mv_cd_128, List.forall_mem_cons.mpr ⟨mv_cd_129, List.forall_mem_cons.mpr ⟨mv_cd_130, List.forall_mem_cons.mpr ⟨mv_cd_131, List.forall_mem_cons.mpr ⟨mv_cd_132, List.forall_mem_cons.mpr ⟨mv_cd_133, List.forall_mem_cons.mpr ⟨mv_cd_134, List.forall_mem_cons.mpr ⟨mv_cd_135, List.forall_mem_cons.mpr ⟨mv_cd_136, List.forall_mem_cons.mpr ⟨mv_cd_137, List.forall_mem_cons.mpr ⟨mv_cd_138, List.forall_mem_cons.mpr ⟨mv_cd_139, List.forall_mem_cons.mpr ⟨mv_cd_140, List.forall_mem_cons.mpr ⟨mv_cd_141, List.forall_mem_cons.mpr ⟨mv_cd_142, List.forall_mem_cons.mpr ⟨mv_cd_143, List.forall_mem_cons.mpr ⟨mv_cd_144, List.forall_mem_cons.mpr ⟨mv_cd_145, List.forall_mem_cons.mpr ⟨mv_cd_146, List.forall_mem_cons.mpr ⟨mv_cd_147, List.forall_mem_cons.mpr ⟨mv_cd_148, List.forall_mem_cons.mpr ⟨mv_cd_149, List.forall_mem_cons.mpr ⟨mv_cd_150, List.forall_mem_cons.mpr ⟨mv_cd_151, List.forall_mem_cons.mpr ⟨mv_cd_152, List.forall_mem_cons.mpr ⟨mv_cd_153, List.forall_mem_cons.mpr ⟨mv_cd_154, List.forall_mem_cons.mpr ⟨mv_cd_155, List.forall_mem_cons.mpr ⟨mv_cd_156, List.forall_mem_cons.mpr ⟨mv_cd_157, List.forall_mem_cons.mpr ⟨mv_cd_158, List.forall_mem_cons.mpr ⟨mv_cd_159, List.forall_mem_cons.mpr ⟨mv_cd_160, List.forall_mem_cons.mpr ⟨mv_cd_161, List.forall_mem_cons.mpr ⟨mv_cd_162, List.forall_mem_cons.mpr ⟨mv_cd_163, List.forall_mem_cons.mpr ⟨mv_cd_164, List.forall_mem_cons.mpr ⟨mv_cd_165, List.forall_mem_cons.mpr ⟨mv_cd_166, List.forall_mem_cons.mpr ⟨mv_cd_167, List.forall_mem_cons.mpr ⟨mv_cd_168, List.forall_mem_cons.mpr ⟨mv_cd_169, List.forall_mem_cons.mpr ⟨mv_cd_170, fun _ h => absurd h List.not_mem_nil⟩⟩⟩⟩⟩⟩⟩⟩⟩⟩⟩⟩⟩⟩⟩⟩⟩⟩⟩⟩⟩⟩⟩⟩⟩⟩⟩⟩⟩⟩⟩⟩⟩⟩⟩⟩⟩⟩⟩⟩⟩⟩⟩⟩⟩⟩⟩⟩⟩⟩⟩⟩⟩⟩⟩⟩⟩⟩⟩⟩⟩⟩⟩⟩⟩⟩⟩⟩⟩⟩⟩⟩⟩⟩⟩⟩⟩⟩⟩⟩⟩⟩⟩⟩⟩⟩⟩⟩⟩⟩⟩⟩⟩⟩⟩⟩⟩⟩⟩⟩⟩⟩⟩⟩⟩⟩⟩⟩⟩⟩⟩⟩⟩⟩⟩⟩⟩⟩⟩⟩⟩⟩⟩⟩⟩⟩⟩⟩⟩⟩⟩⟩⟩⟩⟩⟩⟩⟩⟩⟩⟩⟩⟩⟩⟩⟩⟩⟩⟩⟩⟩⟩⟩⟩⟩⟩⟩⟩⟩⟩⟩⟩⟩⟩⟩⟩⟩⟩⟩⟩⟩
  exact fun k hk => h k (List.mem_range.mpr hk)
theorem ok_X0_init : mv_ok 0 true cX0_init pX0_init = true := by decide +kernel
theorem ok_X0_read : mv_ok 0 false cX0_read pX0_read = true := by decide +kernel
theorem ok_X0_takes : mv_ok 0 false cX0_takes pX0_takes = true := by decide +kernel
theorem ok_X0_takesLetter : mv_ok 0 false cX0_takesLetter pX0_takesLetter = true := by decide +kernel
theorem ok_X0_takesComparison : mv_ok 0 false cX0_takesComparison pX0_takesComparison = true := by decide +kernel
theorem ok_X0_takesInNumber : mv_ok 0 false cX0_takesInNumber pX0_takesInNumber = true := by decide +kernel
theorem ok_X0_takesInWeight : mv_ok 0 false cX0_takesInWeight pX0_takesInWeight = true := by decide +kernel
theorem ok_X0_isDigit : mv_ok 0 false cX0_isDigit pX0_isDigit = true := by decide +kernel
theorem ok_X0_isFor : mv_ok 0 false cX0_isFor pX0_isFor = true := by decide +kernel
theorem ok_X0_isSo : mv_ok 0 false cX0_isSo pX0_isSo = true := by decide +kernel
theorem ok_X1_init : mv_ok 1 true cX1_init pX1_init = true := by decide +kernel
theorem ok_X1_mayBe : mv_ok 1 false cX1_mayBe pX1_mayBe = true := by decide +kernel
theorem ok_X1_mayHaveBeen : mv_ok 1 false cX1_mayHaveBeen pX1_mayHaveBeen = true := by decide +kernel
theorem ok_X1_firstHour : mv_ok 1 false cX1_firstHour pX1_firstHour = true := by decide +kernel
theorem ok_X1_someAgrees : mv_ok 1 false cX1_someAgrees pX1_someAgrees = true := by decide +kernel
theorem ok_X1_menders : mv_ok 1 false cX1_menders pX1_menders = true := by decide +kernel
theorem ok_X1_mends : mv_ok 1 false cX1_mends pX1_mends = true := by decide +kernel
theorem ok_X1_isUnderWay : mv_ok 1 false cX1_isUnderWay pX1_isUnderWay = true := by decide +kernel
theorem ok_X1_heed : mv_ok 1 false cX1_heed pX1_heed = true := by decide +kernel
theorem ok_X1_heedOne : mv_ok 1 false cX1_heedOne pX1_heedOne = true := by decide +kernel
theorem ok_X1_spread : mv_ok 1 false cX1_spread pX1_spread = true := by decide +kernel
theorem ok_X1_cameAt : mv_ok 1 false cX1_cameAt pX1_cameAt = true := by decide +kernel
theorem ok_X1_arrivalsBy : mv_ok 1 false cX1_arrivalsBy pX1_arrivalsBy = true := by decide +kernel
theorem ok_X1_lookOnward : mv_ok 1 false cX1_lookOnward pX1_lookOnward = true := by decide +kernel
theorem ok_X1_goesOnAt : mv_ok 1 false cX1_goesOnAt pX1_goesOnAt = true := by decide +kernel
theorem ok_X1_departuresBy : mv_ok 1 false cX1_departuresBy pX1_departuresBy = true := by decide +kernel
theorem ok_X1_isClear : mv_ok 1 false cX1_isClear pX1_isClear = true := by decide +kernel
theorem ok_X1_cameBy : mv_ok 1 false cX1_cameBy pX1_cameBy = true := by decide +kernel
theorem ok_X1_tellWay : mv_ok 1 false cX1_tellWay pX1_tellWay = true := by decide +kernel
theorem ok_X1_wayBits : mv_ok 1 false cX1_wayBits pX1_wayBits = true := by decide +kernel
theorem ok_X2_init : mv_ok 2 true cX2_init pX2_init = true := by decide +kernel
theorem ok_X2_enact : mv_ok 2 false cX2_enact pX2_enact = true := by decide +kernel
theorem ok_X2_lodge : mv_ok 2 false cX2_lodge pX2_lodge = true := by decide +kernel
theorem ok_X2_weigh : mv_ok 2 false cX2_weigh pX2_weigh = true := by decide +kernel
theorem ok_X2_share : mv_ok 2 false cX2_share pX2_share = true := by decide +kernel
theorem ok_X3_init : mv_ok 3 true cX3_init pX3_init = true := by decide +kernel
theorem ok_X3_add : mv_ok 3 false cX3_add pX3_add = true := by decide +kernel
theorem ok_X3_misfit : mv_ok 3 false cX3_misfit pX3_misfit = true := by decide +kernel
theorem ok_X3_fittingOf : mv_ok 3 false cX3_fittingOf pX3_fittingOf = true := by decide +kernel
theorem ok_X4_init : mv_ok 4 true cX4_init pX4_init = true := by decide +kernel
theorem ok_X4_set : mv_ok 4 false cX4_set pX4_set = true := by decide +kernel
theorem ok_X4_tellOn : mv_ok 4 false cX4_tellOn pX4_tellOn = true := by decide +kernel
theorem ok_X4_agrees : mv_ok 4 false cX4_agrees pX4_agrees = true := by decide +kernel
theorem ok_X5_init : mv_ok 5 true cX5_init pX5_init = true := by decide +kernel
theorem ok_X5_add : mv_ok 5 false cX5_add pX5_add = true := by decide +kernel
theorem ok_X5_standing : mv_ok 5 false cX5_standing pX5_standing = true := by decide +kernel
theorem ok_X6_init : mv_ok 6 true cX6_init pX6_init = true := by decide +kernel
theorem ok_X6_hasParish : mv_ok 6 false cX6_hasParish pX6_hasParish = true := by decide +kernel
theorem ok_X6_hasRoad : mv_ok 6 false cX6_hasRoad pX6_hasRoad = true := by decide +kernel
theorem ok_X6_addParish : mv_ok 6 false cX6_addParish pX6_addParish = true := by decide +kernel
theorem ok_X6_addRoad : mv_ok 6 false cX6_addRoad pX6_addRoad = true := by decide +kernel
theorem ok_X6_parishesOf : mv_ok 6 false cX6_parishesOf pX6_parishesOf = true := by decide +kernel
theorem ok_X6_startBit : mv_ok 6 false cX6_startBit pX6_startBit = true := by decide +kernel
theorem ok_X6_across : mv_ok 6 false cX6_across pX6_across = true := by decide +kernel
theorem ok_X6_otherEnd : mv_ok 6 false cX6_otherEnd pX6_otherEnd = true := by decide +kernel
theorem ok_X6_shortest : mv_ok 6 false cX6_shortest pX6_shortest = true := by decide +kernel
theorem ok_X6_shorten : mv_ok 6 false cX6_shorten pX6_shorten = true := by decide +kernel
theorem ok_X7_init : mv_ok 7 true cX7_init pX7_init = true := by decide +kernel
theorem ok_X7_fewest : mv_ok 7 false cX7_fewest pX7_fewest = true := by decide +kernel
theorem ok_X7_tellPicks : mv_ok 7 false cX7_tellPicks pX7_tellPicks = true := by decide +kernel
theorem ok_X7_pickLowest : mv_ok 7 false cX7_pickLowest pX7_pickLowest = true := by decide +kernel
theorem ok_X7_pickNext : mv_ok 7 false cX7_pickNext pX7_pickNext = true := by decide +kernel
theorem ok_X7_picked : mv_ok 7 false cX7_picked pX7_picked = true := by decide +kernel
theorem ok_X7_misses : mv_ok 7 false cX7_misses pX7_misses = true := by decide +kernel
theorem ok_X7_escapes : mv_ok 7 false cX7_escapes pX7_escapes = true := by decide +kernel
theorem ok_X8_init : mv_ok 8 true cX8_init pX8_init = true := by decide +kernel
theorem ok_X8_add : mv_ok 8 false cX8_add pX8_add = true := by decide +kernel
theorem ok_X8_turnRound : mv_ok 8 false cX8_turnRound pX8_turnRound = true := by decide +kernel
theorem ok_X9_init : mv_ok 9 true cX9_init pX9_init = true := by decide +kernel
theorem ok_X9_addFour : mv_ok 9 false cX9_addFour pX9_addFour = true := by decide +kernel
theorem ok_X9_cut : mv_ok 9 false cX9_cut pX9_cut = true := by decide +kernel
theorem ok_X10_init : mv_ok 10 true cX10_init pX10_init = true := by decide +kernel
theorem ok_X10_parish : mv_ok 10 false cX10_parish pX10_parish = true := by decide +kernel
theorem ok_X10_road : mv_ok 10 false cX10_road pX10_road = true := by decide +kernel
theorem ok_X10_shut : mv_ok 10 false cX10_shut pX10_shut = true := by decide +kernel
theorem ok_X10_exit : mv_ok 10 false cX10_exit pX10_exit = true := by decide +kernel
theorem ok_X10_begin : mv_ok 10 false cX10_begin pX10_begin = true := by decide +kernel
theorem ok_X10_count : mv_ok 10 false cX10_count pX10_count = true := by decide +kernel
theorem ok_X10_far : mv_ok 10 false cX10_far pX10_far = true := by decide +kernel
theorem ok_X10_seen : mv_ok 10 false cX10_seen pX10_seen = true := by decide +kernel
theorem ok_X10_vain : mv_ok 10 false cX10_vain pX10_vain = true := by decide +kernel
theorem ok_X10_guarded : mv_ok 10 false cX10_guarded pX10_guarded = true := by decide +kernel
theorem ok_X10_strike : mv_ok 10 false cX10_strike pX10_strike = true := by decide +kernel
theorem ok_X10_may : mv_ok 10 false cX10_may pX10_may = true := by decide +kernel
theorem ok_X10_was : mv_ok 10 false cX10_was pX10_was = true := by decide +kernel
theorem ok_X10_places : mv_ok 10 false cX10_places pX10_places = true := by decide +kernel
theorem ok_X10_first : mv_ok 10 false cX10_first pX10_first = true := by decide +kernel
theorem ok_X10_trail : mv_ok 10 false cX10_trail pX10_trail = true := by decide +kernel
theorem ok_X10_quarrel : mv_ok 10 false cX10_quarrel pX10_quarrel = true := by decide +kernel
theorem ok_X10_watch : mv_ok 10 false cX10_watch pX10_watch = true := by decide +kernel
theorem ok_X10_trait : mv_ok 10 false cX10_trait pX10_trait = true := by decide +kernel
theorem ok_X10_telling : mv_ok 10 false cX10_telling pX10_telling = true := by decide +kernel
theorem ok_X10_person : mv_ok 10 false cX10_person pX10_person = true := by decide +kernel
theorem ok_X10_fits : mv_ok 10 false cX10_fits pX10_fits = true := by decide +kernel
theorem ok_X10_many : mv_ok 10 false cX10_many pX10_many = true := by decide +kernel
theorem ok_X10_suspects : mv_ok 10 false cX10_suspects pX10_suspects = true := by decide +kernel
theorem ok_X10_sign : mv_ok 10 false cX10_sign pX10_sign = true := by decide +kernel
theorem ok_X10_end : mv_ok 10 false cX10_end pX10_end = true := by decide +kernel
theorem ok_X10_act : mv_ok 10 false cX10_act pX10_act = true := by decide +kernel
theorem ok_X10_repeal : mv_ok 10 false cX10_repeal pX10_repeal = true := by decide +kernel
theorem ok_X10_claim : mv_ok 10 false cX10_claim pX10_claim = true := by decide +kernel
theorem ok_X10_weight : mv_ok 10 false cX10_weight pX10_weight = true := by decide +kernel
theorem ok_X10_reward : mv_ok 10 false cX10_reward pX10_reward = true := by decide +kernel
theorem ok_X10_waive : mv_ok 10 false cX10_waive pX10_waive = true := by decide +kernel
theorem ok_X10_canAsk : mv_ok 10 false cX10_canAsk pX10_canAsk = true := by decide +kernel
theorem ok_X10_isHour : mv_ok 10 false cX10_isHour pX10_isHour = true := by decide +kernel
theorem ok_X10_isCounty : mv_ok 10 false cX10_isCounty pX10_isCounty = true := by decide +kernel
theorem ok_X10_isNumber : mv_ok 10 false cX10_isNumber pX10_isNumber = true := by decide +kernel
theorem ok_X10_bit : mv_ok 10 false cX10_bit pX10_bit = true := by decide +kernel
theorem ok_X10_has : mv_ok 10 false cX10_has pX10_has = true := by decide +kernel
theorem ok_X11_init : mv_ok 11 true cX11_init pX11_init = true := by decide +kernel
theorem ok_X11_thrown : mv_ok 11 false cX11_thrown pX11_thrown = true := by decide +kernel
theorem ok_X11_in : mv_ok 11 false cX11_in pX11_in = true := by decide +kernel
theorem ok_X11_refuse : mv_ok 11 false cX11_refuse pX11_refuse = true := by decide +kernel
theorem ok_X11_isParish : mv_ok 11 false cX11_isParish pX11_isParish = true := by decide +kernel
theorem ok_X11_isHour : mv_ok 11 false cX11_isHour pX11_isHour = true := by decide +kernel
theorem ok_X11_parish : mv_ok 11 false cX11_parish pX11_parish = true := by decide +kernel
theorem ok_X11_road : mv_ok 11 false cX11_road pX11_road = true := by decide +kernel
theorem ok_X11_shut : mv_ok 11 false cX11_shut pX11_shut = true := by decide +kernel
theorem ok_X11_exit : mv_ok 11 false cX11_exit pX11_exit = true := by decide +kernel
theorem ok_X11_begin : mv_ok 11 false cX11_begin pX11_begin = true := by decide +kernel
theorem ok_X11_count : mv_ok 11 false cX11_count pX11_count = true := by decide +kernel
theorem ok_X11_far : mv_ok 11 false cX11_far pX11_far = true := by decide +kernel
theorem ok_X11_fact : mv_ok 11 false cX11_fact pX11_fact = true := by decide +kernel
theorem ok_X11_seen : mv_ok 11 false cX11_seen pX11_seen = true := by decide +kernel
theorem ok_X11_vain : mv_ok 11 false cX11_vain pX11_vain = true := by decide +kernel
theorem ok_X11_guarded : mv_ok 11 false cX11_guarded pX11_guarded = true := by decide +kernel
theorem ok_X11_strike : mv_ok 11 false cX11_strike pX11_strike = true := by decide +kernel
theorem ok_X11_letsIn : mv_ok 11 false cX11_letsIn pX11_letsIn = true := by decide +kernel
theorem ok_X11_isClear : mv_ok 11 false cX11_isClear pX11_isClear = true := by decide +kernel
theorem ok_X11_cell : mv_ok 11 false cX11_cell pX11_cell = true := by decide +kernel
theorem ok_X11_other : mv_ok 11 false cX11_other pX11_other = true := by decide +kernel
theorem ok_X11_mayCome : mv_ok 11 false cX11_mayCome pX11_mayCome = true := by decide +kernel
theorem ok_X11_walks : mv_ok 11 false cX11_walks pX11_walks = true := by decide +kernel
theorem ok_X11_walksOn : mv_ok 11 false cX11_walksOn pX11_walksOn = true := by decide +kernel
theorem ok_X11_mayGo : mv_ok 11 false cX11_mayGo pX11_mayGo = true := by decide +kernel
theorem ok_X11_isAsked : mv_ok 11 false cX11_isAsked pX11_isAsked = true := by decide +kernel
theorem ok_X11_may : mv_ok 11 false cX11_may pX11_may = true := by decide +kernel
theorem ok_X11_was : mv_ok 11 false cX11_was pX11_was = true := by decide +kernel
theorem ok_X11_places : mv_ok 11 false cX11_places pX11_places = true := by decide +kernel
theorem ok_X11_first : mv_ok 11 false cX11_first pX11_first = true := by decide +kernel
theorem ok_X11_trail : mv_ok 11 false cX11_trail pX11_trail = true := by decide +kernel
theorem ok_X11_agrees : mv_ok 11 false cX11_agrees pX11_agrees = true := by decide +kernel
theorem ok_X11_quarrel : mv_ok 11 false cX11_quarrel pX11_quarrel = true := by decide +kernel
theorem ok_X11_getsOut : mv_ok 11 false cX11_getsOut pX11_getsOut = true := by decide +kernel
theorem ok_X11_watchers : mv_ok 11 false cX11_watchers pX11_watchers = true := by decide +kernel
theorem ok_X11_watch : mv_ok 11 false cX11_watch pX11_watch = true := by decide +kernel
theorem ok_X11_trait : mv_ok 11 false cX11_trait pX11_trait = true := by decide +kernel
theorem ok_X11_telling : mv_ok 11 false cX11_telling pX11_telling = true := by decide +kernel
theorem ok_X11_person : mv_ok 11 false cX11_person pX11_person = true := by decide +kernel
theorem ok_X11_unfit : mv_ok 11 false cX11_unfit pX11_unfit = true := by decide +kernel
theorem ok_X11_fits : mv_ok 11 false cX11_fits pX11_fits = true := by decide +kernel
theorem ok_X11_many : mv_ok 11 false cX11_many pX11_many = true := by decide +kernel
theorem ok_X11_suspects : mv_ok 11 false cX11_suspects pX11_suspects = true := by decide +kernel
theorem ok_X11_sign : mv_ok 11 false cX11_sign pX11_sign = true := by decide +kernel
theorem ok_X11_end : mv_ok 11 false cX11_end pX11_end = true := by decide +kernel
theorem ok_X11_isSign : mv_ok 11 false cX11_isSign pX11_isSign = true := by decide +kernel
theorem ok_X11_digits : mv_ok 11 false cX11_digits pX11_digits = true := by decide +kernel
theorem ok_X11_ask : mv_ok 11 false cX11_ask pX11_ask = true := by decide +kernel
theorem ok_X11_reads : mv_ok 11 false cX11_reads pX11_reads = true := by decide +kernel
theorem ok_X11_act : mv_ok 11 false cX11_act pX11_act = true := by decide +kernel
theorem ok_X11_repeal : mv_ok 11 false cX11_repeal pX11_repeal = true := by decide +kernel
theorem ok_X11_claim : mv_ok 11 false cX11_claim pX11_claim = true := by decide +kernel
theorem ok_X11_holds : mv_ok 11 false cX11_holds pX11_holds = true := by decide +kernel
theorem ok_X11_weightOf : mv_ok 11 false cX11_weightOf pX11_weightOf = true := by decide +kernel
theorem ok_X11_weight : mv_ok 11 false cX11_weight pX11_weight = true := by decide +kernel
theorem ok_X11_reward : mv_ok 11 false cX11_reward pX11_reward = true := by decide +kernel
theorem ok_X11_waive : mv_ok 11 false cX11_waive pX11_waive = true := by decide +kernel
theorem ok_X11_row : mv_ok 11 false cX11_row pX11_row = true := by decide +kernel
theorem ok_J6_numberOfTrailingZeros_0f7a4 : mv_ok 13 false cJ6_numberOfTrailingZeros_0f7a4 pJ6_numberOfTrailingZeros_0f7a4 = true := by decide +kernel
