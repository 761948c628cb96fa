theorem mv_pn_all : mv_ms.all (fun q => plainName q.1.cls && decide (mv_own q.2.2.2.2.2.2.1 = q.1.cls)) = true := by decide +kernel
theorem mv_in_all : (mv_in.zip mv_ms).all (fun q => bif q.1 then decide (q.2.1.name = "<init>") else true) = true := by decide +kernel
theorem mv_ms_get {y : Nat} (hy : y < 171) : mv_ms[y]? = some (mv_m y) := by
  have hl : mv_ms.length = 171 := rfl
  unfold mv_m
  rw [List.getD_eq_getElem?_getD, List.getElem?_eq_getElem (by rw [hl]; exact hy)]
  rfl
theorem mv_pn {y : Nat} (hy : y < 171) : plainName (mv_m y).1.cls = true ∧ mv_own (mv_m y).2.2.2.2.2.2.1 = (mv_m y).1.cls := by
  have := List.all_eq_true.mp mv_pn_all _ (List.mem_of_getElem? (mv_ms_get hy))
  simpa only [Bool.and_eq_true, decide_eq_true_eq] using this
theorem mv_ini_nm {y : Nat} (hy : y < 171) (h : mv_in.getD y false = true) : (mv_m y).1.name = "<init>" := by
  have hl : mv_in.length = 171 := rfl
  have h1 : mv_in[y]? = some true := by
    rw [List.getD_eq_getElem?_getD] at h
    cases hq : mv_in[y]? with
    | none => rw [hq] at h; simp at h
    | some b => rw [hq] at h; simp at h; rw [h]
  have hz : (mv_in.zip mv_ms)[y]? = some (true, mv_m y) := by
    rw [List.getElem?_zip_eq_some]
    exact ⟨h1, mv_ms_get hy⟩
  have := List.all_eq_true.mp mv_in_all _ (List.mem_of_getElem? hz)
  simpa using this
def mv_okP (y : Nat) : Prop := mv_ok (mv_m y).2.2.2.2.2.2.1 (mv_in.getD y false) (mv_m y).2.1 (mv_m y).2.2.2.2.2.2.2 = true
theorem mv_ok_0 : mv_okP 0 := ok_X0_init
theorem mv_ok_1 : mv_okP 1 := ok_X0_read
theorem mv_ok_2 : mv_okP 2 := ok_X0_takes
theorem mv_ok_3 : mv_okP 3 := ok_X0_takesLetter
theorem mv_ok_4 : mv_okP 4 := ok_X0_takesComparison
theorem mv_ok_5 : mv_okP 5 := ok_X0_takesInNumber
theorem mv_ok_6 : mv_okP 6 := ok_X0_takesInWeight
theorem mv_ok_7 : mv_okP 7 := ok_X0_isDigit
theorem mv_ok_8 : mv_okP 8 := ok_X0_isFor
theorem mv_ok_9 : mv_okP 9 := ok_X0_isSo
theorem mv_ok_10 : mv_okP 10 := ok_X1_init
theorem mv_ok_11 : mv_okP 11 := ok_X1_mayBe
theorem mv_ok_12 : mv_okP 12 := ok_X1_mayHaveBeen
theorem mv_ok_13 : mv_okP 13 := ok_X1_firstHour
theorem mv_ok_14 : mv_okP 14 := ok_X1_someAgrees
theorem mv_ok_15 : mv_okP 15 := ok_X1_menders
theorem mv_ok_16 : mv_okP 16 := ok_X1_mends
theorem mv_ok_17 : mv_okP 17 := ok_X1_isUnderWay
theorem mv_ok_18 : mv_okP 18 := ok_X1_heed
theorem mv_ok_19 : mv_okP 19 := ok_X1_heedOne
theorem mv_ok_20 : mv_okP 20 := ok_X1_spread
theorem mv_ok_21 : mv_okP 21 := ok_X1_cameAt
theorem mv_ok_22 : mv_okP 22 := ok_X1_arrivalsBy
theorem mv_ok_23 : mv_okP 23 := ok_X1_lookOnward
theorem mv_ok_24 : mv_okP 24 := ok_X1_goesOnAt
theorem mv_ok_25 : mv_okP 25 := ok_X1_departuresBy
theorem mv_ok_26 : mv_okP 26 := ok_X1_isClear
theorem mv_ok_27 : mv_okP 27 := ok_X1_cameBy
theorem mv_ok_28 : mv_okP 28 := ok_X1_tellWay
theorem mv_ok_29 : mv_okP 29 := ok_X1_wayBits
theorem mv_ok_30 : mv_okP 30 := ok_X2_init
theorem mv_ok_31 : mv_okP 31 := ok_X2_enact
theorem mv_ok_32 : mv_okP 32 := ok_X2_lodge
theorem mv_ok_33 : mv_okP 33 := ok_X2_weigh
theorem mv_ok_34 : mv_okP 34 := ok_X2_share
theorem mv_ok_35 : mv_okP 35 := ok_X3_init
theorem mv_ok_36 : mv_okP 36 := ok_X3_add
theorem mv_ok_37 : mv_okP 37 := ok_X3_misfit
theorem mv_ok_38 : mv_okP 38 := ok_X3_fittingOf
theorem mv_ok_39 : mv_okP 39 := ok_X4_init
theorem mv_ok_40 : mv_okP 40 := ok_X4_set
theorem mv_ok_41 : mv_okP 41 := ok_X4_tellOn
theorem mv_ok_42 : mv_okP 42 := ok_X4_agrees
theorem mv_ok_43 : mv_okP 43 := ok_X5_init
theorem mv_ok_44 : mv_okP 44 := ok_X5_add
theorem mv_ok_45 : mv_okP 45 := ok_X5_standing
theorem mv_ok_46 : mv_okP 46 := ok_X6_init
theorem mv_ok_47 : mv_okP 47 := ok_X6_hasParish
theorem mv_ok_48 : mv_okP 48 := ok_X6_hasRoad
theorem mv_ok_49 : mv_okP 49 := ok_X6_addParish
theorem mv_ok_50 : mv_okP 50 := ok_X6_addRoad
theorem mv_ok_51 : mv_okP 51 := ok_X6_parishesOf
theorem mv_ok_52 : mv_okP 52 := ok_X6_startBit
theorem mv_ok_53 : mv_okP 53 := ok_X6_across
theorem mv_ok_54 : mv_okP 54 := ok_X6_otherEnd
theorem mv_ok_55 : mv_okP 55 := ok_X6_shortest
theorem mv_ok_56 : mv_okP 56 := ok_X6_shorten
theorem mv_ok_57 : mv_okP 57 := ok_X7_init
theorem mv_ok_58 : mv_okP 58 := ok_X7_fewest
theorem mv_ok_59 : mv_okP 59 := ok_X7_tellPicks
theorem mv_ok_60 : mv_okP 60 := ok_X7_pickLowest
theorem mv_ok_61 : mv_okP 61 := ok_X7_pickNext
theorem mv_ok_62 : mv_okP 62 := ok_X7_picked
theorem mv_ok_63 : mv_okP 63 := ok_X7_misses
theorem mv_ok_64 : mv_okP 64 := ok_X7_escapes
theorem mv_ok_65 : mv_okP 65 := ok_X8_init
theorem mv_ok_66 : mv_okP 66 := ok_X8_add
theorem mv_ok_67 : mv_okP 67 := ok_X8_turnRound
theorem mv_ok_68 : mv_okP 68 := ok_X9_init
theorem mv_ok_69 : mv_okP 69 := ok_X9_addFour
theorem mv_ok_70 : mv_okP 70 := ok_X9_cut
theorem mv_ok_71 : mv_okP 71 := ok_X10_init
theorem mv_ok_72 : mv_okP 72 := ok_X10_parish
theorem mv_ok_73 : mv_okP 73 := ok_X10_road
theorem mv_ok_74 : mv_okP 74 := ok_X10_shut
theorem mv_ok_75 : mv_okP 75 := ok_X10_exit
theorem mv_ok_76 : mv_okP 76 := ok_X10_begin
theorem mv_ok_77 : mv_okP 77 := ok_X10_count
theorem mv_ok_78 : mv_okP 78 := ok_X10_far
theorem mv_ok_79 : mv_okP 79 := ok_X10_seen
theorem mv_ok_80 : mv_okP 80 := ok_X10_vain
theorem mv_ok_81 : mv_okP 81 := ok_X10_guarded
theorem mv_ok_82 : mv_okP 82 := ok_X10_strike
theorem mv_ok_83 : mv_okP 83 := ok_X10_may
theorem mv_ok_84 : mv_okP 84 := ok_X10_was
theorem mv_ok_85 : mv_okP 85 := ok_X10_places
theorem mv_ok_86 : mv_okP 86 := ok_X10_first
theorem mv_ok_87 : mv_okP 87 := ok_X10_trail
theorem mv_ok_88 : mv_okP 88 := ok_X10_quarrel
theorem mv_ok_89 : mv_okP 89 := ok_X10_watch
theorem mv_ok_90 : mv_okP 90 := ok_X10_trait
theorem mv_ok_91 : mv_okP 91 := ok_X10_telling
theorem mv_ok_92 : mv_okP 92 := ok_X10_person
theorem mv_ok_93 : mv_okP 93 := ok_X10_fits
theorem mv_ok_94 : mv_okP 94 := ok_X10_many
theorem mv_ok_95 : mv_okP 95 := ok_X10_suspects
theorem mv_ok_96 : mv_okP 96 := ok_X10_sign
theorem mv_ok_97 : mv_okP 97 := ok_X10_end
theorem mv_ok_98 : mv_okP 98 := ok_X10_act
theorem mv_ok_99 : mv_okP 99 := ok_X10_repeal
theorem mv_ok_100 : mv_okP 100 := ok_X10_claim
theorem mv_ok_101 : mv_okP 101 := ok_X10_weight
theorem mv_ok_102 : mv_okP 102 := ok_X10_reward
theorem mv_ok_103 : mv_okP 103 := ok_X10_waive
theorem mv_ok_105 : mv_okP 105 := ok_X10_canAsk
theorem mv_ok_106 : mv_okP 106 := ok_X10_isHour
theorem mv_ok_107 : mv_okP 107 := ok_X10_isCounty
theorem mv_ok_108 : mv_okP 108 := ok_X10_isNumber
theorem mv_ok_109 : mv_okP 109 := ok_X10_bit
theorem mv_ok_110 : mv_okP 110 := ok_X10_has
theorem mv_ok_111 : mv_okP 111 := ok_X11_init
theorem mv_ok_112 : mv_okP 112 := ok_X11_thrown
theorem mv_ok_113 : mv_okP 113 := ok_X11_in
theorem mv_ok_114 : mv_okP 114 := ok_X11_refuse
theorem mv_ok_115 : mv_okP 115 := ok_X11_isParish
theorem mv_ok_116 : mv_okP 116 := ok_X11_isHour
theorem mv_ok_117 : mv_okP 117 := ok_X11_parish
theorem mv_ok_118 : mv_okP 118 := ok_X11_road
theorem mv_ok_119 : mv_okP 119 := ok_X11_shut
theorem mv_ok_120 : mv_okP 120 := ok_X11_exit
theorem mv_ok_121 : mv_okP 121 := ok_X11_begin
theorem mv_ok_122 : mv_okP 122 := ok_X11_count
theorem mv_ok_123 : mv_okP 123 := ok_X11_far
theorem mv_ok_124 : mv_okP 124 := ok_X11_fact
theorem mv_ok_125 : mv_okP 125 := ok_X11_seen
theorem mv_ok_126 : mv_okP 126 := ok_X11_vain
theorem mv_ok_127 : mv_okP 127 := ok_X11_guarded
theorem mv_ok_128 : mv_okP 128 := ok_X11_strike
theorem mv_ok_129 : mv_okP 129 := ok_X11_letsIn
theorem mv_ok_130 : mv_okP 130 := ok_X11_isClear
theorem mv_ok_131 : mv_okP 131 := ok_X11_cell
theorem mv_ok_132 : mv_okP 132 := ok_X11_other
theorem mv_ok_133 : mv_okP 133 := ok_X11_mayCome
theorem mv_ok_134 : mv_okP 134 := ok_X11_walks
theorem mv_ok_135 : mv_okP 135 := ok_X11_walksOn
theorem mv_ok_136 : mv_okP 136 := ok_X11_mayGo
theorem mv_ok_137 : mv_okP 137 := ok_X11_isAsked
theorem mv_ok_138 : mv_okP 138 := ok_X11_may
theorem mv_ok_139 : mv_okP 139 := ok_X11_was
theorem mv_ok_140 : mv_okP 140 := ok_X11_places
theorem mv_ok_141 : mv_okP 141 := ok_X11_first
theorem mv_ok_142 : mv_okP 142 := ok_X11_trail
theorem mv_ok_143 : mv_okP 143 := ok_X11_agrees
theorem mv_ok_144 : mv_okP 144 := ok_X11_quarrel
theorem mv_ok_145 : mv_okP 145 := ok_X11_getsOut
theorem mv_ok_146 : mv_okP 146 := ok_X11_watchers
theorem mv_ok_147 : mv_okP 147 := ok_X11_watch
theorem mv_ok_148 : mv_okP 148 := ok_X11_trait
theorem mv_ok_149 : mv_okP 149 := ok_X11_telling
theorem mv_ok_150 : mv_okP 150 := ok_X11_person
theorem mv_ok_151 : mv_okP 151 := ok_X11_unfit
theorem mv_ok_152 : mv_okP 152 := ok_X11_fits
theorem mv_ok_153 : mv_okP 153 := ok_X11_many
theorem mv_ok_154 : mv_okP 154 := ok_X11_suspects
theorem mv_ok_155 : mv_okP 155 := ok_X11_sign
theorem mv_ok_156 : mv_okP 156 := ok_X11_end
theorem mv_ok_157 : mv_okP 157 := ok_X11_isSign
theorem mv_ok_158 : mv_okP 158 := ok_X11_digits
theorem mv_ok_159 : mv_okP 159 := ok_X11_ask
theorem mv_ok_160 : mv_okP 160 := ok_X11_reads
theorem mv_ok_161 : mv_okP 161 := ok_X11_act
theorem mv_ok_162 : mv_okP 162 := ok_X11_repeal
theorem mv_ok_163 : mv_okP 163 := ok_X11_claim
theorem mv_ok_164 : mv_okP 164 := ok_X11_holds
theorem mv_ok_165 : mv_okP 165 := ok_X11_weightOf
theorem mv_ok_166 : mv_okP 166 := ok_X11_weight
theorem mv_ok_167 : mv_okP 167 := ok_X11_reward
theorem mv_ok_168 : mv_okP 168 := ok_X11_waive
theorem mv_ok_169 : mv_okP 169 := ok_X11_row
theorem mv_ok_170 : mv_okP 170 := ok_J6_numberOfTrailingZeros_0f7a4
set_option maxRecDepth 100000 in
theorem mv_oks : ∀ k, k < 171 → k ≠ 104 → mv_okP k := by
  have h : ∀ k ∈ [0, 1, 2, 3, 4, 5, 6, 7, 8, 9, 10, 11, 12, 13, 14, 15, 16, 17, 18, 19, 20, 21, 22, 23, 24, 25, 26, 27, 28, 29, 30, 31, 32, 33, 34, 35, 36, 37, 38, 39, 40, 41, 42, 43, 44, 45, 46, 47, 48, 49, 50, 51, 52, 53, 54, 55, 56, 57, 58, 59, 60, 61, 62, 63, 64, 65, 66, 67, 68, 69, 70, 71, 72, 73, 74, 75, 76, 77, 78, 79, 80, 81, 82, 83, 84, 85, 86, 87, 88, 89, 90, 91, 92, 93, 94, 95, 96, 97, 98, 99, 100, 101, 102, 103, 105, 106, 107, 108, 109, 110, 111, 112, 113, 114, 115, 116, 117, 118, 119, 120, 121, 122, 123, 124, 125, 126, 127, 128, 129, 130, 131, 132, 133, 134, 135, 136, 137, 138, 139, 140, 141, 142, 143, 144, 145, 146, 147, 148, 149, 150, 151, 152, 153, 154, 155, 156, 157, 158, 159, 160, 161, 162, 163, 164, 165, 166, 167, 168, 169, 170], mv_okP k := List.forall_mem_cons.mpr ⟨mv_ok_0, List.forall_mem_cons.mpr ⟨mv_ok_1, List.forall_mem_cons.mpr ⟨mv_ok_2, List.forall_mem_cons.mpr ⟨mv_ok_3, List.forall_mem_cons.mpr ⟨mv_ok_4, List.forall_mem_cons.mpr ⟨mv_ok_5, List.forall_mem_cons.mpr ⟨mv_ok_6, List.forall_mem_cons.mpr ⟨mv_ok_7, List.forall_mem_cons.mpr ⟨mv_ok_8, List.forall_mem_cons.mpr ⟨mv_ok_9, List.forall_mem_cons.mpr ⟨mv_ok_10, List.forall_mem_cons.mpr ⟨mv_ok_11, List.forall_mem_cons.mpr ⟨mv_ok_12, List.forall_mem_cons.mpr ⟨mv_ok_13, List.forall_mem_cons.mpr ⟨mv_ok_14, List.forall_mem_cons.mpr ⟨mv_ok_15, List.forall_mem_cons.mpr ⟨mv_ok_16, List.forall_mem_cons.mpr ⟨mv_ok_17, List.forall_mem_cons.mpr ⟨mv_ok_18, List.forall_mem_cons.mpr ⟨mv_ok_19, List.forall_mem_cons.mpr ⟨mv_ok_20, List.forall_mem_cons.mpr ⟨mv_ok_21, List.forall_mem_cons.mpr ⟨mv_ok_22, List.forall_mem_cons.mpr ⟨mv_ok_23, List.forall_mem_cons.mpr ⟨mv_ok_24, List.forall_mem_cons.mpr ⟨mv_ok_25, List.forall_mem_cons.mpr ⟨mv_ok_26, List.forall_mem_cons.mpr ⟨mv_ok_27, List.forall_mem_cons.mpr ⟨mv_ok_28, List.forall_mem_cons.mpr ⟨mv_ok_29, List.forall_mem_cons.mpr ⟨mv_ok_30, List.forall_mem_cons.mpr ⟨mv_ok_31, List.forall_mem_cons.mpr ⟨mv_ok_32, List.forall_mem_cons.mpr ⟨mv_ok_33, List.forall_mem_cons.mpr ⟨mv_ok_34, List.forall_mem_cons.mpr ⟨mv_ok_35, List.forall_mem_cons.mpr ⟨mv_ok_36, List.forall_mem_cons.mpr ⟨mv_ok_37, List.forall_mem_cons.mpr ⟨mv_ok_38, List.forall_mem_cons.mpr ⟨mv_ok_39, List.forall_mem_cons.mpr ⟨mv_ok_40, List.forall_mem_cons.mpr ⟨mv_ok_41, List.forall_mem_cons.mpr ⟨mv_ok_42, List.forall_mem_cons.mpr ⟨mv_ok_43, List.forall_mem_cons.mpr ⟨mv_ok_44, List.forall_mem_cons.mpr ⟨mv_ok_45, List.forall_mem_cons.mpr ⟨mv_ok_46, List.forall_mem_cons.mpr ⟨mv_ok_47, List.forall_mem_cons.mpr ⟨mv_ok_48, List.forall_mem_cons.mpr ⟨mv_ok_49, List.forall_mem_cons.mpr ⟨mv_ok_50, List.forall_mem_cons.mpr ⟨mv_ok_51, List.forall_mem_cons.mpr ⟨mv_ok_52, List.forall_mem_cons.mpr ⟨mv_ok_53, List.forall_mem_cons.mpr ⟨mv_ok_54, List.forall_mem_cons.mpr ⟨mv_ok_55, List.forall_mem_cons.mpr ⟨mv_ok_56, List.forall_mem_cons.mpr ⟨mv_ok_57, List.forall_mem_cons.mpr ⟨mv_ok_58, List.forall_mem_cons.mpr ⟨mv_ok_59, List.forall_mem_cons.mpr ⟨mv_ok_60, List.forall_mem_cons.mpr ⟨mv_ok_61, List.forall_mem_cons.mpr ⟨mv_ok_62, List.forall_mem_cons.mpr ⟨mv_ok_63, List.forall_mem_cons.mpr ⟨mv_ok_64, List.forall_mem_cons.mpr ⟨mv_ok_65, List.forall_mem_cons.mpr ⟨mv_ok_66, List.forall_mem_cons.mpr ⟨mv_ok_67, List.forall_mem_cons.mpr ⟨mv_ok_68, List.forall_mem_cons.mpr ⟨mv_ok_69, List.forall_mem_cons.mpr ⟨mv_ok_70, List.forall_mem_cons.mpr ⟨mv_ok_71, List.forall_mem_cons.mpr ⟨mv_ok_72, List.forall_mem_cons.mpr ⟨mv_ok_73, List.forall_mem_cons.mpr ⟨mv_ok_74, List.forall_mem_cons.mpr ⟨mv_ok_75, List.forall_mem_cons.mpr ⟨mv_ok_76, List.forall_mem_cons.mpr ⟨mv_ok_77, List.forall_mem_cons.mpr ⟨mv_ok_78, List.forall_mem_cons.mpr ⟨mv_ok_79, List.forall_mem_cons.mpr ⟨mv_ok_80, List.forall_mem_cons.mpr ⟨mv_ok_81, List.forall_mem_cons.mpr ⟨mv_ok_82, List.forall_mem_cons.mpr ⟨mv_ok_83, List.forall_mem_cons.mpr ⟨mv_ok_84, List.forall_mem_cons.mpr ⟨mv_ok_85, List.forall_mem_cons.mpr ⟨mv_ok_86, List.forall_mem_cons.mpr ⟨mv_ok_87, List.forall_mem_cons.mpr ⟨mv_ok_88, List.forall_mem_cons.mpr ⟨mv_ok_89, List.forall_mem_cons.mpr ⟨mv_ok_90, List.forall_mem_cons.mpr ⟨mv_ok_91, List.forall_mem_cons.mpr ⟨mv_ok_92, List.forall_mem_cons.mpr ⟨mv_ok_93, List.forall_mem_cons.mpr ⟨mv_ok_94, List.forall_mem_cons.mpr ⟨mv_ok_95, List.forall_mem_cons.mpr ⟨mv_ok_96, List.forall_mem_cons.mpr ⟨mv_ok_97, List.forall_mem_cons.mpr ⟨mv_ok_98, List.forall_mem_cons.mpr ⟨mv_ok_99, List.forall_mem_cons.mpr ⟨mv_ok_100, List.forall_mem_cons.mpr ⟨mv_ok_101, List.forall_mem_cons.mpr ⟨mv_ok_102, List.forall_mem_cons.mpr ⟨mv_ok_103, List.forall_mem_cons.mpr ⟨mv_ok_105, List.forall_mem_cons.mpr ⟨mv_ok_106, List.forall_mem_cons.mpr ⟨mv_ok_107, List.forall_mem_cons.mpr ⟨mv_ok_108, List.forall_mem_cons.mpr ⟨mv_ok_109, List.forall_mem_cons.mpr ⟨mv_ok_110, List.forall_mem_cons.mpr ⟨mv_ok_111, List.forall_mem_cons.mpr ⟨mv_ok_112, List.forall_mem_cons.mpr ⟨mv_ok_113, List.forall_mem_cons.mpr ⟨mv_ok_114, List.forall_mem_cons.mpr ⟨mv_ok_115, List.forall_mem_cons.mpr ⟨mv_ok_116, List.forall_mem_cons.mpr ⟨mv_ok_117, List.forall_mem_cons.mpr ⟨mv_ok_118, List.forall_mem_cons.mpr ⟨mv_ok_119, List.forall_mem_cons.mpr ⟨mv_ok_120, List.forall_mem_cons.mpr ⟨mv_ok_121, List.forall_mem_cons.mpr ⟨mv_ok_122, List.forall_mem_cons.mpr ⟨mv_ok_123, List.forall_mem_cons.mpr ⟨mv_ok_124, List.forall_mem_cons.mpr ⟨mv_ok_125, List.forall_mem_cons.mpr ⟨mv_ok_126, List.forall_mem_cons.mpr ⟨mv_ok_127, List.forall_mem_cons.mpr ⟨mv_ok_128, List.forall_mem_cons.mpr ⟨mv_ok_129, List.forall_mem_cons.mpr ⟨mv_ok_130, List.forall_mem_cons.mpr ⟨mv_ok_131, List.forall_mem_cons.mpr ⟨mv_ok_132, List.forall_mem_cons.mpr ⟨mv_ok_133, List.forall_mem_cons.mpr ⟨mv_ok_134, List.forall_mem_cons.mpr ⟨mv_ok_135, List.forall_mem_cons.mpr ⟨mv_ok_136, List.forall_mem_cons.mpr ⟨mv_ok_137, List.forall_mem_cons.mpr ⟨mv_ok_138, List.forall_mem_cons.mpr ⟨mv_ok_139, List.forall_mem_cons.mpr ⟨mv_ok_140, List.forall_mem_cons.mpr ⟨mv_ok_141, List.forall_mem_cons.mpr ⟨mv_ok_142, List.forall_mem_cons.mpr ⟨mv_ok_143, List.forall_mem_cons.mpr ⟨mv_ok_144, List.forall_mem_cons.mpr ⟨mv_ok_145, List.forall_mem_cons.mpr ⟨mv_ok_146, List.forall_mem_cons.mpr ⟨mv_ok_147, List.forall_mem_cons.mpr ⟨mv_ok_148, List.forall_mem_cons.mpr ⟨mv_ok_149, List.forall_mem_cons.mpr ⟨mv_ok_150, List.forall_mem_cons.mpr ⟨mv_ok_151, List.forall_mem_cons.mpr ⟨mv_ok_152, List.forall_mem_cons.mpr ⟨mv_ok_153, List.forall_mem_cons.mpr ⟨mv_ok_154, List.forall_mem_cons.mpr ⟨mv_ok_155, List.forall_mem_cons.mpr ⟨mv_ok_156, List.forall_mem_cons.mpr ⟨mv_ok_157, List.forall_mem_cons.mpr ⟨mv_ok_158, List.forall_mem_cons.mpr ⟨mv_ok_159, List.forall_mem_cons.mpr ⟨mv_ok_160, List.forall_mem_cons.mpr ⟨mv_ok_161, List.forall_mem_cons.mpr ⟨mv_ok_162, List.forall_mem_cons.mpr ⟨mv_ok_163, List.forall_mem_cons.mpr ⟨mv_ok_164, List.forall_mem_cons.mpr ⟨mv_ok_165, List.forall_mem_cons.mpr ⟨mv_ok_166, List.forall_mem_cons.mpr ⟨mv_ok_167, List.forall_mem_cons.mpr ⟨mv_ok_168, List.forall_mem_cons.mpr ⟨mv_ok_169, List.forall_mem_cons.mpr ⟨mv_ok_170, fun _ h => absurd h List.not_mem_nil⟩⟩⟩⟩⟩⟩⟩⟩⟩⟩⟩⟩⟩⟩⟩⟩⟩⟩⟩⟩⟩⟩⟩⟩⟩⟩⟩⟩⟩⟩⟩⟩⟩⟩⟩⟩⟩⟩⟩⟩⟩⟩⟩⟩⟩⟩⟩⟩⟩⟩⟩⟩⟩⟩⟩⟩⟩⟩⟩⟩⟩⟩⟩⟩⟩⟩⟩⟩⟩⟩⟩⟩⟩⟩⟩⟩⟩⟩⟩⟩⟩⟩⟩⟩⟩⟩⟩⟩⟩⟩⟩⟩⟩⟩⟩⟩⟩⟩⟩⟩⟩⟩⟩⟩⟩⟩⟩⟩⟩⟩⟩⟩⟩⟩⟩⟩⟩⟩⟩⟩⟩⟩⟩⟩⟩⟩⟩⟩⟩⟩⟩⟩⟩⟩⟩⟩⟩⟩⟩⟩⟩⟩⟩⟩⟩⟩⟩⟩⟩⟩⟩⟩⟩⟩⟩⟩⟩⟩⟩⟩⟩⟩⟩⟩⟩⟩⟩⟩⟩⟩
  have h2 : ∀ k, k < 171 → k ≠ 104 → k ∈ [0, 1, 2, 3, 4, 5, 6, 7, 8, 9, 10, 11, 12, 13, 14, 15, 16, 17, 18, 19, 20, 21, 22, 23, 24, 25, 26, 27, 28, 29, 30, 31, 32, 33, 34, 35, 36, 37, 38, 39, 40, 41, 42, 43, 44, 45, 46, 47, 48, 49, 50, 51, 52, 53, 54, 55, 56, 57, 58, 59, 60, 61, 62, 63, 64, 65, 66, 67, 68, 69, 70, 71, 72, 73, 74, 75, 76, 77, 78, 79, 80, 81, 82, 83, 84, 85, 86, 87, 88, 89, 90, 91, 92, 93, 94, 95, 96, 97, 98, 99, 100, 101, 102, 103, 105, 106, 107, 108, 109, 110, 111, 112, 113, 114, 115, 116, 117, 118, 119, 120, 121, 122, 123, 124, 125, 126, 127, 128, 129, 130, 131, 132, 133, 134, 135, 136, 137, 138, 139, 140, 141, 142, 143, 144, 145, 146, 147, 148, 149, 150, 151, 152, 153, 154, 155, 156, 157, 158, 159, 160, 161, 162, 163, 164, 165, 166, 167, 168, 169, 170] := by decide +kernel
  exact fun k hk hk2 => h k (h2 k hk hk2)
theorem mv_lr {rt : Option FieldType} {x y : Option FieldType} (h : x = rt) (h2 : rt = y) : x = y := h.trans h2
section MVR
variable {p : Program} {l : Launch} {e : Env} {R : Room} {s : State} {m : MethodId} {args : Array Value} {below : List Frame} {meth : Method} {c : Code} {D : va_G} {ad adV cK : Nat → Nat} {A : Nat → Prop} {own : Nat} {ini : Bool} {cc : ByteArray} {P : List (Nat × mv_I)} {nL nM sM d : Nat} {rt : Option FieldType} {Rn : Nat → List Value → mv_S → Option Value → mv_S → Prop} {r0 : Option Value} {Se S0 : mv_S}
theorem mv_s_ireturn (X : mv_Cx p R s m args meth c D ad adV cK A own ini cc P nL Se.1 Se.1 Se.2.1 0 0 nM sM d) (hr : meth.sig.returnType = rt) (hlocks : meth.locks = false) (hAe : A = va_A (mv_ws ad cK Se) s.heap.size) : mv_R_ireturn P rt Rn nM sM r0 S0 (mv_V p l e R s m args below meth c (MQ below (mv_QC D ad cK s.heap.size Se r0 S0) args s (S0.1 - Se.1 + 0) (S0.2.1 - Se.2.1 + 0) A) D ad cK A nL Se.1 Se.1 Se.2.1 0 0 nM sM) := by
  obtain ⟨hx, hb, hml, hown, hts, hN, hK, hA, hok, had, hin, hT, hRc, hRs, hRf, hRl, hnn, hAO⟩ := X
  intro pc nx a b v ls st S x h g0 g1 g2 H locs la hP hD hS hz hn hs hM hM2 hl
  obtain ⟨hd, rfl⟩ := mv_dec hok h 1 rfl rfl
  have hz := hz rfl
  subst g1; subst g2
  rcases g0 with rfl | ⟨rfl, g0⟩
  · exact W.iret hx hb hr (fun t ht hW => ⟨rfl, by rw [ht]; exact hP, by rw [← hAe]; exact hD, by rw [ht]; omega, by rw [← hAe]; exact hS.F ht⟩) hS.2.2 hd
  · exact W.zret hx hb hr (mv_nb g0) (fun t ht hW => ⟨rfl, by rw [ht]; exact hP, by rw [← hAe]; exact hD, by rw [ht]; omega, by rw [← hAe]; exact hS.F ht⟩) hS.2.2 hd
theorem mv_s_lreturn (X : mv_Cx p R s m args meth c D ad adV cK A own ini cc P nL Se.1 Se.1 Se.2.1 0 0 nM sM d) (hr : meth.sig.returnType = rt) (hlocks : meth.locks = false) (hAe : A = va_A (mv_ws ad cK Se) s.heap.size) : mv_R_lreturn P rt Rn nM sM r0 S0 (mv_V p l e R s m args below meth c (MQ below (mv_QC D ad cK s.heap.size Se r0 S0) args s (S0.1 - Se.1 + 0) (S0.2.1 - Se.2.1 + 0) A) D ad cK A nL Se.1 Se.1 Se.2.1 0 0 nM sM) := by
  obtain ⟨hx, hb, hml, hown, hts, hN, hK, hA, hok, had, hin, hT, hRc, hRs, hRf, hRl, hnn, hAO⟩ := X
  intro pc nx a b v ls st S x h g0 g1 g2 H locs la hP hD hS hz hn hs hM hM2 hl
  obtain ⟨hd, rfl⟩ := mv_dec hok h 1 rfl rfl
  have hz := hz rfl
  subst g0; subst g1; subst g2
  exact W.lret hx hb hr (fun t ht hW => ⟨rfl, by rw [ht]; exact hP, by rw [← hAe]; exact hD, by rw [ht]; omega, by rw [← hAe]; exact hS.F ht⟩) hS.2.2 hd
theorem mv_s_return_ (X : mv_Cx p R s m args meth c D ad adV cK A own ini cc P nL Se.1 Se.1 Se.2.1 0 0 nM sM d) (hr : meth.sig.returnType = rt) (hlocks : meth.locks = false) (hAe : A = va_A (mv_ws ad cK Se) s.heap.size) : mv_R_return_ P rt Rn nM sM r0 S0 (mv_V p l e R s m args below meth c (MQ below (mv_QC D ad cK s.heap.size Se r0 S0) args s (S0.1 - Se.1 + 0) (S0.2.1 - Se.2.1 + 0) A) D ad cK A nL Se.1 Se.1 Se.2.1 0 0 nM sM) := by
  obtain ⟨hx, hb, hml, hown, hts, hN, hK, hA, hok, had, hin, hT, hRc, hRs, hRf, hRl, hnn, hAO⟩ := X
  intro pc nx a b v ls st S h g0 g1 g2 H locs la hP hD hS hz hn hs hM hM2 hl
  obtain ⟨hd, rfl⟩ := mv_dec hok h 1 rfl rfl
  have hz := hz rfl
  subst g0; subst g1; subst g2
  exact W.vret hx hb hr (fun t ht hW => ⟨rfl, by rw [ht]; exact hP, by rw [← hAe]; exact hD, by rw [ht]; omega, by rw [← hAe]; exact hS.F ht⟩) hS.2.2 hd
theorem mv_closed (X : mv_Cx p R s m args meth c D ad adV cK A own ini cc P nL Se.1 Se.1 Se.2.1 0 0 nM sM d) (hRn : ∀ y as S r S1, S.1 ≤ S1.1 → S.2.1 ≤ S1.2.1 → Rn y as S r S1 → mv_Met l d y as S r S1) (hr : meth.sig.returnType = rt) (hlocks : meth.locks = false) (hAe : A = va_A (mv_ws ad cK Se) s.heap.size) (hix : mv_R_ixof P rt Rn nM sM r0 S0 (mv_V p l e R s m args below meth c (MQ below (mv_QC D ad cK s.heap.size Se r0 S0) args s (S0.1 - Se.1 + 0) (S0.2.1 - Se.2.1 + 0) A) D ad cK A nL Se.1 Se.1 Se.2.1 0 0 nM sM)) : mv_Clo P rt Rn nM sM r0 S0 (mv_V p l e R s m args below meth c (MQ below (mv_QC D ad cK s.heap.size Se r0 S0) args s (S0.1 - Se.1 + 0) (S0.2.1 - Se.2.1 + 0) A) D ad cK A nL Se.1 Se.1 Se.2.1 0 0 nM sM) :=
  ⟨mv_s_iload_n X, mv_s_iload X, mv_s_aload_n X, mv_s_aload X, mv_s_lload_n X, mv_s_lload X, mv_s_istore_n X, mv_s_istore X, mv_s_astore_n X, mv_s_astore X, mv_s_lstore_n X, mv_s_lstore X, mv_s_iinc X, mv_s_iconst X, mv_s_bipush X, mv_s_sipush X, mv_s_ldc X, mv_s_ldc_w X, mv_s_lconst X, mv_s_ldc2_w X, mv_s_iadd X, mv_s_isub X, mv_s_imul X, mv_s_iand X, mv_s_ior X, mv_s_ixor X, mv_s_ishl X, mv_s_ishr X, mv_s_iushr X, mv_s_idiv X, mv_s_irem X, mv_s_ladd X, mv_s_lsub X, mv_s_lmul X, mv_s_land X, mv_s_lor X, mv_s_ldiv X, mv_s_lshl X, mv_s_lcmp X, mv_s_i2l X, mv_s_l2i X, mv_s_ineg X, mv_s_dup X, mv_s_dup2 X, mv_s_pop X, mv_s_goto X, mv_s_if_eq X, mv_s_if_ne X, mv_s_if_lt X, mv_s_if_ge X, mv_s_if_gt X, mv_s_if_le X, mv_s_icmp_eq X, mv_s_icmp_ne X, mv_s_icmp_lt X, mv_s_icmp_ge X, mv_s_icmp_gt X, mv_s_icmp_le X, mv_s_tsw_out X, mv_s_tsw_in X, mv_s_lsw X, mv_s_getfield X, mv_s_putfield X, mv_s_iaload X, mv_s_baload X, mv_s_laload X, mv_s_aaload X, mv_s_iastore X, mv_s_bastore X, mv_s_lastore X, mv_s_aastore X, mv_s_new X, mv_s_new_int X, mv_s_new_boolean X, mv_s_new_long X, mv_s_anew X, mv_s_obj X, mv_s_mmin X, mv_s_mmax X, mv_s_mabs X, hix, mv_s_callV X hRn, mv_s_callS X hRn, mv_s_callI X hRn, mv_s_ireturn X hr hlocks hAe, mv_s_lreturn X hr hlocks hAe, mv_s_return_ X hr hlocks hAe, mv_s_forget⟩
end MVR

theorem mv_sound (l : Launch) (hix : ∀ (p : Program) (e : Env) (R : Room) (s : State) (m : MethodId) (args : Array Value) (below : List Frame) (meth : Method) (c : Code) (Q : State → Prop) (D : va_G) (ad adV cK : Nat → Nat) (A : Nat → Prop) (own : Nat) (ini : Bool) (cc : ByteArray) (P : List (Nat × mv_I)) (nL n0 n1 s0 kx ks nM sM d : Nat) (rt : Option FieldType) (Rn : Nat → List Value → mv_S → Option Value → mv_S → Prop) (r0 : Option Value) (S0 : mv_S), mv_Cx p R s m args meth c D ad adV cK A own ini cc P nL n0 n1 s0 kx ks nM sM d → mv_R_ixof P rt Rn nM sM r0 S0 (mv_V p l e R s m args below meth c Q D ad cK A nL n0 n1 s0 kx ks nM sM)) :
    ∀ (d y : Nat) (as : List Value) (S : mv_S) (r : Option Value) (S1 : mv_S), S.1 ≤ S1.1 → S.2.1 ≤ S1.2.1 → mv_Runs d y as S r S1 → mv_Met l d y as S r S1 := by
  intro d
  induction d with
  | zero => intro y as S r S1 _ _ h; exact absurd h id
  | succ d ih =>
    intro y as S r S1 h1 h2 h D ad adV cK sz
    obtain ⟨ho, h⟩ := h
    simp only [Bool.and_eq_true, Bool.not_eq_true'] at ho
    obtain ⟨hy, hy2, hlen⟩ := ho
    have hy : y < 171 := by simpa using hy
    have hy2 : y ≠ 104 := by intro e; subst e; cases hy2
    have hlen : (mv_sl as).length ≤ (mv_m y).2.2.1 := Nat.le_of_ble_eq_true hlen
    refine Met.ofW (cc := (mv_m y).2.1) (maxL := (mv_m y).2.2.1) (ret := (mv_m y).2.2.2.1) (mv_pn hy).1 rfl ?_
    intro p e s m args below meth c s₁ B hml hv
    obtain ⟨hae, hsz, hP, hK, hD0, hN, hAO, hT, had⟩ := hv
    subst hsz
    have hx := B.exec
    have hb := B.bytes
    have hr := B.returns
    have hts : ∀ w ∈ mv_TB, w.before args s = true := fun w hw => atoms_spec (ws := mv_wy y) B.pre w (List.mem_cons_of_mem _ hw)
    have hown : s.vm.findClass (mv_own (mv_m y).2.2.2.2.2.2.1) = some m.cls := by rw [(mv_pn hy).2]; exact findClass_of_methodNamed B.named
    have hlocks := B.notSynchronized
    have hin : mv_in.getD y false = true → meth.name = "<init>" := fun h9 => by
      have := (name_of_methodNamed B.named B.method).1
      rw [this]; exact mv_ini_nm hy h9
    have hD := hD0.self (sz := s.heap.size)
    have hA : ∀ q : Nat, s.heap.size ≤ q → va_A (mv_ws ad cK S) s.heap.size q := fun q h => Or.inr h
    have X : mv_Cx p (mv_rm (d + 1) (S1.1 - S.1) (S1.2.1 - S.2.1)) s m args meth c D ad adV cK (va_A (mv_ws ad cK S) s.heap.size) (mv_m y).2.2.2.2.2.2.1 (mv_in.getD y false) (mv_m y).2.1 (mv_m y).2.2.2.2.2.2.2 (mv_m y).2.2.1 S.1 S.1 S.2.1 0 0 S1.1 S1.2.1 d :=
      ⟨hx, hb, hml, hown, hts, hN, hK, hA, mv_oks y hy hy2, fun k a1 a2 => ⟨rfl, had k a1 a2⟩, hin, hT, Nat.le_refl _, Nat.le_refl _, by simp only [mv_rm]; omega, by simp only [mv_rm]; omega, Nat.le_refl _, hAO⟩
    have hV := h _ (mv_closed (l := l) (e := e) (below := below) (rt := (mv_m y).2.2.2.1) (Rn := mv_Runs d) (r0 := r) (Se := S) (S0 := S1) X ih hr hlocks rfl (hix p e _ s m args below meth c _ D ad adV cK _ _ _ _ _ _ _ _ _ _ _ _ _ _ _ _ _ _ X))
    have hl := mv_entry ad as (mv_m y).2.2.1 hlen
    rw [hae, lg_entry_eq]
    have := hV s.heap [] _ hP hD va_S.rf (fun _ => by omega) (Nat.le_refl _) (Nat.le_refl _) h1 h2 hl
    simp only [Nat.sub_self, Nat.zero_add, Nat.add_zero] at this
    rw [hae] at this
    exact this
