theorem uT_in3 {w : Cond} {L : List Cond} (hL : ∀ x ∈ L, x ∈ lw_tbl) (i : Nat) (h : L[i]? = some w) (g : goodWord w = true) : w ∈ uT := List.mem_filter.mpr ⟨hL w (List.mem_of_getElem? h), g⟩
theorem tb_0 : ∀ x ∈ k2_sels lw_privs, x ∈ lw_tbl := fun x h => List.mem_append_left _ h
theorem tb_a1 : ∀ x ∈ tables_1, x ∈ lw_tbl := fun x h => List.mem_append_right _ h
theorem tb_1 : ∀ x ∈ tables_1_1, x ∈ lw_tbl := fun x h => tb_a1 x (List.mem_append_left _ h)
theorem tb_a2 : ∀ x ∈ tables_1_2 ++ (tables_1_3 ++ (tables_1_4 ++ (tables_1_5 ++ (tables_1_6 ++ (tables_1_7 ++ (tables_1_8 ++ (tables_1_9))))))), x ∈ lw_tbl := fun x h => tb_a1 x (List.mem_append_right _ h)
theorem tb_2 : ∀ x ∈ tables_1_2, x ∈ lw_tbl := fun x h => tb_a2 x (List.mem_append_left _ h)
theorem tb_a3 : ∀ x ∈ tables_1_3 ++ (tables_1_4 ++ (tables_1_5 ++ (tables_1_6 ++ (tables_1_7 ++ (tables_1_8 ++ (tables_1_9)))))), x ∈ lw_tbl := fun x h => tb_a2 x (List.mem_append_right _ h)
theorem tb_3 : ∀ x ∈ tables_1_3, x ∈ lw_tbl := fun x h => tb_a3 x (List.mem_append_left _ h)
theorem tb_a4 : ∀ x ∈ tables_1_4 ++ (tables_1_5 ++ (tables_1_6 ++ (tables_1_7 ++ (tables_1_8 ++ (tables_1_9))))), x ∈ lw_tbl := fun x h => tb_a3 x (List.mem_append_right _ h)
theorem tb_4 : ∀ x ∈ tables_1_4, x ∈ lw_tbl := fun x h => tb_a4 x (List.mem_append_left _ h)
theorem tb_a5 : ∀ x ∈ tables_1_5 ++ (tables_1_6 ++ (tables_1_7 ++ (tables_1_8 ++ (tables_1_9)))), x ∈ lw_tbl := fun x h => tb_a4 x (List.mem_append_right _ h)
theorem tb_5 : ∀ x ∈ tables_1_5, x ∈ lw_tbl := fun x h => tb_a5 x (List.mem_append_left _ h)
theorem tb_a6 : ∀ x ∈ tables_1_6 ++ (tables_1_7 ++ (tables_1_8 ++ (tables_1_9))), x ∈ lw_tbl := fun x h => tb_a5 x (List.mem_append_right _ h)
theorem tb_6 : ∀ x ∈ tables_1_6, x ∈ lw_tbl := fun x h => tb_a6 x (List.mem_append_left _ h)
theorem tb_a7 : ∀ x ∈ tables_1_7 ++ (tables_1_8 ++ (tables_1_9)), x ∈ lw_tbl := fun x h => tb_a6 x (List.mem_append_right _ h)
theorem tb_7 : ∀ x ∈ tables_1_7, x ∈ lw_tbl := fun x h => tb_a7 x (List.mem_append_left _ h)
theorem tb_a8 : ∀ x ∈ tables_1_8 ++ (tables_1_9), x ∈ lw_tbl := fun x h => tb_a7 x (List.mem_append_right _ h)
theorem tb_8 : ∀ x ∈ tables_1_8, x ∈ lw_tbl := fun x h => tb_a8 x (List.mem_append_left _ h)
theorem tb_a9 : ∀ x ∈ tables_1_9, x ∈ lw_tbl := fun x h => tb_a8 x (List.mem_append_right _ h)
theorem tb_9 : ∀ x ∈ tables_1_9, x ∈ lw_tbl := tb_a9

set_option maxRecDepth 20000 in
theorem kw_0 : Cond.selects RX11 yX11_deny yX11_deny ∈ uT := uT_in3 tb_0 0 rfl rfl
set_option maxRecDepth 20000 in
theorem kw_1 : Cond.selects RX11 yX11_allow yX11_allow ∈ uT := uT_in3 tb_0 1 rfl rfl
set_option maxRecDepth 20000 in
theorem kw_2 : Cond.selects RX11 yX11_placeReason yX11_placeReason ∈ uT := uT_in3 tb_0 2 rfl rfl
set_option maxRecDepth 20000 in
theorem kw_3 : Cond.selects RX10 yX10_cut yX10_cut ∈ uT := uT_in3 tb_0 3 rfl rfl
set_option maxRecDepth 20000 in
theorem kw_4 : Cond.selects RX11 yX11_refuse yX11_refuse ∈ uT := uT_in3 tb_0 4 rfl rfl
set_option maxRecDepth 20000 in
theorem kw_5 : Cond.selects RX8 yX8_readSound yX8_readSound ∈ uT := uT_in3 tb_0 5 rfl rfl
set_option maxRecDepth 20000 in
theorem kw_6 : Cond.selects RX8 yX8_takeNewName yX8_takeNewName ∈ uT := uT_in3 tb_0 6 rfl rfl
set_option maxRecDepth 20000 in
theorem kw_7 : Cond.selects RX8 yX8_findName yX8_findName ∈ uT := uT_in3 tb_0 7 rfl rfl
set_option maxRecDepth 20000 in
theorem kw_8 : Cond.selects RX8 yX8_takeLetters yX8_takeLetters ∈ uT := uT_in3 tb_0 8 rfl rfl
set_option maxRecDepth 20000 in
theorem kw_9 : Cond.selects RX8 yX8_readJar yX8_readJar ∈ uT := uT_in3 tb_0 9 rfl rfl
set_option maxRecDepth 20000 in
theorem kw_10 : Cond.selects RX8 yX8_takeSide yX8_takeSide ∈ uT := uT_in3 tb_0 10 rfl rfl
set_option maxRecDepth 20000 in
theorem kw_11 : Cond.selects RX8 yX8_readFill yX8_readFill ∈ uT := uT_in3 tb_0 11 rfl rfl
set_option maxRecDepth 20000 in
theorem kw_12 : Cond.selects RX8 yX8_takeToldName yX8_takeToldName ∈ uT := uT_in3 tb_0 12 rfl rfl
set_option maxRecDepth 20000 in
theorem kw_13 : Cond.selects RX11 yX11_answer yX11_answer ∈ uT := uT_in3 tb_0 13 rfl rfl
set_option maxRecDepth 20000 in
theorem kw_14 : Cond.selects RX2 yX2_readRule yX2_readRule ∈ uT := uT_in3 tb_0 14 rfl rfl
set_option maxRecDepth 20000 in
theorem kw_15 : Cond.selects RX2 yX2_takeKind yX2_takeKind ∈ uT := uT_in3 tb_0 15 rfl rfl
set_option maxRecDepth 20000 in
theorem kw_16 : Cond.selects RX2 yX2_takeLetterOrRest yX2_takeLetterOrRest ∈ uT := uT_in3 tb_0 16 rfl rfl
set_option maxRecDepth 20000 in
theorem kw_17 : Cond.selects RX2 yX2_takeGift yX2_takeGift ∈ uT := uT_in3 tb_0 17 rfl rfl
set_option maxRecDepth 20000 in
theorem kw_18 : Cond.selects RX11 yX11_isSound yX11_isSound ∈ uT := uT_in3 tb_0 18 rfl rfl
set_option maxRecDepth 20000 in
theorem kw_19 : Cond.selects RX11 yX11_answerAt yX11_answerAt ∈ uT := uT_in3 tb_0 19 rfl rfl
set_option maxRecDepth 20000 in
theorem kw_20 : Cond.selects RX11 yX11_isJar yX11_isJar ∈ uT := uT_in3 tb_0 20 rfl rfl
set_option maxRecDepth 20000 in
theorem kw_21 : Cond.selects RX11 yX11_hear yX11_hear ∈ uT := uT_in3 tb_0 21 rfl rfl
set_option maxRecDepth 20000 in
theorem kw_22 : Cond.selects RX11 yX11_bring yX11_bring ∈ uT := uT_in3 tb_0 22 rfl rfl
set_option maxRecDepth 20000 in
theorem kw_23 : Cond.selects RX11 yX11_answerOrNoSuch yX11_answerOrNoSuch ∈ uT := uT_in3 tb_0 23 rfl rfl
set_option maxRecDepth 20000 in
theorem kw_24 : Cond.selects RX11 yX11_mixRows yX11_mixRows ∈ uT := uT_in3 tb_0 24 rfl rfl
set_option maxRecDepth 20000 in
theorem kw_25 : Cond.selects RX11 yX11_rowReason yX11_rowReason ∈ uT := uT_in3 tb_0 25 rfl rfl
set_option maxRecDepth 20000 in
theorem kw_26 : Cond.selects RX11 yX11_countCouples yX11_countCouples ∈ uT := uT_in3 tb_0 26 rfl rfl
set_option maxRecDepth 20000 in
theorem kw_27 : Cond.selects RX11 yX11_isJarSet yX11_isJarSet ∈ uT := uT_in3 tb_0 27 rfl rfl
set_option maxRecDepth 20000 in
theorem kw_28 : Cond.selects RX11 yX11_speakers yX11_speakers ∈ uT := uT_in3 tb_0 28 rfl rfl
set_option maxRecDepth 20000 in
theorem kw_29 : Cond.selects RX6 yX6_tailIsHead yX6_tailIsHead ∈ uT := uT_in3 tb_0 29 rfl rfl
set_option maxRecDepth 20000 in
theorem kw_30 : Cond.selects RX4 yX4_measureOverlaps yX4_measureOverlaps ∈ uT := uT_in3 tb_0 30 rfl rfl
set_option maxRecDepth 20000 in
theorem kw_31 : Cond.selects RX4 yX4_measureRests yX4_measureRests ∈ uT := uT_in3 tb_0 31 rfl rfl
set_option maxRecDepth 20000 in
theorem kw_32 : Cond.selects RX4 yX4_restWith yX4_restWith ∈ uT := uT_in3 tb_0 32 rfl rfl
set_option maxRecDepth 20000 in
theorem kw_33 : Cond.selects RX4 yX4_openFirsts yX4_openFirsts ∈ uT := uT_in3 tb_0 33 rfl rfl
set_option maxRecDepth 20000 in
theorem kw_34 : Cond.selects RX4 yX4_addOpen yX4_addOpen ∈ uT := uT_in3 tb_0 34 rfl rfl
set_option maxRecDepth 20000 in
theorem kw_35 : Cond.selects RX4 yX4_leastLetter yX4_leastLetter ∈ uT := uT_in3 tb_0 35 rfl rfl
set_option maxRecDepth 20000 in
theorem kw_36 : Cond.selects RX4 yX4_letterOf yX4_letterOf ∈ uT := uT_in3 tb_0 36 rfl rfl
set_option maxRecDepth 20000 in
theorem kw_37 : Cond.selects RX4 yX4_placeIn yX4_placeIn ∈ uT := uT_in3 tb_0 37 rfl rfl
set_option maxRecDepth 20000 in
theorem kw_38 : Cond.selects RX4 yX4_follow yX4_follow ∈ uT := uT_in3 tb_0 38 rfl rfl
set_option maxRecDepth 20000 in
theorem kw_39 : Cond.selects RX4 yX4_addNexts yX4_addNexts ∈ uT := uT_in3 tb_0 39 rfl rfl
set_option maxRecDepth 20000 in
theorem kw_40 : Cond.selects RX11 yX11_followers yX11_followers ∈ uT := uT_in3 tb_0 40 rfl rfl
set_option maxRecDepth 20000 in
theorem kw_41 : Cond.selects RX5 yX5_bestLink yX5_bestLink ∈ uT := uT_in3 tb_0 41 rfl rfl
set_option maxRecDepth 20000 in
theorem kw_42 : Cond.selects RX5 yX5_lengthWith yX5_lengthWith ∈ uT := uT_in3 tb_0 42 rfl rfl
set_option maxRecDepth 20000 in
theorem kw_43 : Cond.selects RX11 yX11_leastWitness yX11_leastWitness ∈ uT := uT_in3 tb_0 43 rfl rfl
set_option maxRecDepth 20000 in
theorem kw_44 : Cond.selects RX11 yX11_fitsCounted yX11_fitsCounted ∈ uT := uT_in3 tb_0 44 rfl rfl
set_option maxRecDepth 20000 in
theorem kw_45 : Cond.selects RX11 yX11_bestFilling yX11_bestFilling ∈ uT := uT_in3 tb_0 45 rfl rfl
set_option maxRecDepth 20000 in
theorem kw_46 : Cond.selects RX7 yX7_keptBy yX7_keptBy ∈ uT := uT_in3 tb_0 46 rfl rfl
set_option maxRecDepth 20000 in
theorem kw_47 : Cond.selects RX5 yX5_bestOpening yX5_bestOpening ∈ uT := uT_in3 tb_0 47 rfl rfl
set_option maxRecDepth 20000 in
theorem kw_48 : Cond.selects RX5 yX5_gainWith yX5_gainWith ∈ uT := uT_in3 tb_0 48 rfl rfl
set_option maxRecDepth 20000 in
theorem kw_49 : Cond.selects RX11 yX11_leastPiecing yX11_leastPiecing ∈ uT := uT_in3 tb_0 49 rfl rfl
set_option maxRecDepth 20000 in
theorem kw_50 : Cond.selects RX11 yX11_longestPiece yX11_longestPiece ∈ uT := uT_in3 tb_0 50 rfl rfl
set_option maxRecDepth 20000 in
theorem kw_51 : Cond.selects RX11 yX11_tellFraction yX11_tellFraction ∈ uT := uT_in3 tb_0 51 rfl rfl
set_option maxRecDepth 20000 in
theorem kw_52 : Cond.selects RX11 yX11_threeReason yX11_threeReason ∈ uT := uT_in3 tb_0 52 rfl rfl
set_option maxRecDepth 20000 in
theorem kw_53 : Cond.selects RX12 yX12_no yX12_no ∈ uT := uT_in3 tb_0 53 rfl rfl
set_option maxRecDepth 20000 in
theorem kw_54 : Cond.selects RX12 yX12_placed yX12_placed ∈ uT := uT_in3 tb_0 54 rfl rfl
set_option maxRecDepth 20000 in
theorem kw_55 : Cond.selects RX12 yX12_trayed yX12_trayed ∈ uT := uT_in3 tb_0 55 rfl rfl
set_option maxRecDepth 20000 in
theorem kw_56 : Cond.selects RX12 yX12_lay yX12_lay ∈ uT := uT_in3 tb_0 56 rfl rfl
set_option maxRecDepth 20000 in
theorem kw_57 : Cond.selects RX12 yX12_opens yX12_opens ∈ uT := uT_in3 tb_0 57 rfl rfl
set_option maxRecDepth 20000 in
theorem kw_58 : Cond.selects RX12 yX12_next yX12_next ∈ uT := uT_in3 tb_0 58 rfl rfl
set_option maxRecDepth 20000 in
theorem kw_59 : Cond.selects RX12 yX12_look2 yX12_look2 ∈ uT := uT_in3 tb_0 59 rfl rfl
set_option maxRecDepth 20000 in
theorem kw_60 : Cond.selects RX12 yX12_isSound yX12_isSound ∈ uT := uT_in3 tb_0 60 rfl rfl
set_option maxRecDepth 20000 in
theorem kw_61 : Cond.selects RX12 yX12_isWord yX12_isWord ∈ uT := uT_in3 tb_0 61 rfl rfl
set_option maxRecDepth 20000 in
theorem kw_62 : Cond.selects RX12 yX12_readSound yX12_readSound ∈ uT := uT_in3 tb_0 62 rfl rfl
set_option maxRecDepth 20000 in
theorem kw_63 : Cond.selects RX12 yX12_fail yX12_fail ∈ uT := uT_in3 tb_0 63 rfl rfl
set_option maxRecDepth 20000 in
theorem kw_64 : Cond.selects RX12 yX12_readNew yX12_readNew ∈ uT := uT_in3 tb_0 64 rfl rfl
set_option maxRecDepth 20000 in
theorem kw_65 : Cond.selects RX12 yX12_isName yX12_isName ∈ uT := uT_in3 tb_0 65 rfl rfl
set_option maxRecDepth 20000 in
theorem kw_66 : Cond.selects RX12 yX12_isKept yX12_isKept ∈ uT := uT_in3 tb_0 66 rfl rfl
set_option maxRecDepth 20000 in
theorem kw_67 : Cond.selects RX12 yX12_isJar yX12_isJar ∈ uT := uT_in3 tb_0 67 rfl rfl
set_option maxRecDepth 20000 in
theorem kw_68 : Cond.selects RX12 yX12_isSize yX12_isSize ∈ uT := uT_in3 tb_0 68 rfl rfl
set_option maxRecDepth 20000 in
theorem kw_69 : Cond.selects RX12 yX12_isLeaks yX12_isLeaks ∈ uT := uT_in3 tb_0 69 rfl rfl
set_option maxRecDepth 20000 in
theorem kw_70 : Cond.selects RX12 yX12_isHead yX12_isHead ∈ uT := uT_in3 tb_0 70 rfl rfl
set_option maxRecDepth 20000 in
theorem kw_71 : Cond.selects RX12 yX12_isTail yX12_isTail ∈ uT := uT_in3 tb_0 71 rfl rfl
set_option maxRecDepth 20000 in
theorem kw_72 : Cond.selects RX12 yX12_isCosts yX12_isCosts ∈ uT := uT_in3 tb_0 72 rfl rfl
set_option maxRecDepth 20000 in
theorem kw_73 : Cond.selects RX12 yX12_isWorth yX12_isWorth ∈ uT := uT_in3 tb_0 73 rfl rfl
set_option maxRecDepth 20000 in
theorem kw_74 : Cond.selects RX12 yX12_isBreaks yX12_isBreaks ∈ uT := uT_in3 tb_0 74 rfl rfl
set_option maxRecDepth 20000 in
theorem kw_75 : Cond.selects RX12 yX12_isFill yX12_isFill ∈ uT := uT_in3 tb_0 75 rfl rfl
set_option maxRecDepth 20000 in
theorem kw_76 : Cond.selects RX12 yX12_isOf yX12_isOf ∈ uT := uT_in3 tb_0 76 rfl rfl
set_option maxRecDepth 20000 in
theorem kw_77 : Cond.selects RX12 yX12_isFrom yX12_isFrom ∈ uT := uT_in3 tb_0 77 rfl rfl
set_option maxRecDepth 20000 in
theorem kw_78 : Cond.selects RX12 yX12_isOn yX12_isOn ∈ uT := uT_in3 tb_0 78 rfl rfl
set_option maxRecDepth 20000 in
theorem kw_79 : Cond.selects RX12 yX12_isMix yX12_isMix ∈ uT := uT_in3 tb_0 79 rfl rfl
set_option maxRecDepth 20000 in
theorem kw_80 : Cond.selects RX12 yX12_isWith yX12_isWith ∈ uT := uT_in3 tb_0 80 rfl rfl
set_option maxRecDepth 20000 in
theorem kw_81 : Cond.selects RX12 yX12_isGives yX12_isGives ∈ uT := uT_in3 tb_0 81 rfl rfl
set_option maxRecDepth 20000 in
theorem kw_82 : Cond.selects RX12 yX12_isAny yX12_isAny ∈ uT := uT_in3 tb_0 82 rfl rfl
set_option maxRecDepth 20000 in
theorem kw_83 : Cond.selects RX12 yX12_isSame yX12_isSame ∈ uT := uT_in3 tb_0 83 rfl rfl
set_option maxRecDepth 20000 in
theorem kw_84 : Cond.selects RX12 yX12_isRest yX12_isRest ∈ uT := uT_in3 tb_0 84 rfl rfl
set_option maxRecDepth 20000 in
theorem kw_85 : Cond.selects RX12 yX12_isFirst yX12_isFirst ∈ uT := uT_in3 tb_0 85 rfl rfl
set_option maxRecDepth 20000 in
theorem kw_86 : Cond.selects RX12 yX12_isSecond yX12_isSecond ∈ uT := uT_in3 tb_0 86 rfl rfl
set_option maxRecDepth 20000 in
theorem kw_87 : Cond.selects RX12 yX12_wrong yX12_wrong ∈ uT := uT_in3 tb_0 87 rfl rfl
set_option maxRecDepth 20000 in
theorem kw_88 : Cond.selects RX12 yX12_named yX12_named ∈ uT := uT_in3 tb_0 88 rfl rfl
set_option maxRecDepth 20000 in
theorem kw_89 : Cond.selects RX12 yX12_readJar yX12_readJar ∈ uT := uT_in3 tb_0 89 rfl rfl
set_option maxRecDepth 20000 in
theorem kw_90 : Cond.selects RX12 yX12_must yX12_must ∈ uT := uT_in3 tb_0 90 rfl rfl
set_option maxRecDepth 20000 in
theorem kw_91 : Cond.selects RX12 yX12_count yX12_count ∈ uT := uT_in3 tb_0 91 rfl rfl
set_option maxRecDepth 20000 in
theorem kw_92 : Cond.selects RX12 yX12_told yX12_told ∈ uT := uT_in3 tb_0 92 rfl rfl
set_option maxRecDepth 20000 in
theorem kw_93 : Cond.selects RX12 yX12_readFill yX12_readFill ∈ uT := uT_in3 tb_0 93 rfl rfl
set_option maxRecDepth 20000 in
theorem kw_94 : Cond.selects RX12 yX12_readTold yX12_readTold ∈ uT := uT_in3 tb_0 94 rfl rfl
set_option maxRecDepth 20000 in
theorem kw_95 : Cond.selects RX12 yX12_isWell yX12_isWell ∈ uT := uT_in3 tb_0 95 rfl rfl
set_option maxRecDepth 20000 in
theorem kw_96 : Cond.selects RX12 yX12_readRule yX12_readRule ∈ uT := uT_in3 tb_0 96 rfl rfl
set_option maxRecDepth 20000 in
theorem kw_97 : Cond.selects RX12 yX12_readKind yX12_readKind ∈ uT := uT_in3 tb_0 97 rfl rfl
set_option maxRecDepth 20000 in
theorem kw_98 : Cond.selects RX12 yX12_readWhat yX12_readWhat ∈ uT := uT_in3 tb_0 98 rfl rfl
set_option maxRecDepth 20000 in
theorem kw_99 : Cond.selects RX12 yX12_empties yX12_empties ∈ uT := uT_in3 tb_0 99 rfl rfl
set_option maxRecDepth 20000 in
theorem kw_100 : Cond.selects RX12 yX12_refuse yX12_refuse ∈ uT := uT_in3 tb_0 100 rfl rfl
set_option maxRecDepth 20000 in
theorem kw_101 : Cond.selects RX12 yX12_isSoundAt yX12_isSoundAt ∈ uT := uT_in3 tb_0 101 rfl rfl
set_option maxRecDepth 20000 in
theorem kw_102 : Cond.selects RX12 yX12_soundAt yX12_soundAt ∈ uT := uT_in3 tb_0 102 rfl rfl
set_option maxRecDepth 20000 in
theorem kw_103 : Cond.selects RX12 yX12_isJarAt yX12_isJarAt ∈ uT := uT_in3 tb_0 103 rfl rfl
set_option maxRecDepth 20000 in
theorem kw_104 : Cond.selects RX12 yX12_heardNow yX12_heardNow ∈ uT := uT_in3 tb_0 104 rfl rfl
set_option maxRecDepth 20000 in
theorem kw_105 : Cond.selects RX12 yX12_heardOn yX12_heardOn ∈ uT := uT_in3 tb_0 105 rfl rfl
set_option maxRecDepth 20000 in
theorem kw_106 : Cond.selects RX12 yX12_goneOf yX12_goneOf ∈ uT := uT_in3 tb_0 106 rfl rfl
set_option maxRecDepth 20000 in
theorem kw_107 : Cond.selects RX12 yX12_heardLetter yX12_heardLetter ∈ uT := uT_in3 tb_0 107 rfl rfl
set_option maxRecDepth 20000 in
theorem kw_108 : Cond.selects RX12 yX12_headGone yX12_headGone ∈ uT := uT_in3 tb_0 108 rfl rfl
set_option maxRecDepth 20000 in
theorem kw_109 : Cond.selects RX12 yX12_isTray yX12_isTray ∈ uT := uT_in3 tb_0 109 rfl rfl
set_option maxRecDepth 20000 in
theorem kw_110 : Cond.selects RX12 yX12_whyNoRow yX12_whyNoRow ∈ uT := uT_in3 tb_0 110 rfl rfl
set_option maxRecDepth 20000 in
theorem kw_111 : Cond.selects RX12 yX12_toTray yX12_toTray ∈ uT := uT_in3 tb_0 111 rfl rfl
set_option maxRecDepth 20000 in
theorem kw_112 : Cond.selects RX12 yX12_heardOrRest yX12_heardOrRest ∈ uT := uT_in3 tb_0 112 rfl rfl
set_option maxRecDepth 20000 in
theorem kw_113 : Cond.selects RX12 yX12_mixOf yX12_mixOf ∈ uT := uT_in3 tb_0 113 rfl rfl
set_option maxRecDepth 20000 in
theorem kw_114 : Cond.selects RX12 yX12_othersOf yX12_othersOf ∈ uT := uT_in3 tb_0 114 rfl rfl
set_option maxRecDepth 20000 in
theorem kw_115 : Cond.selects RX12 yX12_soundOrRest yX12_soundOrRest ∈ uT := uT_in3 tb_0 115 rfl rfl
set_option maxRecDepth 20000 in
theorem kw_116 : Cond.selects RX12 yX12_whyNoLetters yX12_whyNoLetters ∈ uT := uT_in3 tb_0 116 rfl rfl
set_option maxRecDepth 20000 in
theorem kw_117 : Cond.selects RX12 yX12_numberOf yX12_numberOf ∈ uT := uT_in3 tb_0 117 rfl rfl
set_option maxRecDepth 20000 in
theorem kw_118 : Cond.selects RX12 yX12_areJars yX12_areJars ∈ uT := uT_in3 tb_0 118 rfl rfl
set_option maxRecDepth 20000 in
theorem kw_119 : Cond.selects RX12 yX12_fitsOf yX12_fitsOf ∈ uT := uT_in3 tb_0 119 rfl rfl
set_option maxRecDepth 20000 in
theorem kw_120 : Cond.selects RX12 yX12_placesIn yX12_placesIn ∈ uT := uT_in3 tb_0 120 rfl rfl
set_option maxRecDepth 20000 in
theorem kw_121 : Cond.selects RX12 yX12_standsAt yX12_standsAt ∈ uT := uT_in3 tb_0 121 rfl rfl
set_option maxRecDepth 20000 in
theorem kw_122 : Cond.selects RX12 yX12_lapsOf yX12_lapsOf ∈ uT := uT_in3 tb_0 122 rfl rfl
set_option maxRecDepth 20000 in
theorem kw_123 : Cond.selects RX12 yX12_chainFrom yX12_chainFrom ∈ uT := uT_in3 tb_0 123 rfl rfl
set_option maxRecDepth 20000 in
theorem kw_124 : Cond.selects RX12 yX12_isOwn yX12_isOwn ∈ uT := uT_in3 tb_0 124 rfl rfl
set_option maxRecDepth 20000 in
theorem kw_125 : Cond.selects RX12 yX12_standsIn yX12_standsIn ∈ uT := uT_in3 tb_0 125 rfl rfl
set_option maxRecDepth 20000 in
theorem kw_126 : Cond.selects RX12 yX12_mergeFrom yX12_mergeFrom ∈ uT := uT_in3 tb_0 126 rfl rfl
set_option maxRecDepth 20000 in
theorem kw_127 : Cond.selects RX12 yX12_isLess yX12_isLess ∈ uT := uT_in3 tb_0 127 rfl rfl
set_option maxRecDepth 20000 in
theorem kw_128 : Cond.selects RX12 yX12_keepsOf yX12_keepsOf ∈ uT := uT_in3 tb_0 128 rfl rfl
set_option maxRecDepth 20000 in
theorem kw_129 : Cond.selects RX12 yX12_keptBy yX12_keptBy ∈ uT := uT_in3 tb_0 129 rfl rfl
set_option maxRecDepth 20000 in
theorem kw_130 : Cond.selects RX12 yX12_costOf yX12_costOf ∈ uT := uT_in3 tb_0 130 rfl rfl
set_option maxRecDepth 20000 in
theorem kw_131 : Cond.selects RX12 yX12_worthOn yX12_worthOn ∈ uT := uT_in3 tb_0 131 rfl rfl
set_option maxRecDepth 20000 in
theorem kw_132 : Cond.selects RX12 yX12_isHeard yX12_isHeard ∈ uT := uT_in3 tb_0 132 rfl rfl
set_option maxRecDepth 20000 in
theorem kw_133 : Cond.selects RX12 yX12_wholeBehind yX12_wholeBehind ∈ uT := uT_in3 tb_0 133 rfl rfl
set_option maxRecDepth 20000 in
theorem kw_134 : Cond.selects RX12 yX12_draw yX12_draw ∈ uT := uT_in3 tb_0 134 rfl rfl
set_option maxRecDepth 20000 in
theorem kw_135 : Cond.selects RX12 yX12_fraction yX12_fraction ∈ uT := uT_in3 tb_0 135 rfl rfl
set_option maxRecDepth 20000 in
theorem kw_136 : Cond.selects RX12 yX12_reads yX12_reads ∈ uT := uT_in3 tb_0 136 rfl rfl
set_option maxRecDepth 20000 in
theorem kw_137 : Cond.selects RX12 yX12_copy yX12_copy ∈ uT := uT_in3 tb_0 137 rfl rfl
set_option maxRecDepth 20000 in
theorem kw_138 : Cond.initialized RL ∈ uT := uT_in3 tb_1 0 rfl rfl
set_option maxRecDepth 20000 in
theorem kw_139 : Cond.initialized RX11 ∈ uT := uT_in3 tb_1 1 rfl rfl
set_option maxRecDepth 20000 in
theorem kw_140 : Cond.initialized RX10 ∈ uT := uT_in3 tb_1 2 rfl rfl
set_option maxRecDepth 20000 in
theorem kw_141 : Cond.initialized RX9 ∈ uT := uT_in3 tb_1 3 rfl rfl
set_option maxRecDepth 20000 in
theorem kw_142 : Cond.initialized RX8 ∈ uT := uT_in3 tb_1 4 rfl rfl
set_option maxRecDepth 20000 in
theorem kw_143 : Cond.initialized RX7 ∈ uT := uT_in3 tb_1 5 rfl rfl
set_option maxRecDepth 20000 in
theorem kw_144 : Cond.initialized RX6 ∈ uT := uT_in3 tb_1 6 rfl rfl
set_option maxRecDepth 20000 in
theorem kw_145 : Cond.initialized RX0 ∈ uT := uT_in3 tb_1 7 rfl rfl
set_option maxRecDepth 20000 in
theorem kw_146 : Cond.initialized RX2 ∈ uT := uT_in3 tb_1 8 rfl rfl
set_option maxRecDepth 20000 in
theorem kw_147 : Cond.initialized RX1 ∈ uT := uT_in3 tb_1 9 rfl rfl
set_option maxRecDepth 20000 in
theorem kw_148 : Cond.initialized RX3 ∈ uT := uT_in3 tb_1 10 rfl rfl
set_option maxRecDepth 20000 in
theorem kw_149 : Cond.initialized RX4 ∈ uT := uT_in3 tb_1 11 rfl rfl
set_option maxRecDepth 20000 in
theorem kw_150 : Cond.initialized RX5 ∈ uT := uT_in3 tb_1 12 rfl rfl
set_option maxRecDepth 20000 in
theorem kw_151 : Cond.initialized RX12 ∈ uT := uT_in3 tb_1 13 rfl rfl
set_option maxRecDepth 20000 in
theorem kw_152 : Cond.initialized RJ9 ∈ uT := uT_in3 tb_1 14 rfl rfl
set_option maxRecDepth 20000 in
theorem kw_153 : Cond.initialized RJ10 ∈ uT := uT_in3 tb_1 15 rfl rfl
set_option maxRecDepth 20000 in
theorem kw_154 : Cond.initialized RJ0 ∈ uT := uT_in3 tb_1 16 rfl rfl
set_option maxRecDepth 20000 in
theorem kw_155 : Cond.initialized RJ1 ∈ uT := uT_in3 tb_1 17 rfl rfl
set_option maxRecDepth 20000 in
theorem kw_156 : Cond.initialized RJ3 ∈ uT := uT_in3 tb_1 18 rfl rfl
set_option maxRecDepth 20000 in
theorem kw_157 : Cond.initialized RJ2 ∈ uT := uT_in3 tb_1 19 rfl rfl
set_option maxRecDepth 20000 in
theorem kw_158 : Cond.initialized RJ6 ∈ uT := uT_in3 tb_1 20 rfl rfl
set_option maxRecDepth 20000 in
theorem kw_159 : Cond.classLink RL 7 RX11 ∈ uT := uT_in3 tb_1 21 rfl rfl
set_option maxRecDepth 20000 in
theorem kw_160 : Cond.instantiable RX11 20 ∈ uT := uT_in3 tb_1 22 rfl rfl
set_option maxRecDepth 20000 in
theorem kw_161 : Cond.methodLink RL 9 yX11_init ∈ uT := uT_in3 tb_1 23 rfl rfl
set_option maxRecDepth 20000 in
theorem kw_162 : Cond.instanceMethod yX11_init ∈ uT := uT_in3 tb_1 24 rfl rfl
set_option maxRecDepth 20000 in
theorem kw_163 : Cond.code yX11_init cX11_init 2 (none : Option FieldType) ∈ uT := uT_in3 tb_1 25 rfl rfl
set_option maxRecDepth 20000 in
theorem kw_164 : Cond.methodLink RX11 1 Lib.objectInit ∈ uT := uT_in3 tb_1 26 rfl rfl
set_option maxRecDepth 20000 in
theorem kw_165 : Cond.instanceMethod Lib.objectInit ∈ uT := uT_in3 tb_1 27 rfl rfl
set_option maxRecDepth 20000 in
theorem kw_166 : Cond.code Lib.objectInit ⟨#[0xb1]⟩ 1 none ∈ uT := uT_in3 tb_1 28 rfl rfl
set_option maxRecDepth 20000 in
theorem kw_167 : Cond.classLink RX11 7 RX10 ∈ uT := uT_in3 tb_1 29 rfl rfl
set_option maxRecDepth 20000 in
theorem kw_169 : Cond.instantiable RX10 3 ∈ uT := uT_in3 tb_1 31 rfl rfl
set_option maxRecDepth 20000 in
theorem kw_171 : Cond.instanceMethod yX10_init ∈ uT := uT_in3 tb_1 33 rfl rfl
set_option maxRecDepth 20000 in
theorem kw_172 : Cond.code yX10_init cX10_init 1 (none : Option FieldType) ∈ uT := uT_in3 tb_1 34 rfl rfl
set_option maxRecDepth 20000 in
theorem kw_173 : Cond.methodLink RX10 3 Lib.objectInit ∈ uT := uT_in3 tb_1 35 rfl rfl
set_option maxRecDepth 20000 in
theorem kw_174 : Cond.fieldLink RX10 9 RX10 "numbers" "[J" ∈ uT := uT_in3 tb_1 36 rfl rfl
set_option maxRecDepth 20000 in
theorem kw_175 : Cond.fieldLink RX11 160 RX10 "numbers" "[J" ∈ uT := uT_in3 tb_1 37 rfl rfl
set_option maxRecDepth 20000 in
theorem kw_176 : Cond.fieldLink RX10 15 RX10 "sort" "I" ∈ uT := uT_in3 tb_1 38 rfl rfl
set_option maxRecDepth 20000 in
theorem kw_177 : Cond.fieldLink RX11 153 RX10 "sort" "I" ∈ uT := uT_in3 tb_1 39 rfl rfl
set_option maxRecDepth 20000 in
theorem kw_178 : Cond.fieldLink RX10 25 RX10 "size" "I" ∈ uT := uT_in3 tb_1 40 rfl rfl
set_option maxRecDepth 20000 in
theorem kw_179 : Cond.fieldLink RX11 452 RX10 "size" "I" ∈ uT := uT_in3 tb_1 41 rfl rfl
set_option maxRecDepth 20000 in
theorem kw_187 : Cond.arrayClass (FieldType.long) ∈ uT := uT_in3 tb_1 49 rfl rfl
set_option maxRecDepth 20000 in
theorem kw_188 : Cond.classLink RX11 16 RX9 ∈ uT := uT_in3 tb_1 50 rfl rfl
set_option maxRecDepth 20000 in
theorem kw_189 : Cond.instantiable RX9 8 ∈ uT := uT_in3 tb_1 51 rfl rfl
set_option maxRecDepth 20000 in
theorem kw_191 : Cond.instanceMethod yX9_init ∈ uT := uT_in3 tb_1 53 rfl rfl
set_option maxRecDepth 20000 in
theorem kw_192 : Cond.code yX9_init cX9_init 1 (none : Option FieldType) ∈ uT := uT_in3 tb_1 54 rfl rfl
set_option maxRecDepth 20000 in
theorem kw_193 : Cond.methodLink RX9 3 Lib.objectInit ∈ uT := uT_in3 tb_1 55 rfl rfl
set_option maxRecDepth 20000 in
theorem kw_194 : Cond.fieldLink RX9 9 RX9 "bytes" "[B" ∈ uT := uT_in3 tb_1 56 rfl rfl
set_option maxRecDepth 20000 in
theorem kw_195 : Cond.fieldLink RX9 22 RX9 "used" "I" ∈ uT := uT_in3 tb_1 57 rfl rfl
set_option maxRecDepth 20000 in
theorem kw_196 : Cond.fieldLink RX11 177 RX9 "used" "I" ∈ uT := uT_in3 tb_1 58 rfl rfl
set_option maxRecDepth 20000 in
theorem kw_197 : Cond.fieldLink RX9 15 RX9 "fault" "I" ∈ uT := uT_in3 tb_1 59 rfl rfl
set_option maxRecDepth 20000 in
theorem kw_198 : Cond.fieldLink RX11 211 RX9 "fault" "I" ∈ uT := uT_in3 tb_1 60 rfl rfl
set_option maxRecDepth 20000 in
theorem kw_199 : Cond.fieldLink RX9 19 RX9 "faultPlace" "I" ∈ uT := uT_in3 tb_1 61 rfl rfl
set_option maxRecDepth 20000 in
theorem kw_200 : Cond.fieldLink RX11 214 RX9 "faultPlace" "I" ∈ uT := uT_in3 tb_1 62 rfl rfl
set_option maxRecDepth 20000 in
theorem kw_201 : Cond.fieldLink RX8 178 RX9 "start" "I" ∈ uT := uT_in3 tb_1 63 rfl rfl
set_option maxRecDepth 20000 in
theorem kw_202 : Cond.fieldLink RX9 43 RX9 "start" "I" ∈ uT := uT_in3 tb_1 64 rfl rfl
set_option maxRecDepth 20000 in
theorem kw_203 : Cond.fieldLink RX9 31 RX9 "length" "I" ∈ uT := uT_in3 tb_1 65 rfl rfl
set_option maxRecDepth 20000 in
theorem kw_204 : Cond.fieldLink RX9 34 RX9 "end" "I" ∈ uT := uT_in3 tb_1 66 rfl rfl
set_option maxRecDepth 20000 in
theorem kw_205 : Cond.fieldLink RX9 40 RX9 "kind" "I" ∈ uT := uT_in3 tb_1 67 rfl rfl
set_option maxRecDepth 20000 in
theorem kw_223 : Cond.arrayClass (FieldType.byte) ∈ uT := uT_in3 tb_1 85 rfl rfl
set_option maxRecDepth 20000 in
theorem kw_224 : Cond.classLink RX11 23 RX8 ∈ uT := uT_in3 tb_1 86 rfl rfl
set_option maxRecDepth 20000 in
theorem kw_225 : Cond.instantiable RX8 6 ∈ uT := uT_in3 tb_1 87 rfl rfl
set_option maxRecDepth 20000 in
theorem kw_226 : Cond.methodLink RX11 25 yX8_init ∈ uT := uT_in3 tb_1 88 rfl rfl
set_option maxRecDepth 20000 in
theorem kw_227 : Cond.instanceMethod yX8_init ∈ uT := uT_in3 tb_1 89 rfl rfl
set_option maxRecDepth 20000 in
theorem kw_228 : Cond.code yX8_init cX8_init 2 (none : Option FieldType) ∈ uT := uT_in3 tb_1 90 rfl rfl
set_option maxRecDepth 20000 in
theorem kw_229 : Cond.methodLink RX8 3 Lib.objectInit ∈ uT := uT_in3 tb_1 91 rfl rfl
set_option maxRecDepth 20000 in
theorem kw_230 : Cond.classLink RX8 28 RX7 ∈ uT := uT_in3 tb_1 92 rfl rfl
set_option maxRecDepth 20000 in
theorem kw_231 : Cond.instantiable RX7 4 ∈ uT := uT_in3 tb_1 93 rfl rfl
set_option maxRecDepth 20000 in
theorem kw_232 : Cond.methodLink RX8 30 yX7_init ∈ uT := uT_in3 tb_1 94 rfl rfl
set_option maxRecDepth 20000 in
theorem kw_233 : Cond.instanceMethod yX7_init ∈ uT := uT_in3 tb_1 95 rfl rfl
set_option maxRecDepth 20000 in
theorem kw_234 : Cond.code yX7_init cX7_init 2 (none : Option FieldType) ∈ uT := uT_in3 tb_1 96 rfl rfl
set_option maxRecDepth 20000 in
theorem kw_235 : Cond.methodLink RX7 3 Lib.objectInit ∈ uT := uT_in3 tb_1 97 rfl rfl
set_option maxRecDepth 20000 in
theorem kw_236 : Cond.classLink RX7 9 RX6 ∈ uT := uT_in3 tb_1 98 rfl rfl
set_option maxRecDepth 20000 in
theorem kw_238 : Cond.classLink RX7 17 RX0 ∈ uT := uT_in3 tb_1 100 rfl rfl
set_option maxRecDepth 20000 in
theorem kw_240 : Cond.instantiable RX6 3 ∈ uT := uT_in3 tb_1 102 rfl rfl
set_option maxRecDepth 20000 in
theorem kw_241 : Cond.methodLink RX7 23 yX6_init ∈ uT := uT_in3 tb_1 103 rfl rfl
set_option maxRecDepth 20000 in
theorem kw_242 : Cond.instanceMethod yX6_init ∈ uT := uT_in3 tb_1 104 rfl rfl
set_option maxRecDepth 20000 in
theorem kw_243 : Cond.code yX6_init cX6_init 2 (none : Option FieldType) ∈ uT := uT_in3 tb_1 105 rfl rfl
set_option maxRecDepth 20000 in
theorem kw_244 : Cond.methodLink RX6 3 Lib.objectInit ∈ uT := uT_in3 tb_1 106 rfl rfl
set_option maxRecDepth 20000 in
theorem kw_245 : Cond.fieldLink RX6 9 RX6 "numbers" "[I" ∈ uT := uT_in3 tb_1 107 rfl rfl
set_option maxRecDepth 20000 in
theorem kw_246 : Cond.fieldLink RX7 48 RX6 "numbers" "[I" ∈ uT := uT_in3 tb_1 108 rfl rfl
set_option maxRecDepth 20000 in
theorem kw_247 : Cond.fieldLink RX11 476 RX6 "numbers" "[I" ∈ uT := uT_in3 tb_1 109 rfl rfl
set_option maxRecDepth 20000 in
theorem kw_248 : Cond.fieldLink RX6 15 RX6 "start" "I" ∈ uT := uT_in3 tb_1 110 rfl rfl
set_option maxRecDepth 20000 in
theorem kw_249 : Cond.fieldLink RX7 52 RX6 "start" "I" ∈ uT := uT_in3 tb_1 111 rfl rfl
set_option maxRecDepth 20000 in
theorem kw_250 : Cond.fieldLink RX11 478 RX6 "start" "I" ∈ uT := uT_in3 tb_1 112 rfl rfl
set_option maxRecDepth 20000 in
theorem kw_251 : Cond.fieldLink RX6 19 RX6 "size" "I" ∈ uT := uT_in3 tb_1 113 rfl rfl
set_option maxRecDepth 20000 in
theorem kw_252 : Cond.fieldLink RX4 49 RX6 "size" "I" ∈ uT := uT_in3 tb_1 114 rfl rfl
set_option maxRecDepth 20000 in
theorem kw_253 : Cond.fieldLink RX8 151 RX6 "size" "I" ∈ uT := uT_in3 tb_1 115 rfl rfl
set_option maxRecDepth 20000 in
theorem kw_254 : Cond.fieldLink RX11 262 RX6 "size" "I" ∈ uT := uT_in3 tb_1 116 rfl rfl
set_option maxRecDepth 20000 in
theorem kw_262 : Cond.arrayClass (FieldType.int) ∈ uT := uT_in3 tb_1 124 rfl rfl
set_option maxRecDepth 20000 in
theorem kw_263 : Cond.instantiable RX0 10 ∈ uT := uT_in3 tb_1 125 rfl rfl
set_option maxRecDepth 20000 in
theorem kw_265 : Cond.instanceMethod yX0_init ∈ uT := uT_in3 tb_1 127 rfl rfl
set_option maxRecDepth 20000 in
theorem kw_266 : Cond.code yX0_init cX0_init 1 (none : Option FieldType) ∈ uT := uT_in3 tb_1 128 rfl rfl
set_option maxRecDepth 20000 in
theorem kw_267 : Cond.methodLink RX0 3 Lib.objectInit ∈ uT := uT_in3 tb_1 129 rfl rfl
set_option maxRecDepth 20000 in
theorem kw_268 : Cond.fieldLink RX0 18 RX0 "size" "I" ∈ uT := uT_in3 tb_1 130 rfl rfl
set_option maxRecDepth 20000 in
theorem kw_269 : Cond.fieldLink RX8 109 RX0 "size" "I" ∈ uT := uT_in3 tb_1 131 rfl rfl
set_option maxRecDepth 20000 in
theorem kw_270 : Cond.fieldLink RX11 475 RX0 "size" "I" ∈ uT := uT_in3 tb_1 132 rfl rfl
set_option maxRecDepth 20000 in
theorem kw_271 : Cond.fieldLink RX0 21 RX0 "leaks" "I" ∈ uT := uT_in3 tb_1 133 rfl rfl
set_option maxRecDepth 20000 in
theorem kw_272 : Cond.fieldLink RX8 115 RX0 "leaks" "I" ∈ uT := uT_in3 tb_1 134 rfl rfl
set_option maxRecDepth 20000 in
theorem kw_273 : Cond.fieldLink RX0 24 RX0 "side" "I" ∈ uT := uT_in3 tb_1 135 rfl rfl
set_option maxRecDepth 20000 in
theorem kw_274 : Cond.fieldLink RX8 121 RX0 "side" "I" ∈ uT := uT_in3 tb_1 136 rfl rfl
set_option maxRecDepth 20000 in
theorem kw_275 : Cond.fieldLink RX0 27 RX0 "costs" "I" ∈ uT := uT_in3 tb_1 137 rfl rfl
set_option maxRecDepth 20000 in
theorem kw_276 : Cond.fieldLink RX8 129 RX0 "costs" "I" ∈ uT := uT_in3 tb_1 138 rfl rfl
set_option maxRecDepth 20000 in
theorem kw_277 : Cond.fieldLink RX7 83 RX0 "costs" "I" ∈ uT := uT_in3 tb_1 139 rfl rfl
set_option maxRecDepth 20000 in
theorem kw_278 : Cond.fieldLink RX0 9 RX0 "worth" "I" ∈ uT := uT_in3 tb_1 140 rfl rfl
set_option maxRecDepth 20000 in
theorem kw_279 : Cond.fieldLink RX8 133 RX0 "worth" "I" ∈ uT := uT_in3 tb_1 141 rfl rfl
set_option maxRecDepth 20000 in
theorem kw_280 : Cond.fieldLink RX5 88 RX0 "worth" "I" ∈ uT := uT_in3 tb_1 142 rfl rfl
set_option maxRecDepth 20000 in
theorem kw_281 : Cond.fieldLink RX0 30 RX0 "breaks" "I" ∈ uT := uT_in3 tb_1 143 rfl rfl
set_option maxRecDepth 20000 in
theorem kw_282 : Cond.fieldLink RX8 137 RX0 "breaks" "I" ∈ uT := uT_in3 tb_1 144 rfl rfl
set_option maxRecDepth 20000 in
theorem kw_283 : Cond.fieldLink RX7 103 RX0 "breaks" "I" ∈ uT := uT_in3 tb_1 145 rfl rfl
set_option maxRecDepth 20000 in
theorem kw_284 : Cond.fieldLink RX11 424 RX0 "breaks" "I" ∈ uT := uT_in3 tb_1 146 rfl rfl
set_option maxRecDepth 20000 in
theorem kw_285 : Cond.fieldLink RX0 15 RX0 "filled" "I" ∈ uT := uT_in3 tb_1 147 rfl rfl
set_option maxRecDepth 20000 in
theorem kw_286 : Cond.fieldLink RX8 165 RX0 "filled" "I" ∈ uT := uT_in3 tb_1 148 rfl rfl
set_option maxRecDepth 20000 in
theorem kw_287 : Cond.fieldLink RX0 33 RX0 "filledOn" "I" ∈ uT := uT_in3 tb_1 149 rfl rfl
set_option maxRecDepth 20000 in
theorem kw_288 : Cond.fieldLink RX8 168 RX0 "filledOn" "I" ∈ uT := uT_in3 tb_1 150 rfl rfl
set_option maxRecDepth 20000 in
theorem kw_289 : Cond.fieldLink RX7 68 RX0 "filledOn" "I" ∈ uT := uT_in3 tb_1 151 rfl rfl
set_option maxRecDepth 20000 in
theorem kw_290 : Cond.fieldLink RX0 36 RX0 "sound" "I" ∈ uT := uT_in3 tb_1 152 rfl rfl
set_option maxRecDepth 20000 in
theorem kw_291 : Cond.fieldLink RX7 38 RX0 "sound" "I" ∈ uT := uT_in3 tb_1 153 rfl rfl
set_option maxRecDepth 20000 in
theorem kw_292 : Cond.fieldLink RX8 156 RX0 "sound" "I" ∈ uT := uT_in3 tb_1 154 rfl rfl
set_option maxRecDepth 20000 in
theorem kw_293 : Cond.fieldLink RX7 55 RX0 "from" "I" ∈ uT := uT_in3 tb_1 155 rfl rfl
set_option maxRecDepth 20000 in
theorem kw_294 : Cond.fieldLink RX8 158 RX0 "from" "I" ∈ uT := uT_in3 tb_1 156 rfl rfl
set_option maxRecDepth 20000 in
theorem kw_316 : Cond.fieldLink RX7 11 RX7 "sounds" "[LEchoJars$Row;" ∈ uT := uT_in3 tb_1 178 rfl rfl
set_option maxRecDepth 20000 in
theorem kw_317 : Cond.fieldLink RX8 81 RX7 "sounds" "[LEchoJars$Row;" ∈ uT := uT_in3 tb_1 179 rfl rfl
set_option maxRecDepth 20000 in
theorem kw_318 : Cond.fieldLink RX11 232 RX7 "sounds" "[LEchoJars$Row;" ∈ uT := uT_in3 tb_1 180 rfl rfl
set_option maxRecDepth 20000 in
theorem kw_319 : Cond.fieldLink RX7 19 RX7 "jars" "[LEchoJars$Jar;" ∈ uT := uT_in3 tb_1 181 rfl rfl
set_option maxRecDepth 20000 in
theorem kw_320 : Cond.fieldLink RX8 95 RX7 "jars" "[LEchoJars$Jar;" ∈ uT := uT_in3 tb_1 182 rfl rfl
set_option maxRecDepth 20000 in
theorem kw_321 : Cond.fieldLink RX5 73 RX7 "jars" "[LEchoJars$Jar;" ∈ uT := uT_in3 tb_1 183 rfl rfl
set_option maxRecDepth 20000 in
theorem kw_322 : Cond.fieldLink RX11 246 RX7 "jars" "[LEchoJars$Jar;" ∈ uT := uT_in3 tb_1 184 rfl rfl
set_option maxRecDepth 20000 in
theorem kw_323 : Cond.fieldLink RX7 27 RX7 "soundCount" "I" ∈ uT := uT_in3 tb_1 185 rfl rfl
set_option maxRecDepth 20000 in
theorem kw_324 : Cond.fieldLink RX8 70 RX7 "soundCount" "I" ∈ uT := uT_in3 tb_1 186 rfl rfl
set_option maxRecDepth 20000 in
theorem kw_325 : Cond.fieldLink RX11 217 RX7 "soundCount" "I" ∈ uT := uT_in3 tb_1 187 rfl rfl
set_option maxRecDepth 20000 in
theorem kw_326 : Cond.fieldLink RX7 31 RX7 "jarCount" "I" ∈ uT := uT_in3 tb_1 188 rfl rfl
set_option maxRecDepth 20000 in
theorem kw_327 : Cond.fieldLink RX8 92 RX7 "jarCount" "I" ∈ uT := uT_in3 tb_1 189 rfl rfl
set_option maxRecDepth 20000 in
theorem kw_328 : Cond.fieldLink RX5 69 RX7 "jarCount" "I" ∈ uT := uT_in3 tb_1 190 rfl rfl
set_option maxRecDepth 20000 in
theorem kw_329 : Cond.fieldLink RX11 193 RX7 "jarCount" "I" ∈ uT := uT_in3 tb_1 191 rfl rfl
set_option maxRecDepth 20000 in
theorem kw_339 : Cond.fieldLink RX8 24 RX8 "tape" "LEchoJars$Tape;" ∈ uT := uT_in3 tb_1 201 rfl rfl
set_option maxRecDepth 20000 in
theorem kw_340 : Cond.fieldLink RX8 9 RX8 "soundNames" "[I" ∈ uT := uT_in3 tb_1 202 rfl rfl
set_option maxRecDepth 20000 in
theorem kw_341 : Cond.fieldLink RX8 15 RX8 "soundSizes" "[I" ∈ uT := uT_in3 tb_1 203 rfl rfl
set_option maxRecDepth 20000 in
theorem kw_342 : Cond.fieldLink RX8 18 RX8 "jarNames" "[I" ∈ uT := uT_in3 tb_1 204 rfl rfl
set_option maxRecDepth 20000 in
theorem kw_343 : Cond.fieldLink RX8 21 RX8 "jarSizes" "[I" ∈ uT := uT_in3 tb_1 205 rfl rfl
set_option maxRecDepth 20000 in
theorem kw_344 : Cond.fieldLink RX8 31 RX8 "made" "LEchoJars$Shop;" ∈ uT := uT_in3 tb_1 206 rfl rfl
set_option maxRecDepth 20000 in
theorem kw_358 : Cond.classLink RX11 32 RX2 ∈ uT := uT_in3 tb_1 220 rfl rfl
set_option maxRecDepth 20000 in
theorem kw_359 : Cond.instantiable RX2 1 ∈ uT := uT_in3 tb_1 221 rfl rfl
set_option maxRecDepth 20000 in
theorem kw_360 : Cond.methodLink RX11 34 yX2_init ∈ uT := uT_in3 tb_1 222 rfl rfl
set_option maxRecDepth 20000 in
theorem kw_361 : Cond.instanceMethod yX2_init ∈ uT := uT_in3 tb_1 223 rfl rfl
set_option maxRecDepth 20000 in
theorem kw_362 : Cond.code yX2_init cX2_init 2 (none : Option FieldType) ∈ uT := uT_in3 tb_1 224 rfl rfl
set_option maxRecDepth 20000 in
theorem kw_363 : Cond.methodLink RX2 3 Lib.objectInit ∈ uT := uT_in3 tb_1 225 rfl rfl
set_option maxRecDepth 20000 in
theorem kw_364 : Cond.fieldLink RX2 9 RX2 "tape" "LEchoJars$Tape;" ∈ uT := uT_in3 tb_1 226 rfl rfl
set_option maxRecDepth 20000 in
theorem kw_368 : Cond.classLink RX11 39 RX7 ∈ uT := uT_in3 tb_1 230 rfl rfl
set_option maxRecDepth 20000 in
theorem kw_369 : Cond.methodLink RX11 41 yX7_init ∈ uT := uT_in3 tb_1 231 rfl rfl
set_option maxRecDepth 20000 in
theorem kw_370 : Cond.classLink RX11 46 RX1 ∈ uT := uT_in3 tb_1 232 rfl rfl
set_option maxRecDepth 20000 in
theorem kw_371 : Cond.instantiable RX1 4 ∈ uT := uT_in3 tb_1 233 rfl rfl
set_option maxRecDepth 20000 in
theorem kw_373 : Cond.instanceMethod yX1_init ∈ uT := uT_in3 tb_1 235 rfl rfl
set_option maxRecDepth 20000 in
theorem kw_374 : Cond.code yX1_init cX1_init 1 (none : Option FieldType) ∈ uT := uT_in3 tb_1 236 rfl rfl
set_option maxRecDepth 20000 in
theorem kw_375 : Cond.methodLink RX1 3 Lib.objectInit ∈ uT := uT_in3 tb_1 237 rfl rfl
set_option maxRecDepth 20000 in
theorem kw_376 : Cond.fieldLink RX1 9 RX1 "firsts" "[I" ∈ uT := uT_in3 tb_1 238 rfl rfl
set_option maxRecDepth 20000 in
theorem kw_377 : Cond.fieldLink RX1 15 RX1 "seconds" "[I" ∈ uT := uT_in3 tb_1 239 rfl rfl
set_option maxRecDepth 20000 in
theorem kw_378 : Cond.fieldLink RX1 18 RX1 "gifts" "[I" ∈ uT := uT_in3 tb_2 0 rfl rfl
set_option maxRecDepth 20000 in
theorem kw_379 : Cond.fieldLink RX1 21 RX1 "ruleCount" "I" ∈ uT := uT_in3 tb_2 1 rfl rfl
set_option maxRecDepth 20000 in
theorem kw_380 : Cond.fieldLink RX2 35 RX1 "ruleCount" "I" ∈ uT := uT_in3 tb_2 2 rfl rfl
set_option maxRecDepth 20000 in
theorem kw_381 : Cond.fieldLink RX11 208 RX1 "ruleCount" "I" ∈ uT := uT_in3 tb_2 3 rfl rfl
set_option maxRecDepth 20000 in
theorem kw_391 : Cond.classLink RX11 53 RX3 ∈ uT := uT_in3 tb_2 13 rfl rfl
set_option maxRecDepth 20000 in
theorem kw_393 : Cond.instantiable RX3 3 ∈ uT := uT_in3 tb_2 15 rfl rfl
set_option maxRecDepth 20000 in
theorem kw_394 : Cond.methodLink RX11 55 yX3_init ∈ uT := uT_in3 tb_2 16 rfl rfl
set_option maxRecDepth 20000 in
theorem kw_395 : Cond.instanceMethod yX3_init ∈ uT := uT_in3 tb_2 17 rfl rfl
set_option maxRecDepth 20000 in
theorem kw_396 : Cond.code yX3_init cX3_init 3 (none : Option FieldType) ∈ uT := uT_in3 tb_2 18 rfl rfl
set_option maxRecDepth 20000 in
theorem kw_397 : Cond.methodLink RX3 1 Lib.objectInit ∈ uT := uT_in3 tb_2 19 rfl rfl
set_option maxRecDepth 20000 in
theorem kw_398 : Cond.fieldLink RX3 7 RX3 "stock" "LEchoJars$Shop;" ∈ uT := uT_in3 tb_2 20 rfl rfl
set_option maxRecDepth 20000 in
theorem kw_399 : Cond.fieldLink RX11 446 RX3 "stock" "LEchoJars$Shop;" ∈ uT := uT_in3 tb_2 21 rfl rfl
set_option maxRecDepth 20000 in
theorem kw_400 : Cond.fieldLink RX3 13 RX3 "rules" "LEchoJars$Law;" ∈ uT := uT_in3 tb_2 22 rfl rfl
set_option maxRecDepth 20000 in
theorem kw_401 : Cond.fieldLink RX11 447 RX3 "rules" "LEchoJars$Law;" ∈ uT := uT_in3 tb_2 23 rfl rfl
set_option maxRecDepth 20000 in
theorem kw_402 : Cond.fieldLink RX11 448 RX3 "today" "I" ∈ uT := uT_in3 tb_2 24 rfl rfl
set_option maxRecDepth 20000 in
theorem kw_410 : Cond.classLink RX11 62 RX6 ∈ uT := uT_in3 tb_2 32 rfl rfl
set_option maxRecDepth 20000 in
theorem kw_411 : Cond.methodLink RX11 68 yX6_init ∈ uT := uT_in3 tb_2 33 rfl rfl
set_option maxRecDepth 20000 in
theorem kw_412 : Cond.classLink RX11 88 RX4 ∈ uT := uT_in3 tb_2 34 rfl rfl
set_option maxRecDepth 20000 in
theorem kw_413 : Cond.instantiable RX4 9 ∈ uT := uT_in3 tb_2 35 rfl rfl
set_option maxRecDepth 20000 in
theorem kw_414 : Cond.methodLink RX11 90 yX4_init ∈ uT := uT_in3 tb_2 36 rfl rfl
set_option maxRecDepth 20000 in
theorem kw_415 : Cond.instanceMethod yX4_init ∈ uT := uT_in3 tb_2 37 rfl rfl
set_option maxRecDepth 20000 in
theorem kw_416 : Cond.code yX4_init cX4_init 2 (none : Option FieldType) ∈ uT := uT_in3 tb_2 38 rfl rfl
set_option maxRecDepth 20000 in
theorem kw_417 : Cond.methodLink RX4 3 Lib.objectInit ∈ uT := uT_in3 tb_2 39 rfl rfl
set_option maxRecDepth 20000 in
theorem kw_418 : Cond.classLink RX4 9 RX6 ∈ uT := uT_in3 tb_2 40 rfl rfl
set_option maxRecDepth 20000 in
theorem kw_419 : Cond.methodLink RX4 34 yX6_init ∈ uT := uT_in3 tb_2 41 rfl rfl
set_option maxRecDepth 20000 in
theorem kw_420 : Cond.fieldLink RX4 11 RX4 "parts" "[LEchoJars$Row;" ∈ uT := uT_in3 tb_2 42 rfl rfl
set_option maxRecDepth 20000 in
theorem kw_421 : Cond.fieldLink RX4 17 RX4 "overlaps" "[I" ∈ uT := uT_in3 tb_2 43 rfl rfl
set_option maxRecDepth 20000 in
theorem kw_422 : Cond.fieldLink RX4 21 RX4 "rests" "[I" ∈ uT := uT_in3 tb_2 44 rfl rfl
set_option maxRecDepth 20000 in
theorem kw_423 : Cond.fieldLink RX4 24 RX4 "isOpen" "[Z" ∈ uT := uT_in3 tb_2 45 rfl rfl
set_option maxRecDepth 20000 in
theorem kw_424 : Cond.fieldLink RX4 28 RX4 "open" "[I" ∈ uT := uT_in3 tb_2 46 rfl rfl
set_option maxRecDepth 20000 in
theorem kw_425 : Cond.fieldLink RX4 31 RX4 "spare" "[I" ∈ uT := uT_in3 tb_2 47 rfl rfl
set_option maxRecDepth 20000 in
theorem kw_426 : Cond.fieldLink RX4 99 RX4 "openCount" "I" ∈ uT := uT_in3 tb_2 48 rfl rfl
set_option maxRecDepth 20000 in
theorem kw_427 : Cond.fieldLink RX4 41 RX4 "count" "I" ∈ uT := uT_in3 tb_2 49 rfl rfl
set_option maxRecDepth 20000 in
theorem kw_428 : Cond.fieldLink RX4 37 RX4 "best" "LEchoJars$Row;" ∈ uT := uT_in3 tb_2 50 rfl rfl
set_option maxRecDepth 20000 in
theorem kw_429 : Cond.fieldLink RX11 348 RX4 "best" "LEchoJars$Row;" ∈ uT := uT_in3 tb_2 51 rfl rfl
set_option maxRecDepth 20000 in
theorem kw_449 : Cond.arrayClass (FieldType.boolean) ∈ uT := uT_in3 tb_2 71 rfl rfl
set_option maxRecDepth 20000 in
theorem kw_450 : Cond.classLink RX11 95 RX5 ∈ uT := uT_in3 tb_2 72 rfl rfl
set_option maxRecDepth 20000 in
theorem kw_451 : Cond.instantiable RX5 5 ∈ uT := uT_in3 tb_2 73 rfl rfl
set_option maxRecDepth 20000 in
theorem kw_453 : Cond.instanceMethod yX5_init ∈ uT := uT_in3 tb_2 75 rfl rfl
set_option maxRecDepth 20000 in
theorem kw_454 : Cond.code yX5_init cX5_init 1 (none : Option FieldType) ∈ uT := uT_in3 tb_2 76 rfl rfl
set_option maxRecDepth 20000 in
theorem kw_455 : Cond.methodLink RX5 3 Lib.objectInit ∈ uT := uT_in3 tb_2 77 rfl rfl
set_option maxRecDepth 20000 in
theorem kw_456 : Cond.classLink RX5 21 RX6 ∈ uT := uT_in3 tb_2 78 rfl rfl
set_option maxRecDepth 20000 in
theorem kw_457 : Cond.methodLink RX5 23 yX6_init ∈ uT := uT_in3 tb_2 79 rfl rfl
set_option maxRecDepth 20000 in
theorem kw_458 : Cond.fieldLink RX5 9 RX5 "links" "[I" ∈ uT := uT_in3 tb_2 80 rfl rfl
set_option maxRecDepth 20000 in
theorem kw_459 : Cond.fieldLink RX5 15 RX5 "lengths" "[I" ∈ uT := uT_in3 tb_2 81 rfl rfl
set_option maxRecDepth 20000 in
theorem kw_460 : Cond.fieldLink RX5 18 RX5 "gains" "[I" ∈ uT := uT_in3 tb_2 82 rfl rfl
set_option maxRecDepth 20000 in
theorem kw_461 : Cond.fieldLink RX5 26 RX5 "chainOrder" "LEchoJars$Row;" ∈ uT := uT_in3 tb_2 83 rfl rfl
set_option maxRecDepth 20000 in
theorem kw_462 : Cond.fieldLink RX11 377 RX5 "chainOrder" "LEchoJars$Row;" ∈ uT := uT_in3 tb_2 84 rfl rfl
set_option maxRecDepth 20000 in
theorem kw_463 : Cond.fieldLink RX5 30 RX5 "shelfOrder" "LEchoJars$Row;" ∈ uT := uT_in3 tb_2 85 rfl rfl
set_option maxRecDepth 20000 in
theorem kw_464 : Cond.fieldLink RX11 402 RX5 "shelfOrder" "LEchoJars$Row;" ∈ uT := uT_in3 tb_2 86 rfl rfl
set_option maxRecDepth 20000 in
theorem kw_476 : Cond.fieldLink RX11 10 RX11 "trays" "[LEchoJars$Tray;" ∈ uT := uT_in3 tb_2 98 rfl rfl
set_option maxRecDepth 20000 in
theorem kw_477 : Cond.fieldLink RX11 19 RX11 "tape" "LEchoJars$Tape;" ∈ uT := uT_in3 tb_2 99 rfl rfl
set_option maxRecDepth 20000 in
theorem kw_478 : Cond.fieldLink RX11 28 RX11 "shopReader" "LEchoJars$ShopReader;" ∈ uT := uT_in3 tb_2 100 rfl rfl
set_option maxRecDepth 20000 in
theorem kw_479 : Cond.fieldLink RX11 35 RX11 "lawReader" "LEchoJars$LawReader;" ∈ uT := uT_in3 tb_2 101 rfl rfl
set_option maxRecDepth 20000 in
theorem kw_480 : Cond.fieldLink RX11 58 RX11 "marks" "[LEchoJars$Mark;" ∈ uT := uT_in3 tb_2 102 rfl rfl
set_option maxRecDepth 20000 in
theorem kw_481 : Cond.fieldLink RX11 64 RX11 "heardRows" "[LEchoJars$Row;" ∈ uT := uT_in3 tb_2 103 rfl rfl
set_option maxRecDepth 20000 in
theorem kw_482 : Cond.fieldLink RX11 71 RX11 "slice" "LEchoJars$Row;" ∈ uT := uT_in3 tb_2 104 rfl rfl
set_option maxRecDepth 20000 in
theorem kw_483 : Cond.fieldLink RX11 75 RX11 "mixed" "LEchoJars$Row;" ∈ uT := uT_in3 tb_2 105 rfl rfl
set_option maxRecDepth 20000 in
theorem kw_484 : Cond.fieldLink RX11 78 RX11 "counts" "[I" ∈ uT := uT_in3 tb_2 106 rfl rfl
set_option maxRecDepth 20000 in
theorem kw_485 : Cond.fieldLink RX11 82 RX11 "brokeDays" "[I" ∈ uT := uT_in3 tb_2 107 rfl rfl
set_option maxRecDepth 20000 in
theorem kw_486 : Cond.fieldLink RX11 85 RX11 "triedDays" "[I" ∈ uT := uT_in3 tb_2 108 rfl rfl
set_option maxRecDepth 20000 in
theorem kw_487 : Cond.fieldLink RX11 91 RX11 "merger" "LEchoJars$Merger;" ∈ uT := uT_in3 tb_2 109 rfl rfl
set_option maxRecDepth 20000 in
theorem kw_488 : Cond.fieldLink RX11 98 RX11 "planner" "LEchoJars$Planner;" ∈ uT := uT_in3 tb_2 110 rfl rfl
set_option maxRecDepth 20000 in
theorem kw_489 : Cond.fieldLink RX11 42 RX11 "stock" "LEchoJars$Shop;" ∈ uT := uT_in3 tb_2 111 rfl rfl
set_option maxRecDepth 20000 in
theorem kw_490 : Cond.fieldLink RX11 49 RX11 "rules" "LEchoJars$Law;" ∈ uT := uT_in3 tb_2 112 rfl rfl
set_option maxRecDepth 20000 in
theorem kw_491 : Cond.fieldLink RX11 190 RX11 "today" "I" ∈ uT := uT_in3 tb_2 113 rfl rfl
set_option maxRecDepth 20000 in
theorem kw_492 : Cond.fieldLink RX11 443 RX11 "markCount" "I" ∈ uT := uT_in3 tb_2 114 rfl rfl
set_option maxRecDepth 20000 in
theorem kw_493 : Cond.fieldLink RX11 106 RX11 "state" "I" ∈ uT := uT_in3 tb_2 115 rfl rfl
set_option maxRecDepth 20000 in
theorem kw_494 : Cond.fieldLink RX11 110 RX11 "fractionTop" "J" ∈ uT := uT_in3 tb_2 116 rfl rfl
set_option maxRecDepth 20000 in
theorem kw_495 : Cond.fieldLink RX11 102 RX11 "fractionBottom" "J" ∈ uT := uT_in3 tb_2 117 rfl rfl
set_option maxRecDepth 20000 in
theorem kw_537 : Cond.methodLink RL 13 yX11_status ∈ uT := uT_in3 tb_2 159 rfl rfl
set_option maxRecDepth 20000 in
theorem kw_538 : Cond.instanceMethod yX11_status ∈ uT := uT_in3 tb_2 160 rfl rfl
set_option maxRecDepth 20000 in
theorem kw_539 : Cond.selects RX11 yX11_status yX11_status ∈ uT := uT_in3 tb_2 161 rfl rfl
set_option maxRecDepth 20000 in
theorem kw_540 : Cond.code yX11_status cX11_status 1 (some FieldType.int) ∈ uT := uT_in3 tb_2 162 rfl rfl
set_option maxRecDepth 20000 in
theorem kw_541 : Cond.methodLink RL 18 yX11_top ∈ uT := uT_in3 tb_2 163 rfl rfl
set_option maxRecDepth 20000 in
theorem kw_542 : Cond.instanceMethod yX11_top ∈ uT := uT_in3 tb_2 164 rfl rfl
set_option maxRecDepth 20000 in
theorem kw_543 : Cond.selects RX11 yX11_top yX11_top ∈ uT := uT_in3 tb_2 165 rfl rfl
set_option maxRecDepth 20000 in
theorem kw_544 : Cond.code yX11_top cX11_top 1 (some FieldType.long) ∈ uT := uT_in3 tb_2 166 rfl rfl
set_option maxRecDepth 20000 in
theorem kw_545 : Cond.methodLink RL 23 yX11_bottom ∈ uT := uT_in3 tb_2 167 rfl rfl
set_option maxRecDepth 20000 in
theorem kw_546 : Cond.instanceMethod yX11_bottom ∈ uT := uT_in3 tb_2 168 rfl rfl
set_option maxRecDepth 20000 in
theorem kw_547 : Cond.selects RX11 yX11_bottom yX11_bottom ∈ uT := uT_in3 tb_2 169 rfl rfl
set_option maxRecDepth 20000 in
theorem kw_548 : Cond.code yX11_bottom cX11_bottom 1 (some FieldType.long) ∈ uT := uT_in3 tb_2 170 rfl rfl
set_option maxRecDepth 20000 in
theorem kw_549 : Cond.methodLink RL 27 yX11_tray ∈ uT := uT_in3 tb_2 171 rfl rfl
set_option maxRecDepth 20000 in
theorem kw_550 : Cond.instanceMethod yX11_tray ∈ uT := uT_in3 tb_2 172 rfl rfl
set_option maxRecDepth 20000 in
theorem kw_551 : Cond.selects RX11 yX11_tray yX11_tray ∈ uT := uT_in3 tb_2 173 rfl rfl
set_option maxRecDepth 20000 in
theorem kw_552 : Cond.code yX11_tray cX11_tray 4 (some FieldType.boolean) ∈ uT := uT_in3 tb_2 174 rfl rfl
set_option maxRecDepth 20000 in
theorem kw_553 : Cond.methodLink RX11 113 yX11_isTray ∈ uT := uT_in3 tb_2 175 rfl rfl
set_option maxRecDepth 20000 in
theorem kw_554 : Cond.static yX11_isTray ∈ uT := uT_in3 tb_2 176 rfl rfl
set_option maxRecDepth 20000 in
theorem kw_555 : Cond.code yX11_isTray cX11_isTray 1 (some FieldType.boolean) ∈ uT := uT_in3 tb_2 177 rfl rfl
set_option maxRecDepth 20000 in
theorem kw_556 : Cond.constantLong RX11 117 (Int64.ofInt (3)) ∈ uT := uT_in3 tb_2 178 rfl rfl
set_option maxRecDepth 20000 in
theorem kw_557 : Cond.methodLink RX11 119 yX11_within ∈ uT := uT_in3 tb_2 179 rfl rfl
set_option maxRecDepth 20000 in
theorem kw_558 : Cond.static yX11_within ∈ uT := uT_in3 tb_2 180 rfl rfl
set_option maxRecDepth 20000 in
theorem kw_559 : Cond.code yX11_within cX11_within 6 (some FieldType.boolean) ∈ uT := uT_in3 tb_2 181 rfl rfl
set_option maxRecDepth 20000 in
theorem kw_560 : Cond.methodLink RX11 123 yX11_deny ∈ uT := uT_in3 tb_2 182 rfl rfl
set_option maxRecDepth 20000 in
theorem kw_562 : Cond.instanceMethod yX11_deny ∈ uT := uT_in3 tb_2 184 rfl rfl
set_option maxRecDepth 20000 in
theorem kw_563 : Cond.code yX11_deny cX11_deny 2 (some FieldType.boolean) ∈ uT := uT_in3 tb_2 185 rfl rfl
set_option maxRecDepth 20000 in
theorem kw_564 : Cond.methodLink RX11 126 yX10_lay ∈ uT := uT_in3 tb_2 186 rfl rfl
set_option maxRecDepth 20000 in
theorem kw_565 : Cond.instanceMethod yX10_lay ∈ uT := uT_in3 tb_2 187 rfl rfl
set_option maxRecDepth 20000 in
theorem kw_566 : Cond.selects RX10 yX10_lay yX10_lay ∈ uT := uT_in3 tb_2 188 rfl rfl
set_option maxRecDepth 20000 in
theorem kw_567 : Cond.code yX10_lay cX10_lay 4 (none : Option FieldType) ∈ uT := uT_in3 tb_2 189 rfl rfl
set_option maxRecDepth 20000 in
theorem kw_568 : Cond.methodLink RX10 19 Lib.Math.min.name ∈ uT := uT_in3 tb_2 190 rfl rfl
set_option maxRecDepth 20000 in
theorem kw_569 : Cond.static Lib.Math.min.name ∈ uT := uT_in3 tb_2 191 rfl rfl
set_option maxRecDepth 20000 in
theorem kw_570 : Cond.code Lib.Math.min.name Lib.Math.min.code 2 (some .int) ∈ uT := uT_in3 tb_2 192 rfl rfl
set_option maxRecDepth 20000 in
theorem kw_571 : Cond.methodLink RX11 130 yX11_allow ∈ uT := uT_in3 tb_2 193 rfl rfl
set_option maxRecDepth 20000 in
theorem kw_573 : Cond.instanceMethod yX11_allow ∈ uT := uT_in3 tb_2 195 rfl rfl
set_option maxRecDepth 20000 in
theorem kw_574 : Cond.code yX11_allow cX11_allow 1 (some FieldType.boolean) ∈ uT := uT_in3 tb_2 196 rfl rfl
set_option maxRecDepth 20000 in
theorem kw_575 : Cond.methodLink RL 34 yX11_write ∈ uT := uT_in3 tb_2 197 rfl rfl
set_option maxRecDepth 20000 in
theorem kw_576 : Cond.instanceMethod yX11_write ∈ uT := uT_in3 tb_2 198 rfl rfl
set_option maxRecDepth 20000 in
theorem kw_577 : Cond.selects RX11 yX11_write yX11_write ∈ uT := uT_in3 tb_2 199 rfl rfl
set_option maxRecDepth 20000 in
theorem kw_578 : Cond.code yX11_write cX11_write 6 (some FieldType.boolean) ∈ uT := uT_in3 tb_2 200 rfl rfl
set_option maxRecDepth 20000 in
theorem kw_579 : Cond.methodLink RX11 134 yX11_placeReason ∈ uT := uT_in3 tb_2 201 rfl rfl
set_option maxRecDepth 20000 in
theorem kw_581 : Cond.instanceMethod yX11_placeReason ∈ uT := uT_in3 tb_2 203 rfl rfl
set_option maxRecDepth 20000 in
theorem kw_582 : Cond.code yX11_placeReason cX11_placeReason 3 (some FieldType.int) ∈ uT := uT_in3 tb_2 204 rfl rfl
set_option maxRecDepth 20000 in
theorem kw_583 : Cond.methodLink RX11 150 yX10_isMissing ∈ uT := uT_in3 tb_2 205 rfl rfl
set_option maxRecDepth 20000 in
theorem kw_584 : Cond.instanceMethod yX10_isMissing ∈ uT := uT_in3 tb_2 206 rfl rfl
set_option maxRecDepth 20000 in
theorem kw_585 : Cond.selects RX10 yX10_isMissing yX10_isMissing ∈ uT := uT_in3 tb_2 207 rfl rfl
set_option maxRecDepth 20000 in
theorem kw_586 : Cond.code yX10_isMissing cX10_isMissing 1 (some FieldType.boolean) ∈ uT := uT_in3 tb_2 208 rfl rfl
set_option maxRecDepth 20000 in
theorem kw_587 : Cond.methodLink RX11 156 yX10_hasRun ∈ uT := uT_in3 tb_2 209 rfl rfl
set_option maxRecDepth 20000 in
theorem kw_588 : Cond.instanceMethod yX10_hasRun ∈ uT := uT_in3 tb_2 210 rfl rfl
set_option maxRecDepth 20000 in
theorem kw_589 : Cond.selects RX10 yX10_hasRun yX10_hasRun ∈ uT := uT_in3 tb_2 211 rfl rfl
set_option maxRecDepth 20000 in
theorem kw_590 : Cond.code yX10_hasRun cX10_hasRun 3 (some FieldType.boolean) ∈ uT := uT_in3 tb_2 212 rfl rfl
set_option maxRecDepth 20000 in
theorem kw_591 : Cond.methodLink RX11 138 yX10_put ∈ uT := uT_in3 tb_2 213 rfl rfl
set_option maxRecDepth 20000 in
theorem kw_592 : Cond.instanceMethod yX10_put ∈ uT := uT_in3 tb_2 214 rfl rfl
set_option maxRecDepth 20000 in
theorem kw_593 : Cond.selects RX10 yX10_put yX10_put ∈ uT := uT_in3 tb_2 215 rfl rfl
set_option maxRecDepth 20000 in
theorem kw_594 : Cond.code yX10_put cX10_put 4 (none : Option FieldType) ∈ uT := uT_in3 tb_2 216 rfl rfl
set_option maxRecDepth 20000 in
theorem kw_595 : Cond.methodLink RX10 28 yX10_hasRun ∈ uT := uT_in3 tb_2 217 rfl rfl
set_option maxRecDepth 20000 in
theorem kw_596 : Cond.methodLink RX10 34 yX10_cut ∈ uT := uT_in3 tb_2 218 rfl rfl
set_option maxRecDepth 20000 in
theorem kw_598 : Cond.instanceMethod yX10_cut ∈ uT := uT_in3 tb_2 220 rfl rfl
set_option maxRecDepth 20000 in
theorem kw_599 : Cond.code yX10_cut cX10_cut 3 (some FieldType.long) ∈ uT := uT_in3 tb_2 221 rfl rfl
set_option maxRecDepth 20000 in
theorem kw_600 : Cond.methodLink RL 39 yX11_read ∈ uT := uT_in3 tb_2 222 rfl rfl
set_option maxRecDepth 20000 in
theorem kw_601 : Cond.instanceMethod yX11_read ∈ uT := uT_in3 tb_2 223 rfl rfl
set_option maxRecDepth 20000 in
theorem kw_602 : Cond.selects RX11 yX11_read yX11_read ∈ uT := uT_in3 tb_2 224 rfl rfl
set_option maxRecDepth 20000 in
theorem kw_603 : Cond.code yX11_read cX11_read 4 (some FieldType.long) ∈ uT := uT_in3 tb_2 225 rfl rfl
set_option maxRecDepth 20000 in
theorem kw_604 : Cond.methodLink RX11 142 yX11_refuse ∈ uT := uT_in3 tb_2 226 rfl rfl
set_option maxRecDepth 20000 in
theorem kw_606 : Cond.instanceMethod yX11_refuse ∈ uT := uT_in3 tb_2 228 rfl rfl
set_option maxRecDepth 20000 in
theorem kw_607 : Cond.code yX11_refuse cX11_refuse 2 (some FieldType.int) ∈ uT := uT_in3 tb_2 229 rfl rfl
set_option maxRecDepth 20000 in
theorem kw_608 : Cond.methodLink RX11 146 yX10_get ∈ uT := uT_in3 tb_2 230 rfl rfl
set_option maxRecDepth 20000 in
theorem kw_609 : Cond.instanceMethod yX10_get ∈ uT := uT_in3 tb_2 231 rfl rfl
set_option maxRecDepth 20000 in
theorem kw_610 : Cond.selects RX10 yX10_get yX10_get ∈ uT := uT_in3 tb_2 232 rfl rfl
set_option maxRecDepth 20000 in
theorem kw_611 : Cond.code yX10_get cX10_get 2 (some FieldType.long) ∈ uT := uT_in3 tb_2 233 rfl rfl
set_option maxRecDepth 20000 in
theorem kw_612 : Cond.constantLong RX10 32 (Int64.ofInt (-1)) ∈ uT := uT_in3 tb_2 234 rfl rfl
set_option maxRecDepth 20000 in
theorem kw_613 : Cond.methodLink RL 44 yX11_pour ∈ uT := uT_in3 tb_2 235 rfl rfl
set_option maxRecDepth 20000 in
theorem kw_614 : Cond.instanceMethod yX11_pour ∈ uT := uT_in3 tb_2 236 rfl rfl
set_option maxRecDepth 20000 in
theorem kw_615 : Cond.selects RX11 yX11_pour yX11_pour ∈ uT := uT_in3 tb_2 237 rfl rfl
set_option maxRecDepth 20000 in
theorem kw_616 : Cond.code yX11_pour cX11_pour 8 (some FieldType.boolean) ∈ uT := uT_in3 tb_2 238 rfl rfl
set_option maxRecDepth 20000 in
theorem kw_617 : Cond.methodLink RX11 164 arraycopyName ∈ uT := uT_in3 tb_2 239 rfl rfl
set_option maxRecDepth 20000 in
theorem kw_618 : Cond.static arraycopyName ∈ uT := uT_in3 tb_3 0 rfl rfl
set_option maxRecDepth 20000 in
theorem kw_619 : Cond.native arraycopyName ∈ uT := uT_in3 tb_3 1 rfl rfl
set_option maxRecDepth 20000 in
theorem kw_620 : Cond.methodLink RL 49 yX11_feed ∈ uT := uT_in3 tb_3 2 rfl rfl
set_option maxRecDepth 20000 in
theorem kw_621 : Cond.instanceMethod yX11_feed ∈ uT := uT_in3 tb_3 3 rfl rfl
set_option maxRecDepth 20000 in
theorem kw_622 : Cond.selects RX11 yX11_feed yX11_feed ∈ uT := uT_in3 tb_3 4 rfl rfl
set_option maxRecDepth 20000 in
theorem kw_623 : Cond.code yX11_feed cX11_feed 6 (some FieldType.int) ∈ uT := uT_in3 tb_3 5 rfl rfl
set_option maxRecDepth 20000 in
theorem kw_624 : Cond.methodLink RX11 170 yX9_hasRoomFor ∈ uT := uT_in3 tb_3 6 rfl rfl
set_option maxRecDepth 20000 in
theorem kw_625 : Cond.instanceMethod yX9_hasRoomFor ∈ uT := uT_in3 tb_3 7 rfl rfl
set_option maxRecDepth 20000 in
theorem kw_626 : Cond.selects RX9 yX9_hasRoomFor yX9_hasRoomFor ∈ uT := uT_in3 tb_3 8 rfl rfl
set_option maxRecDepth 20000 in
theorem kw_627 : Cond.code yX9_hasRoomFor cX9_hasRoomFor 2 (some FieldType.boolean) ∈ uT := uT_in3 tb_3 9 rfl rfl
set_option maxRecDepth 20000 in
theorem kw_628 : Cond.methodLink RX11 173 yX9_addInt ∈ uT := uT_in3 tb_3 10 rfl rfl
set_option maxRecDepth 20000 in
theorem kw_629 : Cond.instanceMethod yX9_addInt ∈ uT := uT_in3 tb_3 11 rfl rfl
set_option maxRecDepth 20000 in
theorem kw_630 : Cond.selects RX9 yX9_addInt yX9_addInt ∈ uT := uT_in3 tb_3 12 rfl rfl
set_option maxRecDepth 20000 in
theorem kw_631 : Cond.code yX9_addInt cX9_addInt 3 (none : Option FieldType) ∈ uT := uT_in3 tb_3 13 rfl rfl
set_option maxRecDepth 20000 in
theorem kw_632 : Cond.methodLink RL 54 yX11_shop ∈ uT := uT_in3 tb_3 14 rfl rfl
set_option maxRecDepth 20000 in
theorem kw_633 : Cond.instanceMethod yX11_shop ∈ uT := uT_in3 tb_3 15 rfl rfl
set_option maxRecDepth 20000 in
theorem kw_634 : Cond.selects RX11 yX11_shop yX11_shop ∈ uT := uT_in3 tb_3 16 rfl rfl
set_option maxRecDepth 20000 in
theorem kw_635 : Cond.code yX11_shop cX11_shop 4 (some FieldType.int) ∈ uT := uT_in3 tb_3 17 rfl rfl
set_option maxRecDepth 20000 in
theorem kw_636 : Cond.methodLink RX11 180 yX8_readShop ∈ uT := uT_in3 tb_3 18 rfl rfl
set_option maxRecDepth 20000 in
theorem kw_637 : Cond.instanceMethod yX8_readShop ∈ uT := uT_in3 tb_3 19 rfl rfl
set_option maxRecDepth 20000 in
theorem kw_638 : Cond.selects RX8 yX8_readShop yX8_readShop ∈ uT := uT_in3 tb_3 20 rfl rfl
set_option maxRecDepth 20000 in
theorem kw_639 : Cond.code yX8_readShop cX8_readShop 3 (some (FieldType.object "EchoJars$Shop")) ∈ uT := uT_in3 tb_3 21 rfl rfl
set_option maxRecDepth 20000 in
theorem kw_640 : Cond.methodLink RX8 35 yX9_open ∈ uT := uT_in3 tb_3 22 rfl rfl
set_option maxRecDepth 20000 in
theorem kw_641 : Cond.instanceMethod yX9_open ∈ uT := uT_in3 tb_3 23 rfl rfl
set_option maxRecDepth 20000 in
theorem kw_642 : Cond.selects RX9 yX9_open yX9_open ∈ uT := uT_in3 tb_3 24 rfl rfl
set_option maxRecDepth 20000 in
theorem kw_643 : Cond.code yX9_open cX9_open 2 (none : Option FieldType) ∈ uT := uT_in3 tb_3 25 rfl rfl
set_option maxRecDepth 20000 in
theorem kw_644 : Cond.methodLink RX9 25 Lib.Math.min.name ∈ uT := uT_in3 tb_3 26 rfl rfl
set_option maxRecDepth 20000 in
theorem kw_645 : Cond.methodLink RX9 37 yX9_next ∈ uT := uT_in3 tb_3 27 rfl rfl
set_option maxRecDepth 20000 in
theorem kw_646 : Cond.instanceMethod yX9_next ∈ uT := uT_in3 tb_3 28 rfl rfl
set_option maxRecDepth 20000 in
theorem kw_647 : Cond.selects RX9 yX9_next yX9_next ∈ uT := uT_in3 tb_3 29 rfl rfl
set_option maxRecDepth 20000 in
theorem kw_648 : Cond.code yX9_next cX9_next 1 (none : Option FieldType) ∈ uT := uT_in3 tb_3 30 rfl rfl
set_option maxRecDepth 20000 in
theorem kw_649 : Cond.methodLink RX9 46 yX9_isBlank ∈ uT := uT_in3 tb_3 31 rfl rfl
set_option maxRecDepth 20000 in
theorem kw_650 : Cond.static yX9_isBlank ∈ uT := uT_in3 tb_3 32 rfl rfl
set_option maxRecDepth 20000 in
theorem kw_651 : Cond.code yX9_isBlank cX9_isBlank 1 (some FieldType.boolean) ∈ uT := uT_in3 tb_3 33 rfl rfl
set_option maxRecDepth 20000 in
theorem kw_652 : Cond.methodLink RX9 50 yX9_isSmallLetter ∈ uT := uT_in3 tb_3 34 rfl rfl
set_option maxRecDepth 20000 in
theorem kw_653 : Cond.static yX9_isSmallLetter ∈ uT := uT_in3 tb_3 35 rfl rfl
set_option maxRecDepth 20000 in
theorem kw_654 : Cond.code yX9_isSmallLetter cX9_isSmallLetter 1 (some FieldType.boolean) ∈ uT := uT_in3 tb_3 36 rfl rfl
set_option maxRecDepth 20000 in
theorem kw_655 : Cond.methodLink RX9 53 yX9_isDigit ∈ uT := uT_in3 tb_3 37 rfl rfl
set_option maxRecDepth 20000 in
theorem kw_656 : Cond.static yX9_isDigit ∈ uT := uT_in3 tb_3 38 rfl rfl
set_option maxRecDepth 20000 in
theorem kw_657 : Cond.code yX9_isDigit cX9_isDigit 1 (some FieldType.boolean) ∈ uT := uT_in3 tb_3 39 rfl rfl
set_option maxRecDepth 20000 in
theorem kw_658 : Cond.methodLink RX9 56 yX9_size ∈ uT := uT_in3 tb_3 40 rfl rfl
set_option maxRecDepth 20000 in
theorem kw_659 : Cond.instanceMethod yX9_size ∈ uT := uT_in3 tb_3 41 rfl rfl
set_option maxRecDepth 20000 in
theorem kw_660 : Cond.selects RX9 yX9_size yX9_size ∈ uT := uT_in3 tb_3 42 rfl rfl
set_option maxRecDepth 20000 in
theorem kw_661 : Cond.code yX9_size cX9_size 1 (some FieldType.int) ∈ uT := uT_in3 tb_3 43 rfl rfl
set_option maxRecDepth 20000 in
theorem kw_662 : Cond.methodLink RX8 41 yX9_hasFault ∈ uT := uT_in3 tb_3 44 rfl rfl
set_option maxRecDepth 20000 in
theorem kw_663 : Cond.instanceMethod yX9_hasFault ∈ uT := uT_in3 tb_3 45 rfl rfl
set_option maxRecDepth 20000 in
theorem kw_664 : Cond.selects RX9 yX9_hasFault yX9_hasFault ∈ uT := uT_in3 tb_3 46 rfl rfl
set_option maxRecDepth 20000 in
theorem kw_665 : Cond.code yX9_hasFault cX9_hasFault 1 (some FieldType.boolean) ∈ uT := uT_in3 tb_3 47 rfl rfl
set_option maxRecDepth 20000 in
theorem kw_666 : Cond.methodLink RX8 45 yX9_isAtEnd ∈ uT := uT_in3 tb_3 48 rfl rfl
set_option maxRecDepth 20000 in
theorem kw_667 : Cond.instanceMethod yX9_isAtEnd ∈ uT := uT_in3 tb_3 49 rfl rfl
set_option maxRecDepth 20000 in
theorem kw_668 : Cond.selects RX9 yX9_isAtEnd yX9_isAtEnd ∈ uT := uT_in3 tb_3 50 rfl rfl
set_option maxRecDepth 20000 in
theorem kw_669 : Cond.code yX9_isAtEnd cX9_isAtEnd 1 (some FieldType.boolean) ∈ uT := uT_in3 tb_3 51 rfl rfl
set_option maxRecDepth 20000 in
theorem kw_671 : Cond.methodLink RX8 50 yX9_isWord ∈ uT := uT_in3 tb_3 53 rfl rfl
set_option maxRecDepth 20000 in
theorem kw_672 : Cond.instanceMethod yX9_isWord ∈ uT := uT_in3 tb_3 54 rfl rfl
set_option maxRecDepth 20000 in
theorem kw_673 : Cond.selects RX9 yX9_isWord yX9_isWord ∈ uT := uT_in3 tb_3 55 rfl rfl
set_option maxRecDepth 20000 in
theorem kw_674 : Cond.code yX9_isWord cX9_isWord 4 (some FieldType.boolean) ∈ uT := uT_in3 tb_3 56 rfl rfl
set_option maxRecDepth 20000 in
theorem kw_675 : Cond.methodLink RX9 60 yJ0_length_8abf5 ∈ uT := uT_in3 tb_3 57 rfl rfl
set_option maxRecDepth 20000 in
theorem kw_676 : Cond.instanceMethod yJ0_length_8abf5 ∈ uT := uT_in3 tb_3 58 rfl rfl
set_option maxRecDepth 20000 in
theorem kw_677 : Cond.selects RJ0 yJ0_length_8abf5 yJ0_length_8abf5 ∈ uT := uT_in3 tb_3 59 rfl rfl
set_option maxRecDepth 20000 in
theorem kw_678 : Cond.code yJ0_length_8abf5 cJ0_length_8abf5 1 (some FieldType.int) ∈ uT := uT_in3 tb_3 60 rfl rfl
set_option maxRecDepth 20000 in
theorem kw_679 : Cond.methodLink RJ0 335 yJ0_coder_7d493 ∈ uT := uT_in3 tb_3 61 rfl rfl
set_option maxRecDepth 20000 in
theorem kw_680 : Cond.instanceMethod yJ0_coder_7d493 ∈ uT := uT_in3 tb_3 62 rfl rfl
set_option maxRecDepth 20000 in
theorem kw_681 : Cond.selects RJ0 yJ0_coder_7d493 yJ0_coder_7d493 ∈ uT := uT_in3 tb_3 63 rfl rfl
set_option maxRecDepth 20000 in
theorem kw_682 : Cond.code yJ0_coder_7d493 cJ0_coder_7d493 1 (some FieldType.byte) ∈ uT := uT_in3 tb_3 64 rfl rfl
set_option maxRecDepth 20000 in
theorem kw_683 : Cond.fieldLink RJ0 38 RJ0 "COMPACT_STRINGS" "Z" ∈ uT := uT_in3 tb_3 65 rfl rfl
set_option maxRecDepth 20000 in
theorem kw_685 : Cond.methodLink RX9 64 yX9_letterAt ∈ uT := uT_in3 tb_3 67 rfl rfl
set_option maxRecDepth 20000 in
theorem kw_686 : Cond.instanceMethod yX9_letterAt ∈ uT := uT_in3 tb_3 68 rfl rfl
set_option maxRecDepth 20000 in
theorem kw_687 : Cond.selects RX9 yX9_letterAt yX9_letterAt ∈ uT := uT_in3 tb_3 69 rfl rfl
set_option maxRecDepth 20000 in
theorem kw_688 : Cond.code yX9_letterAt cX9_letterAt 3 (some FieldType.int) ∈ uT := uT_in3 tb_3 70 rfl rfl
set_option maxRecDepth 20000 in
theorem kw_689 : Cond.methodLink RX9 68 yJ0_charAt_5068e ∈ uT := uT_in3 tb_3 71 rfl rfl
set_option maxRecDepth 20000 in
theorem kw_690 : Cond.instanceMethod yJ0_charAt_5068e ∈ uT := uT_in3 tb_3 72 rfl rfl
set_option maxRecDepth 20000 in
theorem kw_691 : Cond.selects RJ0 yJ0_charAt_5068e yJ0_charAt_5068e ∈ uT := uT_in3 tb_3 73 rfl rfl
set_option maxRecDepth 20000 in
theorem kw_692 : Cond.code yJ0_charAt_5068e cJ0_charAt_5068e 2 (some FieldType.char) ∈ uT := uT_in3 tb_3 74 rfl rfl
set_option maxRecDepth 20000 in
theorem kw_693 : Cond.methodLink RJ0 492 yJ0_isLatin1_aae02 ∈ uT := uT_in3 tb_3 75 rfl rfl
set_option maxRecDepth 20000 in
theorem kw_694 : Cond.instanceMethod yJ0_isLatin1_aae02 ∈ uT := uT_in3 tb_3 76 rfl rfl
set_option maxRecDepth 20000 in
theorem kw_695 : Cond.selects RJ0 yJ0_isLatin1_aae02 yJ0_isLatin1_aae02 ∈ uT := uT_in3 tb_3 77 rfl rfl
set_option maxRecDepth 20000 in
theorem kw_696 : Cond.code yJ0_isLatin1_aae02 cJ0_isLatin1_aae02 1 (some FieldType.boolean) ∈ uT := uT_in3 tb_3 78 rfl rfl
set_option maxRecDepth 20000 in
theorem kw_697 : Cond.methodLink RJ0 495 yJ1_charAt_3b067 ∈ uT := uT_in3 tb_3 79 rfl rfl
set_option maxRecDepth 20000 in
theorem kw_698 : Cond.static yJ1_charAt_3b067 ∈ uT := uT_in3 tb_3 80 rfl rfl
set_option maxRecDepth 20000 in
theorem kw_699 : Cond.code yJ1_charAt_3b067 cJ1_charAt_3b067 2 (some FieldType.char) ∈ uT := uT_in3 tb_3 81 rfl rfl
set_option maxRecDepth 20000 in
theorem kw_700 : Cond.methodLink RJ1 9 yJ0_checkIndex_df160 ∈ uT := uT_in3 tb_3 82 rfl rfl
set_option maxRecDepth 20000 in
theorem kw_701 : Cond.static yJ0_checkIndex_df160 ∈ uT := uT_in3 tb_3 83 rfl rfl
set_option maxRecDepth 20000 in
theorem kw_702 : Cond.code yJ0_checkIndex_df160 cJ0_checkIndex_df160 2 (none : Option FieldType) ∈ uT := uT_in3 tb_3 84 rfl rfl
set_option maxRecDepth 20000 in
theorem kw_703 : Cond.fieldLink RJ0 1053 RJ3 "SIOOBE_FORMATTER" "Ljava/util/function/BiFunction;" ∈ uT := uT_in3 tb_3 85 rfl rfl
set_option maxRecDepth 20000 in
theorem kw_705 : Cond.methodLink RJ0 1059 yJ3_checkIndex_8e157 ∈ uT := uT_in3 tb_3 87 rfl rfl
set_option maxRecDepth 20000 in
theorem kw_706 : Cond.static yJ3_checkIndex_8e157 ∈ uT := uT_in3 tb_3 88 rfl rfl
set_option maxRecDepth 20000 in
theorem kw_707 : Cond.code yJ3_checkIndex_8e157 cJ3_checkIndex_8e157 3 (some FieldType.int) ∈ uT := uT_in3 tb_3 89 rfl rfl
set_option maxRecDepth 20000 in
theorem kw_708 : Cond.methodLink RJ0 498 yJ2_charAt_3b067 ∈ uT := uT_in3 tb_3 90 rfl rfl
set_option maxRecDepth 20000 in
theorem kw_709 : Cond.static yJ2_charAt_3b067 ∈ uT := uT_in3 tb_3 91 rfl rfl
set_option maxRecDepth 20000 in
theorem kw_710 : Cond.code yJ2_charAt_3b067 cJ2_charAt_3b067 2 (some FieldType.char) ∈ uT := uT_in3 tb_3 92 rfl rfl
set_option maxRecDepth 20000 in
theorem kw_711 : Cond.methodLink RJ2 67 yJ2_checkIndex_2214a ∈ uT := uT_in3 tb_3 93 rfl rfl
set_option maxRecDepth 20000 in
theorem kw_712 : Cond.static yJ2_checkIndex_2214a ∈ uT := uT_in3 tb_3 94 rfl rfl
set_option maxRecDepth 20000 in
theorem kw_713 : Cond.code yJ2_checkIndex_2214a cJ2_checkIndex_2214a 2 (none : Option FieldType) ∈ uT := uT_in3 tb_3 95 rfl rfl
set_option maxRecDepth 20000 in
theorem kw_714 : Cond.methodLink RJ2 48 yJ2_length_9d52b ∈ uT := uT_in3 tb_3 96 rfl rfl
set_option maxRecDepth 20000 in
theorem kw_715 : Cond.static yJ2_length_9d52b ∈ uT := uT_in3 tb_3 97 rfl rfl
set_option maxRecDepth 20000 in
theorem kw_716 : Cond.code yJ2_length_9d52b cJ2_length_9d52b 1 (some FieldType.int) ∈ uT := uT_in3 tb_3 98 rfl rfl
set_option maxRecDepth 20000 in
theorem kw_717 : Cond.methodLink RJ2 414 yJ0_checkIndex_df160 ∈ uT := uT_in3 tb_3 99 rfl rfl
set_option maxRecDepth 20000 in
theorem kw_718 : Cond.methodLink RJ2 71 yJ2_getChar_3b067 ∈ uT := uT_in3 tb_3 100 rfl rfl
set_option maxRecDepth 20000 in
theorem kw_719 : Cond.static yJ2_getChar_3b067 ∈ uT := uT_in3 tb_3 101 rfl rfl
set_option maxRecDepth 20000 in
theorem kw_720 : Cond.code yJ2_getChar_3b067 cJ2_getChar_3b067 2 (some FieldType.char) ∈ uT := uT_in3 tb_3 102 rfl rfl
set_option maxRecDepth 20000 in
theorem kw_721 : Cond.fieldLink RJ2 44 RJ2 "$assertionsDisabled" "Z" ∈ uT := uT_in3 tb_3 103 rfl rfl
set_option maxRecDepth 20000 in
theorem kw_723 : Cond.fieldLink RJ2 59 RJ2 "HI_BYTE_SHIFT" "I" ∈ uT := uT_in3 tb_3 105 rfl rfl
set_option maxRecDepth 20000 in
theorem kw_725 : Cond.fieldLink RJ2 63 RJ2 "LO_BYTE_SHIFT" "I" ∈ uT := uT_in3 tb_3 107 rfl rfl
set_option maxRecDepth 20000 in
theorem kw_727 : Cond.methodLink RX8 54 yX8_readSound ∈ uT := uT_in3 tb_3 109 rfl rfl
set_option maxRecDepth 20000 in
theorem kw_729 : Cond.instanceMethod yX8_readSound ∈ uT := uT_in3 tb_3 111 rfl rfl
set_option maxRecDepth 20000 in
theorem kw_730 : Cond.code yX8_readSound cX8_readSound 1 (none : Option FieldType) ∈ uT := uT_in3 tb_3 112 rfl rfl
set_option maxRecDepth 20000 in
theorem kw_731 : Cond.methodLink RX8 67 yX9_stop ∈ uT := uT_in3 tb_3 113 rfl rfl
set_option maxRecDepth 20000 in
theorem kw_732 : Cond.instanceMethod yX9_stop ∈ uT := uT_in3 tb_3 114 rfl rfl
set_option maxRecDepth 20000 in
theorem kw_733 : Cond.selects RX9 yX9_stop yX9_stop ∈ uT := uT_in3 tb_3 115 rfl rfl
set_option maxRecDepth 20000 in
theorem kw_734 : Cond.code yX9_stop cX9_stop 2 (none : Option FieldType) ∈ uT := uT_in3 tb_3 116 rfl rfl
set_option maxRecDepth 20000 in
theorem kw_735 : Cond.methodLink RX8 74 yX9_next ∈ uT := uT_in3 tb_3 117 rfl rfl
set_option maxRecDepth 20000 in
theorem kw_736 : Cond.methodLink RX8 77 yX8_takeNewName ∈ uT := uT_in3 tb_3 118 rfl rfl
set_option maxRecDepth 20000 in
theorem kw_738 : Cond.instanceMethod yX8_takeNewName ∈ uT := uT_in3 tb_3 120 rfl rfl
set_option maxRecDepth 20000 in
theorem kw_739 : Cond.code yX8_takeNewName cX8_takeNewName 4 (none : Option FieldType) ∈ uT := uT_in3 tb_3 121 rfl rfl
set_option maxRecDepth 20000 in
theorem kw_740 : Cond.methodLink RX8 171 yX9_isName ∈ uT := uT_in3 tb_3 122 rfl rfl
set_option maxRecDepth 20000 in
theorem kw_741 : Cond.instanceMethod yX9_isName ∈ uT := uT_in3 tb_3 123 rfl rfl
set_option maxRecDepth 20000 in
theorem kw_742 : Cond.selects RX9 yX9_isName yX9_isName ∈ uT := uT_in3 tb_3 124 rfl rfl
set_option maxRecDepth 20000 in
theorem kw_743 : Cond.code yX9_isName cX9_isName 2 (some FieldType.boolean) ∈ uT := uT_in3 tb_3 125 rfl rfl
set_option maxRecDepth 20000 in
theorem kw_745 : Cond.methodLink RX9 74 yX9_isWord ∈ uT := uT_in3 tb_3 127 rfl rfl
set_option maxRecDepth 20000 in
theorem kw_766 : Cond.methodLink RX9 117 yX9_isWordUpTo ∈ uT := uT_in3 tb_3 148 rfl rfl
set_option maxRecDepth 20000 in
theorem kw_767 : Cond.instanceMethod yX9_isWordUpTo ∈ uT := uT_in3 tb_3 149 rfl rfl
set_option maxRecDepth 20000 in
theorem kw_768 : Cond.selects RX9 yX9_isWordUpTo yX9_isWordUpTo ∈ uT := uT_in3 tb_3 150 rfl rfl
set_option maxRecDepth 20000 in
theorem kw_769 : Cond.code yX9_isWordUpTo cX9_isWordUpTo 2 (some FieldType.boolean) ∈ uT := uT_in3 tb_3 151 rfl rfl
set_option maxRecDepth 20000 in
theorem kw_770 : Cond.methodLink RX8 174 yX8_findName ∈ uT := uT_in3 tb_3 152 rfl rfl
set_option maxRecDepth 20000 in
theorem kw_772 : Cond.instanceMethod yX8_findName ∈ uT := uT_in3 tb_3 154 rfl rfl
set_option maxRecDepth 20000 in
theorem kw_773 : Cond.code yX8_findName cX8_findName 5 (some FieldType.int) ∈ uT := uT_in3 tb_3 155 rfl rfl
set_option maxRecDepth 20000 in
theorem kw_774 : Cond.methodLink RX8 186 yX9_isWordOf ∈ uT := uT_in3 tb_3 156 rfl rfl
set_option maxRecDepth 20000 in
theorem kw_775 : Cond.instanceMethod yX9_isWordOf ∈ uT := uT_in3 tb_3 157 rfl rfl
set_option maxRecDepth 20000 in
theorem kw_776 : Cond.selects RX9 yX9_isWordOf yX9_isWordOf ∈ uT := uT_in3 tb_3 158 rfl rfl
set_option maxRecDepth 20000 in
theorem kw_777 : Cond.code yX9_isWordOf cX9_isWordOf 5 (some FieldType.boolean) ∈ uT := uT_in3 tb_3 159 rfl rfl
set_option maxRecDepth 20000 in
theorem kw_778 : Cond.methodLink RX8 181 yX9_size ∈ uT := uT_in3 tb_3 160 rfl rfl
set_option maxRecDepth 20000 in
theorem kw_779 : Cond.methodLink RX8 85 yX8_takeLetters ∈ uT := uT_in3 tb_3 161 rfl rfl
set_option maxRecDepth 20000 in
theorem kw_781 : Cond.instanceMethod yX8_takeLetters ∈ uT := uT_in3 tb_3 163 rfl rfl
set_option maxRecDepth 20000 in
theorem kw_782 : Cond.code yX8_takeLetters cX8_takeLetters 3 (none : Option FieldType) ∈ uT := uT_in3 tb_3 164 rfl rfl
set_option maxRecDepth 20000 in
theorem kw_783 : Cond.methodLink RX8 190 yX9_isWordUpTo ∈ uT := uT_in3 tb_3 165 rfl rfl
set_option maxRecDepth 20000 in
theorem kw_784 : Cond.methodLink RX8 194 yX9_letterAt ∈ uT := uT_in3 tb_3 166 rfl rfl
set_option maxRecDepth 20000 in
theorem kw_785 : Cond.methodLink RX8 198 yX6_add ∈ uT := uT_in3 tb_3 167 rfl rfl
set_option maxRecDepth 20000 in
theorem kw_786 : Cond.instanceMethod yX6_add ∈ uT := uT_in3 tb_3 168 rfl rfl
set_option maxRecDepth 20000 in
theorem kw_787 : Cond.selects RX6 yX6_add yX6_add ∈ uT := uT_in3 tb_3 169 rfl rfl
set_option maxRecDepth 20000 in
theorem kw_788 : Cond.code yX6_add cX6_add 2 (none : Option FieldType) ∈ uT := uT_in3 tb_3 170 rfl rfl
set_option maxRecDepth 20000 in
theorem kw_789 : Cond.methodLink RX8 89 yX9_takeSign ∈ uT := uT_in3 tb_3 171 rfl rfl
set_option maxRecDepth 20000 in
theorem kw_790 : Cond.instanceMethod yX9_takeSign ∈ uT := uT_in3 tb_3 172 rfl rfl
set_option maxRecDepth 20000 in
theorem kw_791 : Cond.selects RX9 yX9_takeSign yX9_takeSign ∈ uT := uT_in3 tb_3 173 rfl rfl
set_option maxRecDepth 20000 in
theorem kw_792 : Cond.code yX9_takeSign cX9_takeSign 1 (none : Option FieldType) ∈ uT := uT_in3 tb_3 174 rfl rfl
set_option maxRecDepth 20000 in
theorem kw_793 : Cond.methodLink RX9 124 yX9_stop ∈ uT := uT_in3 tb_3 175 rfl rfl
set_option maxRecDepth 20000 in
theorem kw_795 : Cond.methodLink RX8 59 yX8_readJar ∈ uT := uT_in3 tb_3 177 rfl rfl
set_option maxRecDepth 20000 in
theorem kw_797 : Cond.instanceMethod yX8_readJar ∈ uT := uT_in3 tb_3 179 rfl rfl
set_option maxRecDepth 20000 in
theorem kw_798 : Cond.code yX8_readJar cX8_readJar 2 (none : Option FieldType) ∈ uT := uT_in3 tb_3 180 rfl rfl
set_option maxRecDepth 20000 in
theorem kw_800 : Cond.methodLink RX8 101 yX9_takeWord ∈ uT := uT_in3 tb_3 182 rfl rfl
set_option maxRecDepth 20000 in
theorem kw_801 : Cond.instanceMethod yX9_takeWord ∈ uT := uT_in3 tb_3 183 rfl rfl
set_option maxRecDepth 20000 in
theorem kw_802 : Cond.selects RX9 yX9_takeWord yX9_takeWord ∈ uT := uT_in3 tb_3 184 rfl rfl
set_option maxRecDepth 20000 in
theorem kw_803 : Cond.code yX9_takeWord cX9_takeWord 2 (none : Option FieldType) ∈ uT := uT_in3 tb_3 185 rfl rfl
set_option maxRecDepth 20000 in
theorem kw_804 : Cond.methodLink RX9 121 yX9_skipWord ∈ uT := uT_in3 tb_3 186 rfl rfl
set_option maxRecDepth 20000 in
theorem kw_805 : Cond.instanceMethod yX9_skipWord ∈ uT := uT_in3 tb_3 187 rfl rfl
set_option maxRecDepth 20000 in
theorem kw_806 : Cond.selects RX9 yX9_skipWord yX9_skipWord ∈ uT := uT_in3 tb_3 188 rfl rfl
set_option maxRecDepth 20000 in
theorem kw_807 : Cond.code yX9_skipWord cX9_skipWord 3 (some FieldType.boolean) ∈ uT := uT_in3 tb_3 189 rfl rfl
set_option maxRecDepth 20000 in
theorem kw_808 : Cond.methodLink RX8 105 yX9_takeNumber ∈ uT := uT_in3 tb_3 190 rfl rfl
set_option maxRecDepth 20000 in
theorem kw_809 : Cond.instanceMethod yX9_takeNumber ∈ uT := uT_in3 tb_3 191 rfl rfl
set_option maxRecDepth 20000 in
theorem kw_810 : Cond.selects RX9 yX9_takeNumber yX9_takeNumber ∈ uT := uT_in3 tb_3 192 rfl rfl
set_option maxRecDepth 20000 in
theorem kw_811 : Cond.code yX9_takeNumber cX9_takeNumber 5 (some FieldType.int) ∈ uT := uT_in3 tb_3 193 rfl rfl
set_option maxRecDepth 20000 in
theorem kw_814 : Cond.methodLink RX8 117 yX8_takeSide ∈ uT := uT_in3 tb_3 196 rfl rfl
set_option maxRecDepth 20000 in
theorem kw_816 : Cond.instanceMethod yX8_takeSide ∈ uT := uT_in3 tb_3 198 rfl rfl
set_option maxRecDepth 20000 in
theorem kw_817 : Cond.code yX8_takeSide cX8_takeSide 3 (some FieldType.int) ∈ uT := uT_in3 tb_3 199 rfl rfl
set_option maxRecDepth 20000 in
theorem kw_819 : Cond.methodLink RX8 126 yX9_skipWord ∈ uT := uT_in3 tb_3 201 rfl rfl
set_option maxRecDepth 20000 in
theorem kw_825 : Cond.methodLink RX8 64 yX8_readFill ∈ uT := uT_in3 tb_3 207 rfl rfl
set_option maxRecDepth 20000 in
theorem kw_827 : Cond.instanceMethod yX8_readFill ∈ uT := uT_in3 tb_3 209 rfl rfl
set_option maxRecDepth 20000 in
theorem kw_828 : Cond.code yX8_readFill cX8_readFill 7 (none : Option FieldType) ∈ uT := uT_in3 tb_3 210 rfl rfl
set_option maxRecDepth 20000 in
theorem kw_829 : Cond.methodLink RX8 143 yX8_takeToldName ∈ uT := uT_in3 tb_3 211 rfl rfl
set_option maxRecDepth 20000 in
theorem kw_831 : Cond.instanceMethod yX8_takeToldName ∈ uT := uT_in3 tb_3 213 rfl rfl
set_option maxRecDepth 20000 in
theorem kw_832 : Cond.code yX8_takeToldName cX8_takeToldName 6 (some FieldType.int) ∈ uT := uT_in3 tb_3 214 rfl rfl
set_option maxRecDepth 20000 in
theorem kw_833 : Cond.methodLink RX8 183 yX0_isEmpty ∈ uT := uT_in3 tb_3 215 rfl rfl
set_option maxRecDepth 20000 in
theorem kw_834 : Cond.instanceMethod yX0_isEmpty ∈ uT := uT_in3 tb_3 216 rfl rfl
set_option maxRecDepth 20000 in
theorem kw_835 : Cond.selects RX0 yX0_isEmpty yX0_isEmpty ∈ uT := uT_in3 tb_3 217 rfl rfl
set_option maxRecDepth 20000 in
theorem kw_836 : Cond.code yX0_isEmpty cX0_isEmpty 1 (some FieldType.boolean) ∈ uT := uT_in3 tb_3 218 rfl rfl
set_option maxRecDepth 20000 in
theorem kw_840 : Cond.methodLink RX8 160 Lib.Math.min.name ∈ uT := uT_in3 tb_3 222 rfl rfl
set_option maxRecDepth 20000 in
theorem kw_841 : Cond.methodLink RX11 184 yX9_empty ∈ uT := uT_in3 tb_3 223 rfl rfl
set_option maxRecDepth 20000 in
theorem kw_842 : Cond.instanceMethod yX9_empty ∈ uT := uT_in3 tb_3 224 rfl rfl
set_option maxRecDepth 20000 in
theorem kw_843 : Cond.selects RX9 yX9_empty yX9_empty ∈ uT := uT_in3 tb_3 225 rfl rfl
set_option maxRecDepth 20000 in
theorem kw_844 : Cond.code yX9_empty cX9_empty 1 (none : Option FieldType) ∈ uT := uT_in3 tb_3 226 rfl rfl
set_option maxRecDepth 20000 in
theorem kw_845 : Cond.methodLink RX11 187 yX9_hasFault ∈ uT := uT_in3 tb_3 227 rfl rfl
set_option maxRecDepth 20000 in
theorem kw_846 : Cond.methodLink RX11 196 yX11_answer ∈ uT := uT_in3 tb_3 228 rfl rfl
set_option maxRecDepth 20000 in
theorem kw_848 : Cond.instanceMethod yX11_answer ∈ uT := uT_in3 tb_3 230 rfl rfl
set_option maxRecDepth 20000 in
theorem kw_849 : Cond.code yX11_answer cX11_answer 2 (some FieldType.int) ∈ uT := uT_in3 tb_3 231 rfl rfl
set_option maxRecDepth 20000 in
theorem kw_850 : Cond.methodLink RL 59 yX11_law ∈ uT := uT_in3 tb_3 232 rfl rfl
set_option maxRecDepth 20000 in
theorem kw_851 : Cond.instanceMethod yX11_law ∈ uT := uT_in3 tb_3 233 rfl rfl
set_option maxRecDepth 20000 in
theorem kw_852 : Cond.selects RX11 yX11_law yX11_law ∈ uT := uT_in3 tb_3 234 rfl rfl
set_option maxRecDepth 20000 in
theorem kw_853 : Cond.code yX11_law cX11_law 3 (some FieldType.int) ∈ uT := uT_in3 tb_3 235 rfl rfl
set_option maxRecDepth 20000 in
theorem kw_854 : Cond.methodLink RX11 199 Lib.Math.min.name ∈ uT := uT_in3 tb_3 236 rfl rfl
set_option maxRecDepth 20000 in
theorem kw_855 : Cond.methodLink RX11 204 yX2_readLaw ∈ uT := uT_in3 tb_3 237 rfl rfl
set_option maxRecDepth 20000 in
theorem kw_856 : Cond.instanceMethod yX2_readLaw ∈ uT := uT_in3 tb_3 238 rfl rfl
set_option maxRecDepth 20000 in
theorem kw_857 : Cond.selects RX2 yX2_readLaw yX2_readLaw ∈ uT := uT_in3 tb_3 239 rfl rfl
set_option maxRecDepth 20000 in
theorem kw_858 : Cond.code yX2_readLaw cX2_readLaw 4 (some (FieldType.object "EchoJars$Law")) ∈ uT := uT_in3 tb_4 0 rfl rfl
set_option maxRecDepth 20000 in
theorem kw_859 : Cond.classLink RX2 15 RX1 ∈ uT := uT_in3 tb_4 1 rfl rfl
set_option maxRecDepth 20000 in
theorem kw_861 : Cond.methodLink RX2 18 yX9_open ∈ uT := uT_in3 tb_4 3 rfl rfl
set_option maxRecDepth 20000 in
theorem kw_862 : Cond.methodLink RX2 24 yX9_hasFault ∈ uT := uT_in3 tb_4 4 rfl rfl
set_option maxRecDepth 20000 in
theorem kw_863 : Cond.methodLink RX2 28 yX9_isAtEnd ∈ uT := uT_in3 tb_4 5 rfl rfl
set_option maxRecDepth 20000 in
theorem kw_864 : Cond.methodLink RX2 31 yX2_readRule ∈ uT := uT_in3 tb_4 6 rfl rfl
set_option maxRecDepth 20000 in
theorem kw_866 : Cond.instanceMethod yX2_readRule ∈ uT := uT_in3 tb_4 8 rfl rfl
set_option maxRecDepth 20000 in
theorem kw_867 : Cond.code yX2_readRule cX2_readRule 5 (none : Option FieldType) ∈ uT := uT_in3 tb_4 9 rfl rfl
set_option maxRecDepth 20000 in
theorem kw_869 : Cond.methodLink RX2 41 yX9_isWord ∈ uT := uT_in3 tb_4 11 rfl rfl
set_option maxRecDepth 20000 in
theorem kw_870 : Cond.methodLink RX2 45 yX9_stop ∈ uT := uT_in3 tb_4 12 rfl rfl
set_option maxRecDepth 20000 in
theorem kw_871 : Cond.methodLink RX2 48 yX9_takeWord ∈ uT := uT_in3 tb_4 13 rfl rfl
set_option maxRecDepth 20000 in
theorem kw_872 : Cond.methodLink RX2 52 yX2_takeKind ∈ uT := uT_in3 tb_4 14 rfl rfl
set_option maxRecDepth 20000 in
theorem kw_874 : Cond.instanceMethod yX2_takeKind ∈ uT := uT_in3 tb_4 16 rfl rfl
set_option maxRecDepth 20000 in
theorem kw_875 : Cond.code yX2_takeKind cX2_takeKind 1 (some FieldType.int) ∈ uT := uT_in3 tb_4 17 rfl rfl
set_option maxRecDepth 20000 in
theorem kw_877 : Cond.methodLink RX2 72 yX9_skipWord ∈ uT := uT_in3 tb_4 19 rfl rfl
set_option maxRecDepth 20000 in
theorem kw_878 : Cond.methodLink RX2 75 yX2_takeLetterOrRest ∈ uT := uT_in3 tb_4 20 rfl rfl
set_option maxRecDepth 20000 in
theorem kw_880 : Cond.instanceMethod yX2_takeLetterOrRest ∈ uT := uT_in3 tb_4 22 rfl rfl
set_option maxRecDepth 20000 in
theorem kw_881 : Cond.code yX2_takeLetterOrRest cX2_takeLetterOrRest 2 (some FieldType.int) ∈ uT := uT_in3 tb_4 23 rfl rfl
set_option maxRecDepth 20000 in
theorem kw_883 : Cond.methodLink RX2 84 yX9_isWordUpTo ∈ uT := uT_in3 tb_4 25 rfl rfl
set_option maxRecDepth 20000 in
theorem kw_884 : Cond.methodLink RX2 88 yX9_letterAt ∈ uT := uT_in3 tb_4 26 rfl rfl
set_option maxRecDepth 20000 in
theorem kw_885 : Cond.methodLink RX2 92 yX9_next ∈ uT := uT_in3 tb_4 27 rfl rfl
set_option maxRecDepth 20000 in
theorem kw_888 : Cond.methodLink RX2 60 yX2_takeGift ∈ uT := uT_in3 tb_4 30 rfl rfl
set_option maxRecDepth 20000 in
theorem kw_890 : Cond.instanceMethod yX2_takeGift ∈ uT := uT_in3 tb_4 32 rfl rfl
set_option maxRecDepth 20000 in
theorem kw_891 : Cond.code yX2_takeGift cX2_takeGift 1 (some FieldType.int) ∈ uT := uT_in3 tb_4 33 rfl rfl
set_option maxRecDepth 20000 in
theorem kw_894 : Cond.methodLink RX2 63 yX9_takeSign ∈ uT := uT_in3 tb_4 36 rfl rfl
set_option maxRecDepth 20000 in
theorem kw_895 : Cond.methodLink RX2 66 yX1_add ∈ uT := uT_in3 tb_4 37 rfl rfl
set_option maxRecDepth 20000 in
theorem kw_896 : Cond.instanceMethod yX1_add ∈ uT := uT_in3 tb_4 38 rfl rfl
set_option maxRecDepth 20000 in
theorem kw_897 : Cond.selects RX1 yX1_add yX1_add ∈ uT := uT_in3 tb_4 39 rfl rfl
set_option maxRecDepth 20000 in
theorem kw_898 : Cond.code yX1_add cX1_add 4 (none : Option FieldType) ∈ uT := uT_in3 tb_4 40 rfl rfl
set_option maxRecDepth 20000 in
theorem kw_899 : Cond.methodLink RL 63 yX11_fault ∈ uT := uT_in3 tb_4 41 rfl rfl
set_option maxRecDepth 20000 in
theorem kw_900 : Cond.instanceMethod yX11_fault ∈ uT := uT_in3 tb_4 42 rfl rfl
set_option maxRecDepth 20000 in
theorem kw_901 : Cond.selects RX11 yX11_fault yX11_fault ∈ uT := uT_in3 tb_4 43 rfl rfl
set_option maxRecDepth 20000 in
theorem kw_902 : Cond.code yX11_fault cX11_fault 2 (some FieldType.int) ∈ uT := uT_in3 tb_4 44 rfl rfl
set_option maxRecDepth 20000 in
theorem kw_903 : Cond.methodLink RL 67 yX11_many ∈ uT := uT_in3 tb_4 45 rfl rfl
set_option maxRecDepth 20000 in
theorem kw_904 : Cond.instanceMethod yX11_many ∈ uT := uT_in3 tb_4 46 rfl rfl
set_option maxRecDepth 20000 in
theorem kw_905 : Cond.selects RX11 yX11_many yX11_many ∈ uT := uT_in3 tb_4 47 rfl rfl
set_option maxRecDepth 20000 in
theorem kw_906 : Cond.code yX11_many cX11_many 2 (some FieldType.int) ∈ uT := uT_in3 tb_4 48 rfl rfl
set_option maxRecDepth 20000 in
theorem kw_907 : Cond.methodLink RX11 220 yX7_filledJars ∈ uT := uT_in3 tb_4 49 rfl rfl
set_option maxRecDepth 20000 in
theorem kw_908 : Cond.instanceMethod yX7_filledJars ∈ uT := uT_in3 tb_4 50 rfl rfl
set_option maxRecDepth 20000 in
theorem kw_909 : Cond.selects RX7 yX7_filledJars yX7_filledJars ∈ uT := uT_in3 tb_4 51 rfl rfl
set_option maxRecDepth 20000 in
theorem kw_910 : Cond.code yX7_filledJars cX7_filledJars 3 (some FieldType.int) ∈ uT := uT_in3 tb_4 52 rfl rfl
set_option maxRecDepth 20000 in
theorem kw_911 : Cond.methodLink RX7 34 yX0_isEmpty ∈ uT := uT_in3 tb_4 53 rfl rfl
set_option maxRecDepth 20000 in
theorem kw_912 : Cond.methodLink RX11 224 yJ6_bitCount_0f7a4 ∈ uT := uT_in3 tb_4 54 rfl rfl
set_option maxRecDepth 20000 in
theorem kw_913 : Cond.static yJ6_bitCount_0f7a4 ∈ uT := uT_in3 tb_4 55 rfl rfl
set_option maxRecDepth 20000 in
theorem kw_914 : Cond.code yJ6_bitCount_0f7a4 cJ6_bitCount_0f7a4 1 (some FieldType.int) ∈ uT := uT_in3 tb_4 56 rfl rfl
set_option maxRecDepth 20000 in
theorem kw_915 : Cond.constant RJ6 265 (Int32.ofInt (1431655765)) ∈ uT := uT_in3 tb_4 57 rfl rfl
set_option maxRecDepth 20000 in
theorem kw_916 : Cond.constant RJ6 266 (Int32.ofInt (858993459)) ∈ uT := uT_in3 tb_4 58 rfl rfl
set_option maxRecDepth 20000 in
theorem kw_917 : Cond.constant RJ6 267 (Int32.ofInt (252645135)) ∈ uT := uT_in3 tb_4 59 rfl rfl
set_option maxRecDepth 20000 in
theorem kw_918 : Cond.methodLink RL 71 yX11_letter ∈ uT := uT_in3 tb_4 60 rfl rfl
set_option maxRecDepth 20000 in
theorem kw_919 : Cond.instanceMethod yX11_letter ∈ uT := uT_in3 tb_4 61 rfl rfl
set_option maxRecDepth 20000 in
theorem kw_920 : Cond.selects RX11 yX11_letter yX11_letter ∈ uT := uT_in3 tb_4 62 rfl rfl
set_option maxRecDepth 20000 in
theorem kw_921 : Cond.code yX11_letter cX11_letter 3 (some FieldType.int) ∈ uT := uT_in3 tb_4 63 rfl rfl
set_option maxRecDepth 20000 in
theorem kw_922 : Cond.methodLink RX11 229 yX11_isSound ∈ uT := uT_in3 tb_4 64 rfl rfl
set_option maxRecDepth 20000 in
theorem kw_924 : Cond.instanceMethod yX11_isSound ∈ uT := uT_in3 tb_4 66 rfl rfl
set_option maxRecDepth 20000 in
theorem kw_925 : Cond.code yX11_isSound cX11_isSound 2 (some FieldType.boolean) ∈ uT := uT_in3 tb_4 67 rfl rfl
set_option maxRecDepth 20000 in
theorem kw_926 : Cond.methodLink RX11 235 yX11_answerAt ∈ uT := uT_in3 tb_4 68 rfl rfl
set_option maxRecDepth 20000 in
theorem kw_928 : Cond.instanceMethod yX11_answerAt ∈ uT := uT_in3 tb_4 70 rfl rfl
set_option maxRecDepth 20000 in
theorem kw_929 : Cond.code yX11_answerAt cX11_answerAt 3 (some FieldType.int) ∈ uT := uT_in3 tb_4 71 rfl rfl
set_option maxRecDepth 20000 in
theorem kw_930 : Cond.methodLink RX11 449 yX6_has ∈ uT := uT_in3 tb_4 72 rfl rfl
set_option maxRecDepth 20000 in
theorem kw_931 : Cond.instanceMethod yX6_has ∈ uT := uT_in3 tb_4 73 rfl rfl
set_option maxRecDepth 20000 in
theorem kw_932 : Cond.selects RX6 yX6_has yX6_has ∈ uT := uT_in3 tb_4 74 rfl rfl
set_option maxRecDepth 20000 in
theorem kw_933 : Cond.code yX6_has cX6_has 2 (some FieldType.boolean) ∈ uT := uT_in3 tb_4 75 rfl rfl
set_option maxRecDepth 20000 in
theorem kw_934 : Cond.methodLink RX11 310 yX6_at ∈ uT := uT_in3 tb_4 76 rfl rfl
set_option maxRecDepth 20000 in
theorem kw_935 : Cond.instanceMethod yX6_at ∈ uT := uT_in3 tb_4 77 rfl rfl
set_option maxRecDepth 20000 in
theorem kw_936 : Cond.selects RX6 yX6_at yX6_at ∈ uT := uT_in3 tb_4 78 rfl rfl
set_option maxRecDepth 20000 in
theorem kw_937 : Cond.code yX6_at cX6_at 2 (some FieldType.int) ∈ uT := uT_in3 tb_4 79 rfl rfl
set_option maxRecDepth 20000 in
theorem kw_938 : Cond.methodLink RX6 22 yX6_has ∈ uT := uT_in3 tb_4 80 rfl rfl
set_option maxRecDepth 20000 in
theorem kw_939 : Cond.methodLink RL 76 yX11_jar ∈ uT := uT_in3 tb_4 81 rfl rfl
set_option maxRecDepth 20000 in
theorem kw_940 : Cond.instanceMethod yX11_jar ∈ uT := uT_in3 tb_4 82 rfl rfl
set_option maxRecDepth 20000 in
theorem kw_941 : Cond.selects RX11 yX11_jar yX11_jar ∈ uT := uT_in3 tb_4 83 rfl rfl
set_option maxRecDepth 20000 in
theorem kw_942 : Cond.code yX11_jar cX11_jar 4 (some FieldType.int) ∈ uT := uT_in3 tb_4 84 rfl rfl
set_option maxRecDepth 20000 in
theorem kw_943 : Cond.methodLink RX11 239 yX11_isJar ∈ uT := uT_in3 tb_4 85 rfl rfl
set_option maxRecDepth 20000 in
theorem kw_945 : Cond.instanceMethod yX11_isJar ∈ uT := uT_in3 tb_4 87 rfl rfl
set_option maxRecDepth 20000 in
theorem kw_946 : Cond.code yX11_isJar cX11_isJar 2 (some FieldType.boolean) ∈ uT := uT_in3 tb_4 88 rfl rfl
set_option maxRecDepth 20000 in
theorem kw_947 : Cond.constantLong RX11 244 (Int64.ofInt (8)) ∈ uT := uT_in3 tb_4 89 rfl rfl
set_option maxRecDepth 20000 in
theorem kw_948 : Cond.methodLink RX11 250 yX0_isEmpty ∈ uT := uT_in3 tb_4 90 rfl rfl
set_option maxRecDepth 20000 in
theorem kw_949 : Cond.methodLink RX11 253 yX0_told ∈ uT := uT_in3 tb_4 91 rfl rfl
set_option maxRecDepth 20000 in
theorem kw_950 : Cond.instanceMethod yX0_told ∈ uT := uT_in3 tb_4 92 rfl rfl
set_option maxRecDepth 20000 in
theorem kw_951 : Cond.selects RX0 yX0_told yX0_told ∈ uT := uT_in3 tb_4 93 rfl rfl
set_option maxRecDepth 20000 in
theorem kw_952 : Cond.code yX0_told cX0_told 2 (some FieldType.int) ∈ uT := uT_in3 tb_4 94 rfl rfl
set_option maxRecDepth 20000 in
theorem kw_953 : Cond.methodLink RL 80 yX11_day ∈ uT := uT_in3 tb_4 95 rfl rfl
set_option maxRecDepth 20000 in
theorem kw_954 : Cond.instanceMethod yX11_day ∈ uT := uT_in3 tb_4 96 rfl rfl
set_option maxRecDepth 20000 in
theorem kw_955 : Cond.selects RX11 yX11_day yX11_day ∈ uT := uT_in3 tb_4 97 rfl rfl
set_option maxRecDepth 20000 in
theorem kw_956 : Cond.code yX11_day cX11_day 2 (some FieldType.boolean) ∈ uT := uT_in3 tb_4 98 rfl rfl
set_option maxRecDepth 20000 in
theorem kw_957 : Cond.constantLong RX11 256 (Int64.ofInt (9999)) ∈ uT := uT_in3 tb_4 99 rfl rfl
set_option maxRecDepth 20000 in
theorem kw_958 : Cond.methodLink RL 85 yX11_heard ∈ uT := uT_in3 tb_4 100 rfl rfl
set_option maxRecDepth 20000 in
theorem kw_959 : Cond.instanceMethod yX11_heard ∈ uT := uT_in3 tb_4 101 rfl rfl
set_option maxRecDepth 20000 in
theorem kw_960 : Cond.selects RX11 yX11_heard yX11_heard ∈ uT := uT_in3 tb_4 102 rfl rfl
set_option maxRecDepth 20000 in
theorem kw_961 : Cond.code yX11_heard cX11_heard 2 (some FieldType.int) ∈ uT := uT_in3 tb_4 103 rfl rfl
set_option maxRecDepth 20000 in
theorem kw_962 : Cond.methodLink RX11 258 yX11_hear ∈ uT := uT_in3 tb_4 104 rfl rfl
set_option maxRecDepth 20000 in
theorem kw_964 : Cond.instanceMethod yX11_hear ∈ uT := uT_in3 tb_4 106 rfl rfl
set_option maxRecDepth 20000 in
theorem kw_965 : Cond.code yX11_hear cX11_hear 2 (some (FieldType.object "EchoJars$Row")) ∈ uT := uT_in3 tb_4 107 rfl rfl
set_option maxRecDepth 20000 in
theorem kw_966 : Cond.methodLink RX11 462 yX7_listen ∈ uT := uT_in3 tb_4 108 rfl rfl
set_option maxRecDepth 20000 in
theorem kw_967 : Cond.instanceMethod yX7_listen ∈ uT := uT_in3 tb_4 109 rfl rfl
set_option maxRecDepth 20000 in
theorem kw_968 : Cond.selects RX7 yX7_listen yX7_listen ∈ uT := uT_in3 tb_4 110 rfl rfl
set_option maxRecDepth 20000 in
theorem kw_969 : Cond.code yX7_listen cX7_listen 6 (none : Option FieldType) ∈ uT := uT_in3 tb_4 111 rfl rfl
set_option maxRecDepth 20000 in
theorem kw_970 : Cond.methodLink RX7 41 yX0_lostBy ∈ uT := uT_in3 tb_4 112 rfl rfl
set_option maxRecDepth 20000 in
theorem kw_971 : Cond.instanceMethod yX0_lostBy ∈ uT := uT_in3 tb_4 113 rfl rfl
set_option maxRecDepth 20000 in
theorem kw_972 : Cond.selects RX0 yX0_lostBy yX0_lostBy ∈ uT := uT_in3 tb_4 114 rfl rfl
set_option maxRecDepth 20000 in
theorem kw_973 : Cond.code yX0_lostBy cX0_lostBy 2 (some FieldType.int) ∈ uT := uT_in3 tb_4 115 rfl rfl
set_option maxRecDepth 20000 in
theorem kw_974 : Cond.methodLink RX0 39 yX0_goneAfter ∈ uT := uT_in3 tb_4 116 rfl rfl
set_option maxRecDepth 20000 in
theorem kw_975 : Cond.instanceMethod yX0_goneAfter ∈ uT := uT_in3 tb_4 117 rfl rfl
set_option maxRecDepth 20000 in
theorem kw_976 : Cond.selects RX0 yX0_goneAfter yX0_goneAfter ∈ uT := uT_in3 tb_4 118 rfl rfl
set_option maxRecDepth 20000 in
theorem kw_977 : Cond.code yX0_goneAfter cX0_goneAfter 2 (some FieldType.int) ∈ uT := uT_in3 tb_4 119 rfl rfl
set_option maxRecDepth 20000 in
theorem kw_978 : Cond.methodLink RX0 43 Lib.Math.min.name ∈ uT := uT_in3 tb_4 120 rfl rfl
set_option maxRecDepth 20000 in
theorem kw_979 : Cond.methodLink RX7 45 yX0_fromHead ∈ uT := uT_in3 tb_4 121 rfl rfl
set_option maxRecDepth 20000 in
theorem kw_980 : Cond.instanceMethod yX0_fromHead ∈ uT := uT_in3 tb_4 122 rfl rfl
set_option maxRecDepth 20000 in
theorem kw_981 : Cond.selects RX0 yX0_fromHead yX0_fromHead ∈ uT := uT_in3 tb_4 123 rfl rfl
set_option maxRecDepth 20000 in
theorem kw_982 : Cond.code yX0_fromHead cX0_fromHead 2 (some FieldType.int) ∈ uT := uT_in3 tb_4 124 rfl rfl
set_option maxRecDepth 20000 in
theorem kw_983 : Cond.methodLink RX7 58 yX0_leftOn ∈ uT := uT_in3 tb_4 125 rfl rfl
set_option maxRecDepth 20000 in
theorem kw_984 : Cond.instanceMethod yX0_leftOn ∈ uT := uT_in3 tb_4 126 rfl rfl
set_option maxRecDepth 20000 in
theorem kw_985 : Cond.selects RX0 yX0_leftOn yX0_leftOn ∈ uT := uT_in3 tb_4 127 rfl rfl
set_option maxRecDepth 20000 in
theorem kw_986 : Cond.code yX0_leftOn cX0_leftOn 2 (some FieldType.int) ∈ uT := uT_in3 tb_4 128 rfl rfl
set_option maxRecDepth 20000 in
theorem kw_987 : Cond.methodLink RX0 49 yX0_lostBy ∈ uT := uT_in3 tb_4 129 rfl rfl
set_option maxRecDepth 20000 in
theorem kw_988 : Cond.methodLink RX7 61 yX6_show ∈ uT := uT_in3 tb_4 130 rfl rfl
set_option maxRecDepth 20000 in
theorem kw_989 : Cond.instanceMethod yX6_show ∈ uT := uT_in3 tb_4 131 rfl rfl
set_option maxRecDepth 20000 in
theorem kw_990 : Cond.selects RX6 yX6_show yX6_show ∈ uT := uT_in3 tb_4 132 rfl rfl
set_option maxRecDepth 20000 in
theorem kw_991 : Cond.code yX6_show cX6_show 5 (none : Option FieldType) ∈ uT := uT_in3 tb_4 133 rfl rfl
set_option maxRecDepth 20000 in
theorem kw_992 : Cond.methodLink RL 89 yX11_heardAt ∈ uT := uT_in3 tb_4 134 rfl rfl
set_option maxRecDepth 20000 in
theorem kw_993 : Cond.instanceMethod yX11_heardAt ∈ uT := uT_in3 tb_4 135 rfl rfl
set_option maxRecDepth 20000 in
theorem kw_994 : Cond.selects RX11 yX11_heardAt yX11_heardAt ∈ uT := uT_in3 tb_4 136 rfl rfl
set_option maxRecDepth 20000 in
theorem kw_995 : Cond.code yX11_heardAt cX11_heardAt 3 (some FieldType.int) ∈ uT := uT_in3 tb_4 137 rfl rfl
set_option maxRecDepth 20000 in
theorem kw_996 : Cond.methodLink RL 93 yX11_pourOut ∈ uT := uT_in3 tb_4 138 rfl rfl
set_option maxRecDepth 20000 in
theorem kw_997 : Cond.instanceMethod yX11_pourOut ∈ uT := uT_in3 tb_4 139 rfl rfl
set_option maxRecDepth 20000 in
theorem kw_998 : Cond.selects RX11 yX11_pourOut yX11_pourOut ∈ uT := uT_in3 tb_4 140 rfl rfl
set_option maxRecDepth 20000 in
theorem kw_999 : Cond.code yX11_pourOut cX11_pourOut 3 (some FieldType.int) ∈ uT := uT_in3 tb_4 141 rfl rfl
set_option maxRecDepth 20000 in
theorem kw_1000 : Cond.methodLink RX11 265 yX11_bring ∈ uT := uT_in3 tb_4 142 rfl rfl
set_option maxRecDepth 20000 in
theorem kw_1002 : Cond.instanceMethod yX11_bring ∈ uT := uT_in3 tb_4 144 rfl rfl
set_option maxRecDepth 20000 in
theorem kw_1003 : Cond.code yX11_bring cX11_bring 5 (some FieldType.int) ∈ uT := uT_in3 tb_4 145 rfl rfl
set_option maxRecDepth 20000 in
theorem kw_1004 : Cond.methodLink RL 97 yX11_lost ∈ uT := uT_in3 tb_4 146 rfl rfl
set_option maxRecDepth 20000 in
theorem kw_1005 : Cond.instanceMethod yX11_lost ∈ uT := uT_in3 tb_4 147 rfl rfl
set_option maxRecDepth 20000 in
theorem kw_1006 : Cond.selects RX11 yX11_lost yX11_lost ∈ uT := uT_in3 tb_4 148 rfl rfl
set_option maxRecDepth 20000 in
theorem kw_1007 : Cond.code yX11_lost cX11_lost 2 (some FieldType.int) ∈ uT := uT_in3 tb_4 149 rfl rfl
set_option maxRecDepth 20000 in
theorem kw_1008 : Cond.methodLink RX11 268 yX0_lostBy ∈ uT := uT_in3 tb_4 150 rfl rfl
set_option maxRecDepth 20000 in
theorem kw_1009 : Cond.methodLink RL 101 yX11_silent ∈ uT := uT_in3 tb_4 151 rfl rfl
set_option maxRecDepth 20000 in
theorem kw_1010 : Cond.instanceMethod yX11_silent ∈ uT := uT_in3 tb_4 152 rfl rfl
set_option maxRecDepth 20000 in
theorem kw_1011 : Cond.selects RX11 yX11_silent yX11_silent ∈ uT := uT_in3 tb_4 153 rfl rfl
set_option maxRecDepth 20000 in
theorem kw_1012 : Cond.code yX11_silent cX11_silent 2 (some FieldType.int) ∈ uT := uT_in3 tb_4 154 rfl rfl
set_option maxRecDepth 20000 in
theorem kw_1013 : Cond.methodLink RX11 271 yX0_firstDayWith ∈ uT := uT_in3 tb_4 155 rfl rfl
set_option maxRecDepth 20000 in
theorem kw_1014 : Cond.instanceMethod yX0_firstDayWith ∈ uT := uT_in3 tb_4 156 rfl rfl
set_option maxRecDepth 20000 in
theorem kw_1015 : Cond.selects RX0 yX0_firstDayWith yX0_firstDayWith ∈ uT := uT_in3 tb_4 157 rfl rfl
set_option maxRecDepth 20000 in
theorem kw_1016 : Cond.code yX0_firstDayWith cX0_firstDayWith 2 (some FieldType.int) ∈ uT := uT_in3 tb_4 158 rfl rfl
set_option maxRecDepth 20000 in
theorem kw_1017 : Cond.methodLink RX0 55 yX0_isEmpty ∈ uT := uT_in3 tb_4 159 rfl rfl
set_option maxRecDepth 20000 in
theorem kw_1018 : Cond.methodLink RX11 274 yX11_answerOrNoSuch ∈ uT := uT_in3 tb_4 160 rfl rfl
set_option maxRecDepth 20000 in
theorem kw_1020 : Cond.instanceMethod yX11_answerOrNoSuch ∈ uT := uT_in3 tb_4 162 rfl rfl
set_option maxRecDepth 20000 in
theorem kw_1021 : Cond.code yX11_answerOrNoSuch cX11_answerOrNoSuch 2 (some FieldType.int) ∈ uT := uT_in3 tb_4 163 rfl rfl
set_option maxRecDepth 20000 in
theorem kw_1022 : Cond.methodLink RL 105 yX11_loudest ∈ uT := uT_in3 tb_4 164 rfl rfl
set_option maxRecDepth 20000 in
theorem kw_1023 : Cond.instanceMethod yX11_loudest ∈ uT := uT_in3 tb_4 165 rfl rfl
set_option maxRecDepth 20000 in
theorem kw_1024 : Cond.selects RX11 yX11_loudest yX11_loudest ∈ uT := uT_in3 tb_4 166 rfl rfl
set_option maxRecDepth 20000 in
theorem kw_1025 : Cond.code yX11_loudest cX11_loudest 4 (some FieldType.int) ∈ uT := uT_in3 tb_4 167 rfl rfl
set_option maxRecDepth 20000 in
theorem kw_1026 : Cond.constantLong RX11 277 (Int64.ofInt (999)) ∈ uT := uT_in3 tb_4 168 rfl rfl
set_option maxRecDepth 20000 in
theorem kw_1027 : Cond.methodLink RX11 279 yX7_loudestDay ∈ uT := uT_in3 tb_4 169 rfl rfl
set_option maxRecDepth 20000 in
theorem kw_1028 : Cond.instanceMethod yX7_loudestDay ∈ uT := uT_in3 tb_4 170 rfl rfl
set_option maxRecDepth 20000 in
theorem kw_1029 : Cond.selects RX7 yX7_loudestDay yX7_loudestDay ∈ uT := uT_in3 tb_4 171 rfl rfl
set_option maxRecDepth 20000 in
theorem kw_1030 : Cond.code yX7_loudestDay cX7_loudestDay 8 (some FieldType.int) ∈ uT := uT_in3 tb_4 172 rfl rfl
set_option maxRecDepth 20000 in
theorem kw_1031 : Cond.methodLink RX7 65 yX7_lettersOn ∈ uT := uT_in3 tb_4 173 rfl rfl
set_option maxRecDepth 20000 in
theorem kw_1032 : Cond.instanceMethod yX7_lettersOn ∈ uT := uT_in3 tb_4 174 rfl rfl
set_option maxRecDepth 20000 in
theorem kw_1033 : Cond.selects RX7 yX7_lettersOn yX7_lettersOn ∈ uT := uT_in3 tb_4 175 rfl rfl
set_option maxRecDepth 20000 in
theorem kw_1034 : Cond.code yX7_lettersOn cX7_lettersOn 4 (some FieldType.int) ∈ uT := uT_in3 tb_4 176 rfl rfl
set_option maxRecDepth 20000 in
theorem kw_1035 : Cond.methodLink RX11 282 yX7_lettersOn ∈ uT := uT_in3 tb_4 177 rfl rfl
set_option maxRecDepth 20000 in
theorem kw_1036 : Cond.methodLink RL 109 yX11_atOnce ∈ uT := uT_in3 tb_4 178 rfl rfl
set_option maxRecDepth 20000 in
theorem kw_1037 : Cond.instanceMethod yX11_atOnce ∈ uT := uT_in3 tb_4 179 rfl rfl
set_option maxRecDepth 20000 in
theorem kw_1038 : Cond.selects RX11 yX11_atOnce yX11_atOnce ∈ uT := uT_in3 tb_4 180 rfl rfl
set_option maxRecDepth 20000 in
theorem kw_1039 : Cond.code yX11_atOnce cX11_atOnce 4 (some FieldType.int) ∈ uT := uT_in3 tb_4 181 rfl rfl
set_option maxRecDepth 20000 in
theorem kw_1040 : Cond.methodLink RX11 285 yX11_mixRows ∈ uT := uT_in3 tb_4 182 rfl rfl
set_option maxRecDepth 20000 in
theorem kw_1042 : Cond.instanceMethod yX11_mixRows ∈ uT := uT_in3 tb_4 184 rfl rfl
set_option maxRecDepth 20000 in
theorem kw_1043 : Cond.code yX11_mixRows cX11_mixRows 6 (some (FieldType.object "EchoJars$Row")) ∈ uT := uT_in3 tb_4 185 rfl rfl
set_option maxRecDepth 20000 in
theorem kw_1044 : Cond.methodLink RX11 363 Lib.Math.max.name ∈ uT := uT_in3 tb_4 186 rfl rfl
set_option maxRecDepth 20000 in
theorem kw_1045 : Cond.static Lib.Math.max.name ∈ uT := uT_in3 tb_4 187 rfl rfl
set_option maxRecDepth 20000 in
theorem kw_1046 : Cond.code Lib.Math.max.name Lib.Math.max.code 2 (some .int) ∈ uT := uT_in3 tb_4 188 rfl rfl
set_option maxRecDepth 20000 in
theorem kw_1047 : Cond.methodLink RX11 466 yX6_clear ∈ uT := uT_in3 tb_4 189 rfl rfl
set_option maxRecDepth 20000 in
theorem kw_1048 : Cond.instanceMethod yX6_clear ∈ uT := uT_in3 tb_4 190 rfl rfl
set_option maxRecDepth 20000 in
theorem kw_1049 : Cond.selects RX6 yX6_clear yX6_clear ∈ uT := uT_in3 tb_4 191 rfl rfl
set_option maxRecDepth 20000 in
theorem kw_1050 : Cond.code yX6_clear cX6_clear 1 (none : Option FieldType) ∈ uT := uT_in3 tb_4 192 rfl rfl
set_option maxRecDepth 20000 in
theorem kw_1051 : Cond.methodLink RX11 299 yX1_mix ∈ uT := uT_in3 tb_4 193 rfl rfl
set_option maxRecDepth 20000 in
theorem kw_1052 : Cond.instanceMethod yX1_mix ∈ uT := uT_in3 tb_4 194 rfl rfl
set_option maxRecDepth 20000 in
theorem kw_1053 : Cond.selects RX1 yX1_mix yX1_mix ∈ uT := uT_in3 tb_4 195 rfl rfl
set_option maxRecDepth 20000 in
theorem kw_1054 : Cond.code yX1_mix cX1_mix 4 (some FieldType.int) ∈ uT := uT_in3 tb_4 196 rfl rfl
set_option maxRecDepth 20000 in
theorem kw_1055 : Cond.methodLink RX1 25 yX1_suits ∈ uT := uT_in3 tb_4 197 rfl rfl
set_option maxRecDepth 20000 in
theorem kw_1056 : Cond.static yX1_suits ∈ uT := uT_in3 tb_4 198 rfl rfl
set_option maxRecDepth 20000 in
theorem kw_1057 : Cond.code yX1_suits cX1_suits 2 (some FieldType.boolean) ∈ uT := uT_in3 tb_4 199 rfl rfl
set_option maxRecDepth 20000 in
theorem kw_1058 : Cond.methodLink RX1 29 yX1_given ∈ uT := uT_in3 tb_4 200 rfl rfl
set_option maxRecDepth 20000 in
theorem kw_1059 : Cond.static yX1_given ∈ uT := uT_in3 tb_4 201 rfl rfl
set_option maxRecDepth 20000 in
theorem kw_1060 : Cond.code yX1_given cX1_given 3 (some FieldType.int) ∈ uT := uT_in3 tb_4 202 rfl rfl
set_option maxRecDepth 20000 in
theorem kw_1061 : Cond.methodLink RX11 467 yX6_add ∈ uT := uT_in3 tb_4 203 rfl rfl
set_option maxRecDepth 20000 in
theorem kw_1062 : Cond.methodLink RL 114 yX11_couples ∈ uT := uT_in3 tb_4 204 rfl rfl
set_option maxRecDepth 20000 in
theorem kw_1063 : Cond.instanceMethod yX11_couples ∈ uT := uT_in3 tb_4 205 rfl rfl
set_option maxRecDepth 20000 in
theorem kw_1064 : Cond.selects RX11 yX11_couples yX11_couples ∈ uT := uT_in3 tb_4 206 rfl rfl
set_option maxRecDepth 20000 in
theorem kw_1065 : Cond.code yX11_couples cX11_couples 7 (some FieldType.long) ∈ uT := uT_in3 tb_4 207 rfl rfl
set_option maxRecDepth 20000 in
theorem kw_1066 : Cond.methodLink RX11 289 yX11_rowReason ∈ uT := uT_in3 tb_4 208 rfl rfl
set_option maxRecDepth 20000 in
theorem kw_1068 : Cond.instanceMethod yX11_rowReason ∈ uT := uT_in3 tb_4 210 rfl rfl
set_option maxRecDepth 20000 in
theorem kw_1069 : Cond.code yX11_rowReason cX11_rowReason 6 (some FieldType.int) ∈ uT := uT_in3 tb_4 211 rfl rfl
set_option maxRecDepth 20000 in
theorem kw_1070 : Cond.methodLink RX11 458 yX10_holdsOnly ∈ uT := uT_in3 tb_4 212 rfl rfl
set_option maxRecDepth 20000 in
theorem kw_1071 : Cond.instanceMethod yX10_holdsOnly ∈ uT := uT_in3 tb_4 213 rfl rfl
set_option maxRecDepth 20000 in
theorem kw_1072 : Cond.selects RX10 yX10_holdsOnly yX10_holdsOnly ∈ uT := uT_in3 tb_4 214 rfl rfl
set_option maxRecDepth 20000 in
theorem kw_1073 : Cond.code yX10_holdsOnly cX10_holdsOnly 6 (some FieldType.boolean) ∈ uT := uT_in3 tb_4 215 rfl rfl
set_option maxRecDepth 20000 in
theorem kw_1075 : Cond.methodLink RX11 293 yX11_countCouples ∈ uT := uT_in3 tb_4 217 rfl rfl
set_option maxRecDepth 20000 in
theorem kw_1077 : Cond.instanceMethod yX11_countCouples ∈ uT := uT_in3 tb_4 219 rfl rfl
set_option maxRecDepth 20000 in
theorem kw_1078 : Cond.code yX11_countCouples cX11_countCouples 3 (none : Option FieldType) ∈ uT := uT_in3 tb_4 220 rfl rfl
set_option maxRecDepth 20000 in
theorem kw_1079 : Cond.methodLink RL 118 yX11_mixes ∈ uT := uT_in3 tb_4 221 rfl rfl
set_option maxRecDepth 20000 in
theorem kw_1080 : Cond.instanceMethod yX11_mixes ∈ uT := uT_in3 tb_4 222 rfl rfl
set_option maxRecDepth 20000 in
theorem kw_1081 : Cond.selects RX11 yX11_mixes yX11_mixes ∈ uT := uT_in3 tb_4 223 rfl rfl
set_option maxRecDepth 20000 in
theorem kw_1082 : Cond.code yX11_mixes cX11_mixes 3 (some FieldType.int) ∈ uT := uT_in3 tb_4 224 rfl rfl
set_option maxRecDepth 20000 in
theorem kw_1083 : Cond.methodLink RX11 296 yX11_isLetterOrRest ∈ uT := uT_in3 tb_4 225 rfl rfl
set_option maxRecDepth 20000 in
theorem kw_1084 : Cond.static yX11_isLetterOrRest ∈ uT := uT_in3 tb_4 226 rfl rfl
set_option maxRecDepth 20000 in
theorem kw_1085 : Cond.code yX11_isLetterOrRest cX11_isLetterOrRest 1 (some FieldType.boolean) ∈ uT := uT_in3 tb_4 227 rfl rfl
set_option maxRecDepth 20000 in
theorem kw_1086 : Cond.constantLong RX11 453 (Int64.ofInt (26)) ∈ uT := uT_in3 tb_4 228 rfl rfl
set_option maxRecDepth 20000 in
theorem kw_1087 : Cond.methodLink RL 122 yX11_others ∈ uT := uT_in3 tb_4 229 rfl rfl
set_option maxRecDepth 20000 in
theorem kw_1088 : Cond.instanceMethod yX11_others ∈ uT := uT_in3 tb_4 230 rfl rfl
set_option maxRecDepth 20000 in
theorem kw_1089 : Cond.selects RX11 yX11_others yX11_others ∈ uT := uT_in3 tb_4 231 rfl rfl
set_option maxRecDepth 20000 in
theorem kw_1090 : Cond.code yX11_others cX11_others 3 (some FieldType.int) ∈ uT := uT_in3 tb_4 232 rfl rfl
set_option maxRecDepth 20000 in
theorem kw_1091 : Cond.methodLink RX11 302 yX1_partners ∈ uT := uT_in3 tb_4 233 rfl rfl
set_option maxRecDepth 20000 in
theorem kw_1092 : Cond.instanceMethod yX1_partners ∈ uT := uT_in3 tb_4 234 rfl rfl
set_option maxRecDepth 20000 in
theorem kw_1093 : Cond.selects RX1 yX1_partners yX1_partners ∈ uT := uT_in3 tb_4 235 rfl rfl
set_option maxRecDepth 20000 in
theorem kw_1094 : Cond.code yX1_partners cX1_partners 5 (some FieldType.int) ∈ uT := uT_in3 tb_4 236 rfl rfl
set_option maxRecDepth 20000 in
theorem kw_1095 : Cond.methodLink RX1 33 yX1_mix ∈ uT := uT_in3 tb_4 237 rfl rfl
set_option maxRecDepth 20000 in
theorem kw_1096 : Cond.methodLink RL 126 yX11_echoed ∈ uT := uT_in3 tb_4 238 rfl rfl
set_option maxRecDepth 20000 in
theorem kw_1097 : Cond.instanceMethod yX11_echoed ∈ uT := uT_in3 tb_4 239 rfl rfl
set_option maxRecDepth 20000 in
theorem kw_1098 : Cond.selects RX11 yX11_echoed yX11_echoed ∈ uT := uT_in3 tb_5 0 rfl rfl
set_option maxRecDepth 20000 in
theorem kw_1099 : Cond.code yX11_echoed cX11_echoed 5 (some FieldType.int) ∈ uT := uT_in3 tb_5 1 rfl rfl
set_option maxRecDepth 20000 in
theorem kw_1100 : Cond.constantLong RX11 305 (Int64.ofInt (15)) ∈ uT := uT_in3 tb_5 2 rfl rfl
set_option maxRecDepth 20000 in
theorem kw_1101 : Cond.methodLink RL 130 yX11_clearest ∈ uT := uT_in3 tb_5 3 rfl rfl
set_option maxRecDepth 20000 in
theorem kw_1102 : Cond.instanceMethod yX11_clearest ∈ uT := uT_in3 tb_5 4 rfl rfl
set_option maxRecDepth 20000 in
theorem kw_1103 : Cond.selects RX11 yX11_clearest yX11_clearest ∈ uT := uT_in3 tb_5 5 rfl rfl
set_option maxRecDepth 20000 in
theorem kw_1104 : Cond.code yX11_clearest cX11_clearest 10 (some FieldType.int) ∈ uT := uT_in3 tb_5 6 rfl rfl
set_option maxRecDepth 20000 in
theorem kw_1105 : Cond.methodLink RX11 307 yX6_countLetters ∈ uT := uT_in3 tb_5 7 rfl rfl
set_option maxRecDepth 20000 in
theorem kw_1106 : Cond.instanceMethod yX6_countLetters ∈ uT := uT_in3 tb_5 8 rfl rfl
set_option maxRecDepth 20000 in
theorem kw_1107 : Cond.selects RX6 yX6_countLetters yX6_countLetters ∈ uT := uT_in3 tb_5 9 rfl rfl
set_option maxRecDepth 20000 in
theorem kw_1108 : Cond.code yX6_countLetters cX6_countLetters 3 (some FieldType.int) ∈ uT := uT_in3 tb_5 10 rfl rfl
set_option maxRecDepth 20000 in
theorem kw_1109 : Cond.methodLink RX6 26 yX6_at ∈ uT := uT_in3 tb_5 11 rfl rfl
set_option maxRecDepth 20000 in
theorem kw_1110 : Cond.methodLink RL 134 yX11_beside ∈ uT := uT_in3 tb_5 12 rfl rfl
set_option maxRecDepth 20000 in
theorem kw_1111 : Cond.instanceMethod yX11_beside ∈ uT := uT_in3 tb_5 13 rfl rfl
set_option maxRecDepth 20000 in
theorem kw_1112 : Cond.selects RX11 yX11_beside yX11_beside ∈ uT := uT_in3 tb_5 14 rfl rfl
set_option maxRecDepth 20000 in
theorem kw_1113 : Cond.code yX11_beside cX11_beside 10 (some FieldType.long) ∈ uT := uT_in3 tb_5 15 rfl rfl
set_option maxRecDepth 20000 in
theorem kw_1114 : Cond.methodLink RL 139 yX11_fits ∈ uT := uT_in3 tb_5 16 rfl rfl
set_option maxRecDepth 20000 in
theorem kw_1115 : Cond.instanceMethod yX11_fits ∈ uT := uT_in3 tb_5 17 rfl rfl
set_option maxRecDepth 20000 in
theorem kw_1116 : Cond.selects RX11 yX11_fits yX11_fits ∈ uT := uT_in3 tb_5 18 rfl rfl
set_option maxRecDepth 20000 in
theorem kw_1117 : Cond.code yX11_fits cX11_fits 4 (some FieldType.int) ∈ uT := uT_in3 tb_5 19 rfl rfl
set_option maxRecDepth 20000 in
theorem kw_1118 : Cond.methodLink RX11 313 yX11_isJarSet ∈ uT := uT_in3 tb_5 20 rfl rfl
set_option maxRecDepth 20000 in
theorem kw_1120 : Cond.instanceMethod yX11_isJarSet ∈ uT := uT_in3 tb_5 22 rfl rfl
set_option maxRecDepth 20000 in
theorem kw_1121 : Cond.code yX11_isJarSet cX11_isJarSet 2 (some FieldType.boolean) ∈ uT := uT_in3 tb_5 23 rfl rfl
set_option maxRecDepth 20000 in
theorem kw_1122 : Cond.methodLink RX11 455 yX7_allJars ∈ uT := uT_in3 tb_5 24 rfl rfl
set_option maxRecDepth 20000 in
theorem kw_1123 : Cond.instanceMethod yX7_allJars ∈ uT := uT_in3 tb_5 25 rfl rfl
set_option maxRecDepth 20000 in
theorem kw_1124 : Cond.selects RX7 yX7_allJars yX7_allJars ∈ uT := uT_in3 tb_5 26 rfl rfl
set_option maxRecDepth 20000 in
theorem kw_1125 : Cond.code yX7_allJars cX7_allJars 1 (some FieldType.int) ∈ uT := uT_in3 tb_5 27 rfl rfl
set_option maxRecDepth 20000 in
theorem kw_1126 : Cond.methodLink RX11 316 yX7_allSounds ∈ uT := uT_in3 tb_5 28 rfl rfl
set_option maxRecDepth 20000 in
theorem kw_1127 : Cond.instanceMethod yX7_allSounds ∈ uT := uT_in3 tb_5 29 rfl rfl
set_option maxRecDepth 20000 in
theorem kw_1128 : Cond.selects RX7 yX7_allSounds yX7_allSounds ∈ uT := uT_in3 tb_5 30 rfl rfl
set_option maxRecDepth 20000 in
theorem kw_1129 : Cond.code yX7_allSounds cX7_allSounds 1 (some FieldType.int) ∈ uT := uT_in3 tb_5 31 rfl rfl
set_option maxRecDepth 20000 in
theorem kw_1130 : Cond.methodLink RX11 319 yX11_isIn ∈ uT := uT_in3 tb_5 32 rfl rfl
set_option maxRecDepth 20000 in
theorem kw_1131 : Cond.static yX11_isIn ∈ uT := uT_in3 tb_5 33 rfl rfl
set_option maxRecDepth 20000 in
theorem kw_1132 : Cond.code yX11_isIn cX11_isIn 2 (some FieldType.boolean) ∈ uT := uT_in3 tb_5 34 rfl rfl
set_option maxRecDepth 20000 in
theorem kw_1133 : Cond.methodLink RX11 322 yX7_soundsWith ∈ uT := uT_in3 tb_5 35 rfl rfl
set_option maxRecDepth 20000 in
theorem kw_1134 : Cond.instanceMethod yX7_soundsWith ∈ uT := uT_in3 tb_5 36 rfl rfl
set_option maxRecDepth 20000 in
theorem kw_1135 : Cond.selects RX7 yX7_soundsWith yX7_soundsWith ∈ uT := uT_in3 tb_5 37 rfl rfl
set_option maxRecDepth 20000 in
theorem kw_1136 : Cond.code yX7_soundsWith cX7_soundsWith 4 (some FieldType.int) ∈ uT := uT_in3 tb_5 38 rfl rfl
set_option maxRecDepth 20000 in
theorem kw_1137 : Cond.methodLink RX7 71 yX6_standsIn ∈ uT := uT_in3 tb_5 39 rfl rfl
set_option maxRecDepth 20000 in
theorem kw_1138 : Cond.instanceMethod yX6_standsIn ∈ uT := uT_in3 tb_5 40 rfl rfl
set_option maxRecDepth 20000 in
theorem kw_1139 : Cond.selects RX6 yX6_standsIn yX6_standsIn ∈ uT := uT_in3 tb_5 41 rfl rfl
set_option maxRecDepth 20000 in
theorem kw_1140 : Cond.code yX6_standsIn cX6_standsIn 2 (some FieldType.boolean) ∈ uT := uT_in3 tb_5 42 rfl rfl
set_option maxRecDepth 20000 in
theorem kw_1141 : Cond.methodLink RX6 34 yX6_timesIn ∈ uT := uT_in3 tb_5 43 rfl rfl
set_option maxRecDepth 20000 in
theorem kw_1142 : Cond.instanceMethod yX6_timesIn ∈ uT := uT_in3 tb_5 44 rfl rfl
set_option maxRecDepth 20000 in
theorem kw_1143 : Cond.selects RX6 yX6_timesIn yX6_timesIn ∈ uT := uT_in3 tb_5 45 rfl rfl
set_option maxRecDepth 20000 in
theorem kw_1144 : Cond.code yX6_timesIn cX6_timesIn 4 (some FieldType.int) ∈ uT := uT_in3 tb_5 46 rfl rfl
set_option maxRecDepth 20000 in
theorem kw_1145 : Cond.methodLink RX6 30 yX6_standsAt ∈ uT := uT_in3 tb_5 47 rfl rfl
set_option maxRecDepth 20000 in
theorem kw_1146 : Cond.instanceMethod yX6_standsAt ∈ uT := uT_in3 tb_5 48 rfl rfl
set_option maxRecDepth 20000 in
theorem kw_1147 : Cond.selects RX6 yX6_standsAt yX6_standsAt ∈ uT := uT_in3 tb_5 49 rfl rfl
set_option maxRecDepth 20000 in
theorem kw_1148 : Cond.code yX6_standsAt cX6_standsAt 5 (some FieldType.boolean) ∈ uT := uT_in3 tb_5 50 rfl rfl
set_option maxRecDepth 20000 in
theorem kw_1149 : Cond.methodLink RL 143 yX11_places ∈ uT := uT_in3 tb_5 51 rfl rfl
set_option maxRecDepth 20000 in
theorem kw_1150 : Cond.instanceMethod yX11_places ∈ uT := uT_in3 tb_5 52 rfl rfl
set_option maxRecDepth 20000 in
theorem kw_1151 : Cond.selects RX11 yX11_places yX11_places ∈ uT := uT_in3 tb_5 53 rfl rfl
set_option maxRecDepth 20000 in
theorem kw_1152 : Cond.code yX11_places cX11_places 3 (some FieldType.int) ∈ uT := uT_in3 tb_5 54 rfl rfl
set_option maxRecDepth 20000 in
theorem kw_1153 : Cond.methodLink RX11 326 yX6_timesIn ∈ uT := uT_in3 tb_5 55 rfl rfl
set_option maxRecDepth 20000 in
theorem kw_1154 : Cond.methodLink RL 147 yX11_speaks ∈ uT := uT_in3 tb_5 56 rfl rfl
set_option maxRecDepth 20000 in
theorem kw_1155 : Cond.instanceMethod yX11_speaks ∈ uT := uT_in3 tb_5 57 rfl rfl
set_option maxRecDepth 20000 in
theorem kw_1156 : Cond.selects RX11 yX11_speaks yX11_speaks ∈ uT := uT_in3 tb_5 58 rfl rfl
set_option maxRecDepth 20000 in
theorem kw_1157 : Cond.code yX11_speaks cX11_speaks 2 (some FieldType.int) ∈ uT := uT_in3 tb_5 59 rfl rfl
set_option maxRecDepth 20000 in
theorem kw_1158 : Cond.methodLink RX11 329 yX11_speakers ∈ uT := uT_in3 tb_5 60 rfl rfl
set_option maxRecDepth 20000 in
theorem kw_1160 : Cond.instanceMethod yX11_speakers ∈ uT := uT_in3 tb_5 62 rfl rfl
set_option maxRecDepth 20000 in
theorem kw_1161 : Cond.code yX11_speakers cX11_speakers 4 (some FieldType.int) ∈ uT := uT_in3 tb_5 63 rfl rfl
set_option maxRecDepth 20000 in
theorem kw_1162 : Cond.methodLink RL 151 yX11_kinds ∈ uT := uT_in3 tb_5 64 rfl rfl
set_option maxRecDepth 20000 in
theorem kw_1163 : Cond.instanceMethod yX11_kinds ∈ uT := uT_in3 tb_5 65 rfl rfl
set_option maxRecDepth 20000 in
theorem kw_1164 : Cond.selects RX11 yX11_kinds yX11_kinds ∈ uT := uT_in3 tb_5 66 rfl rfl
set_option maxRecDepth 20000 in
theorem kw_1165 : Cond.code yX11_kinds cX11_kinds 4 (some FieldType.int) ∈ uT := uT_in3 tb_5 67 rfl rfl
set_option maxRecDepth 20000 in
theorem kw_1166 : Cond.methodLink RX11 332 yX6_letterSet ∈ uT := uT_in3 tb_5 68 rfl rfl
set_option maxRecDepth 20000 in
theorem kw_1167 : Cond.instanceMethod yX6_letterSet ∈ uT := uT_in3 tb_5 69 rfl rfl
set_option maxRecDepth 20000 in
theorem kw_1168 : Cond.selects RX6 yX6_letterSet yX6_letterSet ∈ uT := uT_in3 tb_5 70 rfl rfl
set_option maxRecDepth 20000 in
theorem kw_1169 : Cond.code yX6_letterSet cX6_letterSet 3 (some FieldType.int) ∈ uT := uT_in3 tb_5 71 rfl rfl
set_option maxRecDepth 20000 in
theorem kw_1170 : Cond.methodLink RL 155 yX11_laps ∈ uT := uT_in3 tb_5 72 rfl rfl
set_option maxRecDepth 20000 in
theorem kw_1171 : Cond.instanceMethod yX11_laps ∈ uT := uT_in3 tb_5 73 rfl rfl
set_option maxRecDepth 20000 in
theorem kw_1172 : Cond.selects RX11 yX11_laps yX11_laps ∈ uT := uT_in3 tb_5 74 rfl rfl
set_option maxRecDepth 20000 in
theorem kw_1173 : Cond.code yX11_laps cX11_laps 3 (some FieldType.int) ∈ uT := uT_in3 tb_5 75 rfl rfl
set_option maxRecDepth 20000 in
theorem kw_1174 : Cond.methodLink RX11 335 yX6_overlap ∈ uT := uT_in3 tb_5 76 rfl rfl
set_option maxRecDepth 20000 in
theorem kw_1175 : Cond.instanceMethod yX6_overlap ∈ uT := uT_in3 tb_5 77 rfl rfl
set_option maxRecDepth 20000 in
theorem kw_1176 : Cond.selects RX6 yX6_overlap yX6_overlap ∈ uT := uT_in3 tb_5 78 rfl rfl
set_option maxRecDepth 20000 in
theorem kw_1177 : Cond.code yX6_overlap cX6_overlap 3 (some FieldType.int) ∈ uT := uT_in3 tb_5 79 rfl rfl
set_option maxRecDepth 20000 in
theorem kw_1178 : Cond.methodLink RX6 38 Lib.Math.min.name ∈ uT := uT_in3 tb_5 80 rfl rfl
set_option maxRecDepth 20000 in
theorem kw_1179 : Cond.methodLink RX6 44 yX6_tailIsHead ∈ uT := uT_in3 tb_5 81 rfl rfl
set_option maxRecDepth 20000 in
theorem kw_1181 : Cond.instanceMethod yX6_tailIsHead ∈ uT := uT_in3 tb_5 83 rfl rfl
set_option maxRecDepth 20000 in
theorem kw_1182 : Cond.code yX6_tailIsHead cX6_tailIsHead 5 (some FieldType.boolean) ∈ uT := uT_in3 tb_5 84 rfl rfl
set_option maxRecDepth 20000 in
theorem kw_1183 : Cond.methodLink RL 159 yX11_merged ∈ uT := uT_in3 tb_5 85 rfl rfl
set_option maxRecDepth 20000 in
theorem kw_1184 : Cond.instanceMethod yX11_merged ∈ uT := uT_in3 tb_5 86 rfl rfl
set_option maxRecDepth 20000 in
theorem kw_1185 : Cond.selects RX11 yX11_merged yX11_merged ∈ uT := uT_in3 tb_5 87 rfl rfl
set_option maxRecDepth 20000 in
theorem kw_1186 : Cond.code yX11_merged cX11_merged 3 (some FieldType.int) ∈ uT := uT_in3 tb_5 88 rfl rfl
set_option maxRecDepth 20000 in
theorem kw_1187 : Cond.methodLink RX11 338 yX4_clear ∈ uT := uT_in3 tb_5 89 rfl rfl
set_option maxRecDepth 20000 in
theorem kw_1188 : Cond.instanceMethod yX4_clear ∈ uT := uT_in3 tb_5 90 rfl rfl
set_option maxRecDepth 20000 in
theorem kw_1189 : Cond.selects RX4 yX4_clear yX4_clear ∈ uT := uT_in3 tb_5 91 rfl rfl
set_option maxRecDepth 20000 in
theorem kw_1190 : Cond.code yX4_clear cX4_clear 1 (none : Option FieldType) ∈ uT := uT_in3 tb_5 92 rfl rfl
set_option maxRecDepth 20000 in
theorem kw_1191 : Cond.methodLink RX11 341 yX4_add ∈ uT := uT_in3 tb_5 93 rfl rfl
set_option maxRecDepth 20000 in
theorem kw_1192 : Cond.instanceMethod yX4_add ∈ uT := uT_in3 tb_5 94 rfl rfl
set_option maxRecDepth 20000 in
theorem kw_1193 : Cond.selects RX4 yX4_add yX4_add ∈ uT := uT_in3 tb_5 95 rfl rfl
set_option maxRecDepth 20000 in
theorem kw_1194 : Cond.code yX4_add cX4_add 4 (none : Option FieldType) ∈ uT := uT_in3 tb_5 96 rfl rfl
set_option maxRecDepth 20000 in
theorem kw_1195 : Cond.methodLink RX4 45 yX6_standsIn ∈ uT := uT_in3 tb_5 97 rfl rfl
set_option maxRecDepth 20000 in
theorem kw_1196 : Cond.methodLink RX11 345 yX4_mergeAll ∈ uT := uT_in3 tb_5 98 rfl rfl
set_option maxRecDepth 20000 in
theorem kw_1197 : Cond.instanceMethod yX4_mergeAll ∈ uT := uT_in3 tb_5 99 rfl rfl
set_option maxRecDepth 20000 in
theorem kw_1198 : Cond.selects RX4 yX4_mergeAll yX4_mergeAll ∈ uT := uT_in3 tb_5 100 rfl rfl
set_option maxRecDepth 20000 in
theorem kw_1199 : Cond.code yX4_mergeAll cX4_mergeAll 4 (none : Option FieldType) ∈ uT := uT_in3 tb_5 101 rfl rfl
set_option maxRecDepth 20000 in
theorem kw_1200 : Cond.methodLink RX4 52 yX4_measureOverlaps ∈ uT := uT_in3 tb_5 102 rfl rfl
set_option maxRecDepth 20000 in
theorem kw_1202 : Cond.instanceMethod yX4_measureOverlaps ∈ uT := uT_in3 tb_5 104 rfl rfl
set_option maxRecDepth 20000 in
theorem kw_1203 : Cond.code yX4_measureOverlaps cX4_measureOverlaps 3 (none : Option FieldType) ∈ uT := uT_in3 tb_5 105 rfl rfl
set_option maxRecDepth 20000 in
theorem kw_1204 : Cond.methodLink RX4 77 yX6_overlap ∈ uT := uT_in3 tb_5 106 rfl rfl
set_option maxRecDepth 20000 in
theorem kw_1205 : Cond.methodLink RX4 55 yX4_measureRests ∈ uT := uT_in3 tb_5 107 rfl rfl
set_option maxRecDepth 20000 in
theorem kw_1207 : Cond.instanceMethod yX4_measureRests ∈ uT := uT_in3 tb_5 109 rfl rfl
set_option maxRecDepth 20000 in
theorem kw_1208 : Cond.code yX4_measureRests cX4_measureRests 6 (none : Option FieldType) ∈ uT := uT_in3 tb_5 110 rfl rfl
set_option maxRecDepth 20000 in
theorem kw_1209 : Cond.constant RX4 81 (Int32.ofInt (1000000)) ∈ uT := uT_in3 tb_5 111 rfl rfl
set_option maxRecDepth 20000 in
theorem kw_1211 : Cond.methodLink RX4 86 yX4_restWith ∈ uT := uT_in3 tb_5 113 rfl rfl
set_option maxRecDepth 20000 in
theorem kw_1213 : Cond.instanceMethod yX4_restWith ∈ uT := uT_in3 tb_5 115 rfl rfl
set_option maxRecDepth 20000 in
theorem kw_1214 : Cond.code yX4_restWith cX4_restWith 4 (some FieldType.int) ∈ uT := uT_in3 tb_5 116 rfl rfl
set_option maxRecDepth 20000 in
theorem kw_1215 : Cond.methodLink RX4 96 yX4_stateWith ∈ uT := uT_in3 tb_5 117 rfl rfl
set_option maxRecDepth 20000 in
theorem kw_1216 : Cond.static yX4_stateWith ∈ uT := uT_in3 tb_5 118 rfl rfl
set_option maxRecDepth 20000 in
theorem kw_1217 : Cond.code yX4_stateWith cX4_stateWith 2 (some FieldType.int) ∈ uT := uT_in3 tb_5 119 rfl rfl
set_option maxRecDepth 20000 in
theorem kw_1218 : Cond.methodLink RX4 90 Lib.Math.min.name ∈ uT := uT_in3 tb_5 120 rfl rfl
set_option maxRecDepth 20000 in
theorem kw_1219 : Cond.methodLink RX4 58 yX4_openFirsts ∈ uT := uT_in3 tb_5 121 rfl rfl
set_option maxRecDepth 20000 in
theorem kw_1221 : Cond.instanceMethod yX4_openFirsts ∈ uT := uT_in3 tb_5 123 rfl rfl
set_option maxRecDepth 20000 in
theorem kw_1222 : Cond.code yX4_openFirsts cX4_openFirsts 3 (some FieldType.int) ∈ uT := uT_in3 tb_5 124 rfl rfl
set_option maxRecDepth 20000 in
theorem kw_1223 : Cond.methodLink RX4 102 yX4_addOpen ∈ uT := uT_in3 tb_5 125 rfl rfl
set_option maxRecDepth 20000 in
theorem kw_1225 : Cond.instanceMethod yX4_addOpen ∈ uT := uT_in3 tb_5 127 rfl rfl
set_option maxRecDepth 20000 in
theorem kw_1226 : Cond.code yX4_addOpen cX4_addOpen 2 (none : Option FieldType) ∈ uT := uT_in3 tb_5 128 rfl rfl
set_option maxRecDepth 20000 in
theorem kw_1227 : Cond.methodLink RX4 62 yX6_clear ∈ uT := uT_in3 tb_5 129 rfl rfl
set_option maxRecDepth 20000 in
theorem kw_1228 : Cond.methodLink RX4 65 yX4_leastLetter ∈ uT := uT_in3 tb_5 130 rfl rfl
set_option maxRecDepth 20000 in
theorem kw_1230 : Cond.instanceMethod yX4_leastLetter ∈ uT := uT_in3 tb_5 132 rfl rfl
set_option maxRecDepth 20000 in
theorem kw_1231 : Cond.code yX4_leastLetter cX4_leastLetter 4 (some FieldType.int) ∈ uT := uT_in3 tb_5 133 rfl rfl
set_option maxRecDepth 20000 in
theorem kw_1232 : Cond.methodLink RX4 111 yX4_letterOf ∈ uT := uT_in3 tb_5 134 rfl rfl
set_option maxRecDepth 20000 in
theorem kw_1234 : Cond.instanceMethod yX4_letterOf ∈ uT := uT_in3 tb_5 136 rfl rfl
set_option maxRecDepth 20000 in
theorem kw_1235 : Cond.code yX4_letterOf cX4_letterOf 3 (some FieldType.int) ∈ uT := uT_in3 tb_5 137 rfl rfl
set_option maxRecDepth 20000 in
theorem kw_1236 : Cond.methodLink RX4 105 yX4_placeIn ∈ uT := uT_in3 tb_5 138 rfl rfl
set_option maxRecDepth 20000 in
theorem kw_1238 : Cond.instanceMethod yX4_placeIn ∈ uT := uT_in3 tb_5 140 rfl rfl
set_option maxRecDepth 20000 in
theorem kw_1239 : Cond.code yX4_placeIn cX4_placeIn 3 (some FieldType.int) ∈ uT := uT_in3 tb_5 141 rfl rfl
set_option maxRecDepth 20000 in
theorem kw_1240 : Cond.methodLink RX4 108 yX6_at ∈ uT := uT_in3 tb_5 142 rfl rfl
set_option maxRecDepth 20000 in
theorem kw_1241 : Cond.methodLink RX4 69 yX6_add ∈ uT := uT_in3 tb_5 143 rfl rfl
set_option maxRecDepth 20000 in
theorem kw_1242 : Cond.methodLink RX4 73 yX4_follow ∈ uT := uT_in3 tb_5 144 rfl rfl
set_option maxRecDepth 20000 in
theorem kw_1244 : Cond.instanceMethod yX4_follow ∈ uT := uT_in3 tb_5 146 rfl rfl
set_option maxRecDepth 20000 in
theorem kw_1245 : Cond.code yX4_follow cX4_follow 7 (none : Option FieldType) ∈ uT := uT_in3 tb_5 147 rfl rfl
set_option maxRecDepth 20000 in
theorem kw_1246 : Cond.methodLink RX4 114 yX4_addNexts ∈ uT := uT_in3 tb_5 148 rfl rfl
set_option maxRecDepth 20000 in
theorem kw_1248 : Cond.instanceMethod yX4_addNexts ∈ uT := uT_in3 tb_5 150 rfl rfl
set_option maxRecDepth 20000 in
theorem kw_1249 : Cond.code yX4_addNexts cX4_addNexts 4 (none : Option FieldType) ∈ uT := uT_in3 tb_5 151 rfl rfl
set_option maxRecDepth 20000 in
theorem kw_1250 : Cond.methodLink RL 163 yX11_mergedAt ∈ uT := uT_in3 tb_5 152 rfl rfl
set_option maxRecDepth 20000 in
theorem kw_1251 : Cond.instanceMethod yX11_mergedAt ∈ uT := uT_in3 tb_5 153 rfl rfl
set_option maxRecDepth 20000 in
theorem kw_1252 : Cond.selects RX11 yX11_mergedAt yX11_mergedAt ∈ uT := uT_in3 tb_5 154 rfl rfl
set_option maxRecDepth 20000 in
theorem kw_1253 : Cond.code yX11_mergedAt cX11_mergedAt 2 (some FieldType.int) ∈ uT := uT_in3 tb_5 155 rfl rfl
set_option maxRecDepth 20000 in
theorem kw_1254 : Cond.methodLink RL 167 yX11_since ∈ uT := uT_in3 tb_5 156 rfl rfl
set_option maxRecDepth 20000 in
theorem kw_1255 : Cond.instanceMethod yX11_since ∈ uT := uT_in3 tb_5 157 rfl rfl
set_option maxRecDepth 20000 in
theorem kw_1256 : Cond.selects RX11 yX11_since yX11_since ∈ uT := uT_in3 tb_5 158 rfl rfl
set_option maxRecDepth 20000 in
theorem kw_1257 : Cond.code yX11_since cX11_since 5 (some FieldType.int) ∈ uT := uT_in3 tb_5 159 rfl rfl
set_option maxRecDepth 20000 in
theorem kw_1258 : Cond.constantLong RX11 351 (Int64.ofInt (12)) ∈ uT := uT_in3 tb_5 160 rfl rfl
set_option maxRecDepth 20000 in
theorem kw_1259 : Cond.methodLink RX11 353 yX0_lastDayWith ∈ uT := uT_in3 tb_5 161 rfl rfl
set_option maxRecDepth 20000 in
theorem kw_1260 : Cond.instanceMethod yX0_lastDayWith ∈ uT := uT_in3 tb_5 162 rfl rfl
set_option maxRecDepth 20000 in
theorem kw_1261 : Cond.selects RX0 yX0_lastDayWith yX0_lastDayWith ∈ uT := uT_in3 tb_5 163 rfl rfl
set_option maxRecDepth 20000 in
theorem kw_1262 : Cond.code yX0_lastDayWith cX0_lastDayWith 3 (some FieldType.int) ∈ uT := uT_in3 tb_5 164 rfl rfl
set_option maxRecDepth 20000 in
theorem kw_1263 : Cond.methodLink RX0 59 yX0_firstDayWith ∈ uT := uT_in3 tb_5 165 rfl rfl
set_option maxRecDepth 20000 in
theorem kw_1264 : Cond.methodLink RL 171 yX11_far ∈ uT := uT_in3 tb_5 166 rfl rfl
set_option maxRecDepth 20000 in
theorem kw_1265 : Cond.instanceMethod yX11_far ∈ uT := uT_in3 tb_5 167 rfl rfl
set_option maxRecDepth 20000 in
theorem kw_1266 : Cond.selects RX11 yX11_far yX11_far ∈ uT := uT_in3 tb_5 168 rfl rfl
set_option maxRecDepth 20000 in
theorem kw_1267 : Cond.code yX11_far cX11_far 3 (some FieldType.int) ∈ uT := uT_in3 tb_5 169 rfl rfl
set_option maxRecDepth 20000 in
theorem kw_1268 : Cond.methodLink RX11 356 yX6_editsTo ∈ uT := uT_in3 tb_5 170 rfl rfl
set_option maxRecDepth 20000 in
theorem kw_1269 : Cond.instanceMethod yX6_editsTo ∈ uT := uT_in3 tb_5 171 rfl rfl
set_option maxRecDepth 20000 in
theorem kw_1270 : Cond.selects RX6 yX6_editsTo yX6_editsTo ∈ uT := uT_in3 tb_5 172 rfl rfl
set_option maxRecDepth 20000 in
theorem kw_1271 : Cond.code yX6_editsTo cX6_editsTo 8 (some FieldType.int) ∈ uT := uT_in3 tb_5 173 rfl rfl
set_option maxRecDepth 20000 in
theorem kw_1272 : Cond.methodLink RL 175 yX11_common ∈ uT := uT_in3 tb_5 174 rfl rfl
set_option maxRecDepth 20000 in
theorem kw_1273 : Cond.instanceMethod yX11_common ∈ uT := uT_in3 tb_5 175 rfl rfl
set_option maxRecDepth 20000 in
theorem kw_1274 : Cond.selects RX11 yX11_common yX11_common ∈ uT := uT_in3 tb_5 176 rfl rfl
set_option maxRecDepth 20000 in
theorem kw_1275 : Cond.code yX11_common cX11_common 7 (some FieldType.int) ∈ uT := uT_in3 tb_5 177 rfl rfl
set_option maxRecDepth 20000 in
theorem kw_1276 : Cond.methodLink RX11 360 yX6_stretchIn ∈ uT := uT_in3 tb_5 178 rfl rfl
set_option maxRecDepth 20000 in
theorem kw_1277 : Cond.instanceMethod yX6_stretchIn ∈ uT := uT_in3 tb_5 179 rfl rfl
set_option maxRecDepth 20000 in
theorem kw_1278 : Cond.selects RX6 yX6_stretchIn yX6_stretchIn ∈ uT := uT_in3 tb_5 180 rfl rfl
set_option maxRecDepth 20000 in
theorem kw_1279 : Cond.code yX6_stretchIn cX6_stretchIn 6 (some FieldType.int) ∈ uT := uT_in3 tb_5 181 rfl rfl
set_option maxRecDepth 20000 in
theorem kw_1280 : Cond.methodLink RX6 47 Lib.Math.max.name ∈ uT := uT_in3 tb_5 182 rfl rfl
set_option maxRecDepth 20000 in
theorem kw_1281 : Cond.methodLink RL 179 yX11_chain ∈ uT := uT_in3 tb_5 183 rfl rfl
set_option maxRecDepth 20000 in
theorem kw_1282 : Cond.instanceMethod yX11_chain ∈ uT := uT_in3 tb_5 184 rfl rfl
set_option maxRecDepth 20000 in
theorem kw_1283 : Cond.selects RX11 yX11_chain yX11_chain ∈ uT := uT_in3 tb_5 185 rfl rfl
set_option maxRecDepth 20000 in
theorem kw_1284 : Cond.code yX11_chain cX11_chain 3 (some FieldType.int) ∈ uT := uT_in3 tb_5 186 rfl rfl
set_option maxRecDepth 20000 in
theorem kw_1285 : Cond.constantLong RX11 366 (Int64.ofInt (11)) ∈ uT := uT_in3 tb_5 187 rfl rfl
set_option maxRecDepth 20000 in
theorem kw_1286 : Cond.methodLink RX11 368 yX11_followers ∈ uT := uT_in3 tb_5 188 rfl rfl
set_option maxRecDepth 20000 in
theorem kw_1288 : Cond.instanceMethod yX11_followers ∈ uT := uT_in3 tb_5 190 rfl rfl
set_option maxRecDepth 20000 in
theorem kw_1289 : Cond.code yX11_followers cX11_followers 6 (some FieldType.int) ∈ uT := uT_in3 tb_5 191 rfl rfl
set_option maxRecDepth 20000 in
theorem kw_1290 : Cond.methodLink RX11 371 yX5_link ∈ uT := uT_in3 tb_5 192 rfl rfl
set_option maxRecDepth 20000 in
theorem kw_1291 : Cond.instanceMethod yX5_link ∈ uT := uT_in3 tb_5 193 rfl rfl
set_option maxRecDepth 20000 in
theorem kw_1292 : Cond.selects RX5 yX5_link yX5_link ∈ uT := uT_in3 tb_5 194 rfl rfl
set_option maxRecDepth 20000 in
theorem kw_1293 : Cond.code yX5_link cX5_link 3 (none : Option FieldType) ∈ uT := uT_in3 tb_5 195 rfl rfl
set_option maxRecDepth 20000 in
theorem kw_1294 : Cond.methodLink RX11 374 yX5_findChain ∈ uT := uT_in3 tb_5 196 rfl rfl
set_option maxRecDepth 20000 in
theorem kw_1295 : Cond.instanceMethod yX5_findChain ∈ uT := uT_in3 tb_5 197 rfl rfl
set_option maxRecDepth 20000 in
theorem kw_1296 : Cond.selects RX5 yX5_findChain yX5_findChain ∈ uT := uT_in3 tb_5 198 rfl rfl
set_option maxRecDepth 20000 in
theorem kw_1297 : Cond.code yX5_findChain cX5_findChain 6 (none : Option FieldType) ∈ uT := uT_in3 tb_5 199 rfl rfl
set_option maxRecDepth 20000 in
theorem kw_1298 : Cond.methodLink RX5 33 Lib.Math.min.name ∈ uT := uT_in3 tb_5 200 rfl rfl
set_option maxRecDepth 20000 in
theorem kw_1300 : Cond.methodLink RX5 43 yX5_bestLink ∈ uT := uT_in3 tb_5 202 rfl rfl
set_option maxRecDepth 20000 in
theorem kw_1302 : Cond.instanceMethod yX5_bestLink ∈ uT := uT_in3 tb_5 204 rfl rfl
set_option maxRecDepth 20000 in
theorem kw_1303 : Cond.code yX5_bestLink cX5_bestLink 7 (some FieldType.int) ∈ uT := uT_in3 tb_5 205 rfl rfl
set_option maxRecDepth 20000 in
theorem kw_1304 : Cond.methodLink RX5 46 yX5_lengthWith ∈ uT := uT_in3 tb_5 206 rfl rfl
set_option maxRecDepth 20000 in
theorem kw_1306 : Cond.instanceMethod yX5_lengthWith ∈ uT := uT_in3 tb_5 208 rfl rfl
set_option maxRecDepth 20000 in
theorem kw_1307 : Cond.code yX5_lengthWith cX5_lengthWith 3 (some FieldType.int) ∈ uT := uT_in3 tb_5 209 rfl rfl
set_option maxRecDepth 20000 in
theorem kw_1308 : Cond.methodLink RX5 49 yX6_clear ∈ uT := uT_in3 tb_5 210 rfl rfl
set_option maxRecDepth 20000 in
theorem kw_1309 : Cond.methodLink RX5 52 yX6_add ∈ uT := uT_in3 tb_5 211 rfl rfl
set_option maxRecDepth 20000 in
theorem kw_1310 : Cond.methodLink RL 183 yX11_chainAt ∈ uT := uT_in3 tb_5 212 rfl rfl
set_option maxRecDepth 20000 in
theorem kw_1311 : Cond.instanceMethod yX11_chainAt ∈ uT := uT_in3 tb_5 213 rfl rfl
set_option maxRecDepth 20000 in
theorem kw_1312 : Cond.selects RX11 yX11_chainAt yX11_chainAt ∈ uT := uT_in3 tb_5 214 rfl rfl
set_option maxRecDepth 20000 in
theorem kw_1313 : Cond.code yX11_chainAt cX11_chainAt 2 (some FieldType.int) ∈ uT := uT_in3 tb_5 215 rfl rfl
set_option maxRecDepth 20000 in
theorem kw_1314 : Cond.methodLink RL 187 yX11_witness ∈ uT := uT_in3 tb_5 216 rfl rfl
set_option maxRecDepth 20000 in
theorem kw_1315 : Cond.instanceMethod yX11_witness ∈ uT := uT_in3 tb_5 217 rfl rfl
set_option maxRecDepth 20000 in
theorem kw_1316 : Cond.selects RX11 yX11_witness yX11_witness ∈ uT := uT_in3 tb_5 218 rfl rfl
set_option maxRecDepth 20000 in
theorem kw_1317 : Cond.code yX11_witness cX11_witness 2 (some FieldType.int) ∈ uT := uT_in3 tb_5 219 rfl rfl
set_option maxRecDepth 20000 in
theorem kw_1318 : Cond.methodLink RX11 380 yX11_leastWitness ∈ uT := uT_in3 tb_5 220 rfl rfl
set_option maxRecDepth 20000 in
theorem kw_1320 : Cond.instanceMethod yX11_leastWitness ∈ uT := uT_in3 tb_5 222 rfl rfl
set_option maxRecDepth 20000 in
theorem kw_1321 : Cond.code yX11_leastWitness cX11_leastWitness 5 (some FieldType.int) ∈ uT := uT_in3 tb_5 223 rfl rfl
set_option maxRecDepth 20000 in
theorem kw_1322 : Cond.methodLink RX11 469 yX11_fitsCounted ∈ uT := uT_in3 tb_5 224 rfl rfl
set_option maxRecDepth 20000 in
theorem kw_1324 : Cond.instanceMethod yX11_fitsCounted ∈ uT := uT_in3 tb_5 226 rfl rfl
set_option maxRecDepth 20000 in
theorem kw_1325 : Cond.code yX11_fitsCounted cX11_fitsCounted 4 (some FieldType.int) ∈ uT := uT_in3 tb_5 227 rfl rfl
set_option maxRecDepth 20000 in
theorem kw_1326 : Cond.methodLink RL 191 yX11_fillFrom ∈ uT := uT_in3 tb_5 228 rfl rfl
set_option maxRecDepth 20000 in
theorem kw_1327 : Cond.instanceMethod yX11_fillFrom ∈ uT := uT_in3 tb_5 229 rfl rfl
set_option maxRecDepth 20000 in
theorem kw_1328 : Cond.selects RX11 yX11_fillFrom yX11_fillFrom ∈ uT := uT_in3 tb_5 230 rfl rfl
set_option maxRecDepth 20000 in
theorem kw_1329 : Cond.code yX11_fillFrom cX11_fillFrom 4 (some FieldType.int) ∈ uT := uT_in3 tb_5 231 rfl rfl
set_option maxRecDepth 20000 in
theorem kw_1330 : Cond.methodLink RX11 383 yX11_bestFilling ∈ uT := uT_in3 tb_5 232 rfl rfl
set_option maxRecDepth 20000 in
theorem kw_1332 : Cond.instanceMethod yX11_bestFilling ∈ uT := uT_in3 tb_5 234 rfl rfl
set_option maxRecDepth 20000 in
theorem kw_1333 : Cond.code yX11_bestFilling cX11_bestFilling 10 (some FieldType.int) ∈ uT := uT_in3 tb_5 235 rfl rfl
set_option maxRecDepth 20000 in
theorem kw_1334 : Cond.methodLink RX11 472 yX0_goneAfter ∈ uT := uT_in3 tb_5 236 rfl rfl
set_option maxRecDepth 20000 in
theorem kw_1335 : Cond.constant RX11 409 (Int32.ofInt (1000000)) ∈ uT := uT_in3 tb_5 237 rfl rfl
set_option maxRecDepth 20000 in
theorem kw_1336 : Cond.methodLink RX11 481 yX0_fromHead ∈ uT := uT_in3 tb_5 238 rfl rfl
set_option maxRecDepth 20000 in
theorem kw_1337 : Cond.methodLink RX11 484 yX6_show ∈ uT := uT_in3 tb_5 239 rfl rfl
set_option maxRecDepth 20000 in
theorem kw_1338 : Cond.methodLink RX11 488 yX7_timesInAll ∈ uT := uT_in3 tb_6 0 rfl rfl
set_option maxRecDepth 20000 in
theorem kw_1339 : Cond.instanceMethod yX7_timesInAll ∈ uT := uT_in3 tb_6 1 rfl rfl
set_option maxRecDepth 20000 in
theorem kw_1340 : Cond.selects RX7 yX7_timesInAll yX7_timesInAll ∈ uT := uT_in3 tb_6 2 rfl rfl
set_option maxRecDepth 20000 in
theorem kw_1341 : Cond.code yX7_timesInAll cX7_timesInAll 4 (some FieldType.int) ∈ uT := uT_in3 tb_6 3 rfl rfl
set_option maxRecDepth 20000 in
theorem kw_1342 : Cond.methodLink RX7 75 yX6_timesIn ∈ uT := uT_in3 tb_6 4 rfl rfl
set_option maxRecDepth 20000 in
theorem kw_1343 : Cond.methodLink RL 195 yX11_keeps ∈ uT := uT_in3 tb_6 5 rfl rfl
set_option maxRecDepth 20000 in
theorem kw_1344 : Cond.instanceMethod yX11_keeps ∈ uT := uT_in3 tb_6 6 rfl rfl
set_option maxRecDepth 20000 in
theorem kw_1345 : Cond.selects RX11 yX11_keeps yX11_keeps ∈ uT := uT_in3 tb_6 7 rfl rfl
set_option maxRecDepth 20000 in
theorem kw_1346 : Cond.code yX11_keeps cX11_keeps 3 (some FieldType.int) ∈ uT := uT_in3 tb_6 8 rfl rfl
set_option maxRecDepth 20000 in
theorem kw_1347 : Cond.methodLink RX11 387 yX0_keptAfter ∈ uT := uT_in3 tb_6 9 rfl rfl
set_option maxRecDepth 20000 in
theorem kw_1348 : Cond.instanceMethod yX0_keptAfter ∈ uT := uT_in3 tb_6 10 rfl rfl
set_option maxRecDepth 20000 in
theorem kw_1349 : Cond.selects RX0 yX0_keptAfter yX0_keptAfter ∈ uT := uT_in3 tb_6 11 rfl rfl
set_option maxRecDepth 20000 in
theorem kw_1350 : Cond.code yX0_keptAfter cX0_keptAfter 2 (some FieldType.int) ∈ uT := uT_in3 tb_6 12 rfl rfl
set_option maxRecDepth 20000 in
theorem kw_1351 : Cond.methodLink RX0 52 Lib.Math.max.name ∈ uT := uT_in3 tb_6 13 rfl rfl
set_option maxRecDepth 20000 in
theorem kw_1352 : Cond.methodLink RL 199 yX11_fewest ∈ uT := uT_in3 tb_6 14 rfl rfl
set_option maxRecDepth 20000 in
theorem kw_1353 : Cond.instanceMethod yX11_fewest ∈ uT := uT_in3 tb_6 15 rfl rfl
set_option maxRecDepth 20000 in
theorem kw_1354 : Cond.selects RX11 yX11_fewest yX11_fewest ∈ uT := uT_in3 tb_6 16 rfl rfl
set_option maxRecDepth 20000 in
theorem kw_1355 : Cond.code yX11_fewest cX11_fewest 4 (some FieldType.int) ∈ uT := uT_in3 tb_6 17 rfl rfl
set_option maxRecDepth 20000 in
theorem kw_1356 : Cond.methodLink RX11 390 yX7_leastSet ∈ uT := uT_in3 tb_6 18 rfl rfl
set_option maxRecDepth 20000 in
theorem kw_1357 : Cond.instanceMethod yX7_leastSet ∈ uT := uT_in3 tb_6 19 rfl rfl
set_option maxRecDepth 20000 in
theorem kw_1358 : Cond.selects RX7 yX7_leastSet yX7_leastSet ∈ uT := uT_in3 tb_6 20 rfl rfl
set_option maxRecDepth 20000 in
theorem kw_1359 : Cond.code yX7_leastSet cX7_leastSet 8 (some FieldType.int) ∈ uT := uT_in3 tb_6 21 rfl rfl
set_option maxRecDepth 20000 in
theorem kw_1360 : Cond.constant RX7 89 (Int32.ofInt (1000000)) ∈ uT := uT_in3 tb_6 22 rfl rfl
set_option maxRecDepth 20000 in
theorem kw_1361 : Cond.methodLink RX7 90 yX7_allJars ∈ uT := uT_in3 tb_6 23 rfl rfl
set_option maxRecDepth 20000 in
theorem kw_1362 : Cond.methodLink RX7 94 yX7_priceOf ∈ uT := uT_in3 tb_6 24 rfl rfl
set_option maxRecDepth 20000 in
theorem kw_1363 : Cond.instanceMethod yX7_priceOf ∈ uT := uT_in3 tb_6 25 rfl rfl
set_option maxRecDepth 20000 in
theorem kw_1364 : Cond.selects RX7 yX7_priceOf yX7_priceOf ∈ uT := uT_in3 tb_6 26 rfl rfl
set_option maxRecDepth 20000 in
theorem kw_1365 : Cond.code yX7_priceOf cX7_priceOf 5 (some FieldType.int) ∈ uT := uT_in3 tb_6 27 rfl rfl
set_option maxRecDepth 20000 in
theorem kw_1367 : Cond.methodLink RX7 98 yX7_keptBy ∈ uT := uT_in3 tb_6 29 rfl rfl
set_option maxRecDepth 20000 in
theorem kw_1369 : Cond.instanceMethod yX7_keptBy ∈ uT := uT_in3 tb_6 31 rfl rfl
set_option maxRecDepth 20000 in
theorem kw_1370 : Cond.code yX7_keptBy cX7_keptBy 5 (some FieldType.int) ∈ uT := uT_in3 tb_6 32 rfl rfl
set_option maxRecDepth 20000 in
theorem kw_1371 : Cond.methodLink RX7 86 yX0_keptAfter ∈ uT := uT_in3 tb_6 33 rfl rfl
set_option maxRecDepth 20000 in
theorem kw_1372 : Cond.methodLink RL 203 yX11_cheapest ∈ uT := uT_in3 tb_6 34 rfl rfl
set_option maxRecDepth 20000 in
theorem kw_1373 : Cond.instanceMethod yX11_cheapest ∈ uT := uT_in3 tb_6 35 rfl rfl
set_option maxRecDepth 20000 in
theorem kw_1374 : Cond.selects RX11 yX11_cheapest yX11_cheapest ∈ uT := uT_in3 tb_6 36 rfl rfl
set_option maxRecDepth 20000 in
theorem kw_1375 : Cond.code yX11_cheapest cX11_cheapest 5 (some FieldType.int) ∈ uT := uT_in3 tb_6 37 rfl rfl
set_option maxRecDepth 20000 in
theorem kw_1376 : Cond.methodLink RX11 394 yX7_priceOf ∈ uT := uT_in3 tb_6 38 rfl rfl
set_option maxRecDepth 20000 in
theorem kw_1377 : Cond.methodLink RL 207 yX11_shelf ∈ uT := uT_in3 tb_6 39 rfl rfl
set_option maxRecDepth 20000 in
theorem kw_1378 : Cond.instanceMethod yX11_shelf ∈ uT := uT_in3 tb_6 40 rfl rfl
set_option maxRecDepth 20000 in
theorem kw_1379 : Cond.selects RX11 yX11_shelf yX11_shelf ∈ uT := uT_in3 tb_6 41 rfl rfl
set_option maxRecDepth 20000 in
theorem kw_1380 : Cond.code yX11_shelf cX11_shelf 1 (some FieldType.int) ∈ uT := uT_in3 tb_6 42 rfl rfl
set_option maxRecDepth 20000 in
theorem kw_1381 : Cond.methodLink RX11 398 yX5_findShelf ∈ uT := uT_in3 tb_6 43 rfl rfl
set_option maxRecDepth 20000 in
theorem kw_1382 : Cond.instanceMethod yX5_findShelf ∈ uT := uT_in3 tb_6 44 rfl rfl
set_option maxRecDepth 20000 in
theorem kw_1383 : Cond.selects RX5 yX5_findShelf yX5_findShelf ∈ uT := uT_in3 tb_6 45 rfl rfl
set_option maxRecDepth 20000 in
theorem kw_1384 : Cond.code yX5_findShelf cX5_findShelf 7 (some FieldType.int) ∈ uT := uT_in3 tb_6 46 rfl rfl
set_option maxRecDepth 20000 in
theorem kw_1385 : Cond.methodLink RX5 56 yX7_filledJars ∈ uT := uT_in3 tb_6 47 rfl rfl
set_option maxRecDepth 20000 in
theorem kw_1386 : Cond.methodLink RX5 62 yX5_bestOpening ∈ uT := uT_in3 tb_6 48 rfl rfl
set_option maxRecDepth 20000 in
theorem kw_1388 : Cond.instanceMethod yX5_bestOpening ∈ uT := uT_in3 tb_6 50 rfl rfl
set_option maxRecDepth 20000 in
theorem kw_1389 : Cond.code yX5_bestOpening cX5_bestOpening 9 (some FieldType.int) ∈ uT := uT_in3 tb_6 51 rfl rfl
set_option maxRecDepth 20000 in
theorem kw_1390 : Cond.methodLink RX5 66 yX5_gainWith ∈ uT := uT_in3 tb_6 52 rfl rfl
set_option maxRecDepth 20000 in
theorem kw_1392 : Cond.instanceMethod yX5_gainWith ∈ uT := uT_in3 tb_6 54 rfl rfl
set_option maxRecDepth 20000 in
theorem kw_1393 : Cond.code yX5_gainWith cX5_gainWith 6 (some FieldType.int) ∈ uT := uT_in3 tb_6 55 rfl rfl
set_option maxRecDepth 20000 in
theorem kw_1394 : Cond.methodLink RX5 77 yJ6_bitCount_0f7a4 ∈ uT := uT_in3 tb_6 56 rfl rfl
set_option maxRecDepth 20000 in
theorem kw_1395 : Cond.methodLink RX5 83 yX0_leftOn ∈ uT := uT_in3 tb_6 57 rfl rfl
set_option maxRecDepth 20000 in
theorem kw_1396 : Cond.methodLink RL 211 yX11_shelfAt ∈ uT := uT_in3 tb_6 58 rfl rfl
set_option maxRecDepth 20000 in
theorem kw_1397 : Cond.instanceMethod yX11_shelfAt ∈ uT := uT_in3 tb_6 59 rfl rfl
set_option maxRecDepth 20000 in
theorem kw_1398 : Cond.selects RX11 yX11_shelfAt yX11_shelfAt ∈ uT := uT_in3 tb_6 60 rfl rfl
set_option maxRecDepth 20000 in
theorem kw_1399 : Cond.code yX11_shelfAt cX11_shelfAt 2 (some FieldType.int) ∈ uT := uT_in3 tb_6 61 rfl rfl
set_option maxRecDepth 20000 in
theorem kw_1400 : Cond.methodLink RL 215 yX11_pieced ∈ uT := uT_in3 tb_6 62 rfl rfl
set_option maxRecDepth 20000 in
theorem kw_1401 : Cond.instanceMethod yX11_pieced ∈ uT := uT_in3 tb_6 63 rfl rfl
set_option maxRecDepth 20000 in
theorem kw_1402 : Cond.selects RX11 yX11_pieced yX11_pieced ∈ uT := uT_in3 tb_6 64 rfl rfl
set_option maxRecDepth 20000 in
theorem kw_1403 : Cond.code yX11_pieced cX11_pieced 4 (some FieldType.int) ∈ uT := uT_in3 tb_6 65 rfl rfl
set_option maxRecDepth 20000 in
theorem kw_1404 : Cond.methodLink RX11 405 yX11_leastPiecing ∈ uT := uT_in3 tb_6 66 rfl rfl
set_option maxRecDepth 20000 in
theorem kw_1406 : Cond.instanceMethod yX11_leastPiecing ∈ uT := uT_in3 tb_6 68 rfl rfl
set_option maxRecDepth 20000 in
theorem kw_1407 : Cond.code yX11_leastPiecing cX11_leastPiecing 8 (some FieldType.int) ∈ uT := uT_in3 tb_6 69 rfl rfl
set_option maxRecDepth 20000 in
theorem kw_1408 : Cond.methodLink RX11 491 yX11_longestPiece ∈ uT := uT_in3 tb_6 70 rfl rfl
set_option maxRecDepth 20000 in
theorem kw_1410 : Cond.instanceMethod yX11_longestPiece ∈ uT := uT_in3 tb_6 72 rfl rfl
set_option maxRecDepth 20000 in
theorem kw_1411 : Cond.code yX11_longestPiece cX11_longestPiece 5 (some FieldType.int) ∈ uT := uT_in3 tb_6 73 rfl rfl
set_option maxRecDepth 20000 in
theorem kw_1412 : Cond.methodLink RX11 494 yX11_joinsHeard ∈ uT := uT_in3 tb_6 74 rfl rfl
set_option maxRecDepth 20000 in
theorem kw_1413 : Cond.static yX11_joinsHeard ∈ uT := uT_in3 tb_6 75 rfl rfl
set_option maxRecDepth 20000 in
theorem kw_1414 : Cond.code yX11_joinsHeard cX11_joinsHeard 2 (some FieldType.int) ∈ uT := uT_in3 tb_6 76 rfl rfl
set_option maxRecDepth 20000 in
theorem kw_1415 : Cond.methodLink RX11 497 yX11_isVowel ∈ uT := uT_in3 tb_6 77 rfl rfl
set_option maxRecDepth 20000 in
theorem kw_1416 : Cond.static yX11_isVowel ∈ uT := uT_in3 tb_6 78 rfl rfl
set_option maxRecDepth 20000 in
theorem kw_1417 : Cond.code yX11_isVowel cX11_isVowel 1 (some FieldType.boolean) ∈ uT := uT_in3 tb_6 79 rfl rfl
set_option maxRecDepth 20000 in
theorem kw_1418 : Cond.methodLink RL 219 yX11_road ∈ uT := uT_in3 tb_6 80 rfl rfl
set_option maxRecDepth 20000 in
theorem kw_1419 : Cond.instanceMethod yX11_road ∈ uT := uT_in3 tb_6 81 rfl rfl
set_option maxRecDepth 20000 in
theorem kw_1420 : Cond.selects RX11 yX11_road yX11_road ∈ uT := uT_in3 tb_6 82 rfl rfl
set_option maxRecDepth 20000 in
theorem kw_1421 : Cond.code yX11_road cX11_road 3 (some FieldType.int) ∈ uT := uT_in3 tb_6 83 rfl rfl
set_option maxRecDepth 20000 in
theorem kw_1422 : Cond.constantLong RX11 410 (Int64.ofInt (30)) ∈ uT := uT_in3 tb_6 84 rfl rfl
set_option maxRecDepth 20000 in
theorem kw_1423 : Cond.methodLink RX11 412 yX7_travel ∈ uT := uT_in3 tb_6 85 rfl rfl
set_option maxRecDepth 20000 in
theorem kw_1424 : Cond.instanceMethod yX7_travel ∈ uT := uT_in3 tb_6 86 rfl rfl
set_option maxRecDepth 20000 in
theorem kw_1425 : Cond.selects RX7 yX7_travel yX7_travel ∈ uT := uT_in3 tb_6 87 rfl rfl
set_option maxRecDepth 20000 in
theorem kw_1426 : Cond.code yX7_travel cX7_travel 8 (some FieldType.int) ∈ uT := uT_in3 tb_6 88 rfl rfl
set_option maxRecDepth 20000 in
theorem kw_1427 : Cond.constant RX7 102 (Int32.ofInt (65536)) ∈ uT := uT_in3 tb_6 89 rfl rfl
set_option maxRecDepth 20000 in
theorem kw_1428 : Cond.methodLink RL 223 yX11_brokeOn ∈ uT := uT_in3 tb_6 90 rfl rfl
set_option maxRecDepth 20000 in
theorem kw_1429 : Cond.instanceMethod yX11_brokeOn ∈ uT := uT_in3 tb_6 91 rfl rfl
set_option maxRecDepth 20000 in
theorem kw_1430 : Cond.selects RX11 yX11_brokeOn yX11_brokeOn ∈ uT := uT_in3 tb_6 92 rfl rfl
set_option maxRecDepth 20000 in
theorem kw_1431 : Cond.code yX11_brokeOn cX11_brokeOn 2 (some FieldType.int) ∈ uT := uT_in3 tb_6 93 rfl rfl
set_option maxRecDepth 20000 in
theorem kw_1432 : Cond.methodLink RL 227 yX11_odds ∈ uT := uT_in3 tb_6 94 rfl rfl
set_option maxRecDepth 20000 in
theorem kw_1433 : Cond.instanceMethod yX11_odds ∈ uT := uT_in3 tb_6 95 rfl rfl
set_option maxRecDepth 20000 in
theorem kw_1434 : Cond.selects RX11 yX11_odds yX11_odds ∈ uT := uT_in3 tb_6 96 rfl rfl
set_option maxRecDepth 20000 in
theorem kw_1435 : Cond.code yX11_odds cX11_odds 8 (some FieldType.boolean) ∈ uT := uT_in3 tb_6 97 rfl rfl
set_option maxRecDepth 20000 in
theorem kw_1436 : Cond.constantLong RX11 416 (Int64.ofInt (20)) ∈ uT := uT_in3 tb_6 98 rfl rfl
set_option maxRecDepth 20000 in
theorem kw_1437 : Cond.methodLink RX11 418 yX11_tellFraction ∈ uT := uT_in3 tb_6 99 rfl rfl
set_option maxRecDepth 20000 in
theorem kw_1439 : Cond.instanceMethod yX11_tellFraction ∈ uT := uT_in3 tb_6 101 rfl rfl
set_option maxRecDepth 20000 in
theorem kw_1440 : Cond.code yX11_tellFraction cX11_tellFraction 12 (none : Option FieldType) ∈ uT := uT_in3 tb_6 102 rfl rfl
set_option maxRecDepth 20000 in
theorem kw_1441 : Cond.methodLink RL 232 yX11_safe ∈ uT := uT_in3 tb_6 103 rfl rfl
set_option maxRecDepth 20000 in
theorem kw_1442 : Cond.instanceMethod yX11_safe ∈ uT := uT_in3 tb_6 104 rfl rfl
set_option maxRecDepth 20000 in
theorem kw_1443 : Cond.selects RX11 yX11_safe yX11_safe ∈ uT := uT_in3 tb_6 105 rfl rfl
set_option maxRecDepth 20000 in
theorem kw_1444 : Cond.code yX11_safe cX11_safe 10 (some FieldType.boolean) ∈ uT := uT_in3 tb_6 106 rfl rfl
set_option maxRecDepth 20000 in
theorem kw_1445 : Cond.constantLong RX11 422 (Int64.ofInt (5)) ∈ uT := uT_in3 tb_6 107 rfl rfl
set_option maxRecDepth 20000 in
theorem kw_1446 : Cond.constantLong RX11 427 (Int64.ofInt (16)) ∈ uT := uT_in3 tb_6 108 rfl rfl
set_option maxRecDepth 20000 in
theorem kw_1447 : Cond.methodLink RL 236 yX11_third ∈ uT := uT_in3 tb_6 109 rfl rfl
set_option maxRecDepth 20000 in
theorem kw_1448 : Cond.instanceMethod yX11_third ∈ uT := uT_in3 tb_6 110 rfl rfl
set_option maxRecDepth 20000 in
theorem kw_1449 : Cond.selects RX11 yX11_third yX11_third ∈ uT := uT_in3 tb_6 111 rfl rfl
set_option maxRecDepth 20000 in
theorem kw_1450 : Cond.code yX11_third cX11_third 7 (some FieldType.boolean) ∈ uT := uT_in3 tb_6 112 rfl rfl
set_option maxRecDepth 20000 in
theorem kw_1451 : Cond.methodLink RX11 429 yX11_threeReason ∈ uT := uT_in3 tb_6 113 rfl rfl
set_option maxRecDepth 20000 in
theorem kw_1453 : Cond.instanceMethod yX11_threeReason ∈ uT := uT_in3 tb_6 115 rfl rfl
set_option maxRecDepth 20000 in
theorem kw_1454 : Cond.code yX11_threeReason cX11_threeReason 6 (some FieldType.int) ∈ uT := uT_in3 tb_6 116 rfl rfl
set_option maxRecDepth 20000 in
theorem kw_1455 : Cond.methodLink RX11 432 yX11_thirdOf ∈ uT := uT_in3 tb_6 117 rfl rfl
set_option maxRecDepth 20000 in
theorem kw_1456 : Cond.static yX11_thirdOf ∈ uT := uT_in3 tb_6 118 rfl rfl
set_option maxRecDepth 20000 in
theorem kw_1457 : Cond.code yX11_thirdOf cX11_thirdOf 4 (some FieldType.long) ∈ uT := uT_in3 tb_6 119 rfl rfl
set_option maxRecDepth 20000 in
theorem kw_1458 : Cond.constantLong RX11 500 (Int64.ofInt (2)) ∈ uT := uT_in3 tb_6 120 rfl rfl
set_option maxRecDepth 20000 in
theorem kw_1459 : Cond.methodLink RL 240 yX11_second ∈ uT := uT_in3 tb_6 121 rfl rfl
set_option maxRecDepth 20000 in
theorem kw_1460 : Cond.instanceMethod yX11_second ∈ uT := uT_in3 tb_6 122 rfl rfl
set_option maxRecDepth 20000 in
theorem kw_1461 : Cond.selects RX11 yX11_second yX11_second ∈ uT := uT_in3 tb_6 123 rfl rfl
set_option maxRecDepth 20000 in
theorem kw_1462 : Cond.code yX11_second cX11_second 7 (some FieldType.boolean) ∈ uT := uT_in3 tb_6 124 rfl rfl
set_option maxRecDepth 20000 in
theorem kw_1463 : Cond.methodLink RX11 436 yX11_secondOf ∈ uT := uT_in3 tb_6 125 rfl rfl
set_option maxRecDepth 20000 in
theorem kw_1464 : Cond.static yX11_secondOf ∈ uT := uT_in3 tb_6 126 rfl rfl
set_option maxRecDepth 20000 in
theorem kw_1465 : Cond.code yX11_secondOf cX11_secondOf 4 (some FieldType.long) ∈ uT := uT_in3 tb_6 127 rfl rfl
set_option maxRecDepth 20000 in
theorem kw_1466 : Cond.methodLink RL 244 yX11_anyTwo ∈ uT := uT_in3 tb_6 128 rfl rfl
set_option maxRecDepth 20000 in
theorem kw_1467 : Cond.instanceMethod yX11_anyTwo ∈ uT := uT_in3 tb_6 129 rfl rfl
set_option maxRecDepth 20000 in
theorem kw_1468 : Cond.selects RX11 yX11_anyTwo yX11_anyTwo ∈ uT := uT_in3 tb_6 130 rfl rfl
set_option maxRecDepth 20000 in
theorem kw_1469 : Cond.code yX11_anyTwo cX11_anyTwo 4 (some FieldType.int) ∈ uT := uT_in3 tb_6 131 rfl rfl
set_option maxRecDepth 20000 in
theorem kw_1470 : Cond.methodLink RX11 439 yX11_isThird ∈ uT := uT_in3 tb_6 132 rfl rfl
set_option maxRecDepth 20000 in
theorem kw_1471 : Cond.static yX11_isThird ∈ uT := uT_in3 tb_6 133 rfl rfl
set_option maxRecDepth 20000 in
theorem kw_1472 : Cond.code yX11_isThird cX11_isThird 5 (some FieldType.boolean) ∈ uT := uT_in3 tb_6 134 rfl rfl
set_option maxRecDepth 20000 in
theorem kw_1473 : Cond.methodLink RL 248 yX11_mark ∈ uT := uT_in3 tb_6 135 rfl rfl
set_option maxRecDepth 20000 in
theorem kw_1474 : Cond.instanceMethod yX11_mark ∈ uT := uT_in3 tb_6 136 rfl rfl
set_option maxRecDepth 20000 in
theorem kw_1475 : Cond.selects RX11 yX11_mark yX11_mark ∈ uT := uT_in3 tb_6 137 rfl rfl
set_option maxRecDepth 20000 in
theorem kw_1476 : Cond.code yX11_mark cX11_mark 2 (some FieldType.int) ∈ uT := uT_in3 tb_6 138 rfl rfl
set_option maxRecDepth 20000 in
theorem kw_1477 : Cond.methodLink RL 252 yX11_back ∈ uT := uT_in3 tb_6 139 rfl rfl
set_option maxRecDepth 20000 in
theorem kw_1478 : Cond.instanceMethod yX11_back ∈ uT := uT_in3 tb_6 140 rfl rfl
set_option maxRecDepth 20000 in
theorem kw_1479 : Cond.selects RX11 yX11_back yX11_back ∈ uT := uT_in3 tb_6 141 rfl rfl
set_option maxRecDepth 20000 in
theorem kw_1480 : Cond.code yX11_back cX11_back 2 (some FieldType.int) ∈ uT := uT_in3 tb_6 142 rfl rfl
set_option maxRecDepth 20000 in
theorem kw_1481 : Cond.classLink RL 10 RX12 ∈ uT := uT_in3 tb_6 143 rfl rfl
set_option maxRecDepth 20000 in
theorem kw_1482 : Cond.instantiable RX12 48 ∈ uT := uT_in3 tb_6 144 rfl rfl
set_option maxRecDepth 20000 in
theorem kw_1483 : Cond.methodLink RL 12 yX12_init ∈ uT := uT_in3 tb_6 145 rfl rfl
set_option maxRecDepth 20000 in
theorem kw_1484 : Cond.instanceMethod yX12_init ∈ uT := uT_in3 tb_6 146 rfl rfl
set_option maxRecDepth 20000 in
theorem kw_1485 : Cond.code yX12_init cX12_init 2 (none : Option FieldType) ∈ uT := uT_in3 tb_6 147 rfl rfl
set_option maxRecDepth 20000 in
theorem kw_1486 : Cond.methodLink RX12 1 Lib.objectInit ∈ uT := uT_in3 tb_6 148 rfl rfl
set_option maxRecDepth 20000 in
theorem kw_1487 : Cond.fieldLink RX12 92 RX12 "status" "I" ∈ uT := uT_in3 tb_6 149 rfl rfl
set_option maxRecDepth 20000 in
theorem kw_1488 : Cond.fieldLink RX12 89 RX12 "thrown" "I" ∈ uT := uT_in3 tb_6 150 rfl rfl
set_option maxRecDepth 20000 in
theorem kw_1489 : Cond.fieldLink RX12 95 RX12 "above" "J" ∈ uT := uT_in3 tb_6 151 rfl rfl
set_option maxRecDepth 20000 in
theorem kw_1490 : Cond.fieldLink RX12 7 RX12 "under" "J" ∈ uT := uT_in3 tb_6 152 rfl rfl
set_option maxRecDepth 20000 in
theorem kw_1491 : Cond.fieldLink RX12 13 RX12 "traySort" "[I" ∈ uT := uT_in3 tb_6 153 rfl rfl
set_option maxRecDepth 20000 in
theorem kw_1492 : Cond.fieldLink RX12 17 RX12 "trayMany" "[I" ∈ uT := uT_in3 tb_6 154 rfl rfl
set_option maxRecDepth 20000 in
theorem kw_1493 : Cond.fieldLink RX12 20 RX12 "numbers" "[J" ∈ uT := uT_in3 tb_6 155 rfl rfl
set_option maxRecDepth 20000 in
theorem kw_1494 : Cond.fieldLink RX12 24 RX12 "tape" "[B" ∈ uT := uT_in3 tb_6 156 rfl rfl
set_option maxRecDepth 20000 in
theorem kw_1495 : Cond.fieldLink RX12 253 RX12 "taped" "I" ∈ uT := uT_in3 tb_6 157 rfl rfl
set_option maxRecDepth 20000 in
theorem kw_1496 : Cond.fieldLink RX12 128 RX12 "textEnd" "I" ∈ uT := uT_in3 tb_6 158 rfl rfl
set_option maxRecDepth 20000 in
theorem kw_1497 : Cond.fieldLink RX12 28 RX12 "faultKind" "I" ∈ uT := uT_in3 tb_6 159 rfl rfl
set_option maxRecDepth 20000 in
theorem kw_1498 : Cond.fieldLink RX12 32 RX12 "faultAt" "I" ∈ uT := uT_in3 tb_6 160 rfl rfl
set_option maxRecDepth 20000 in
theorem kw_1499 : Cond.fieldLink RX12 237 RX12 "bad" "I" ∈ uT := uT_in3 tb_6 161 rfl rfl
set_option maxRecDepth 20000 in
theorem kw_1500 : Cond.fieldLink RX12 240 RX12 "badAt" "I" ∈ uT := uT_in3 tb_6 162 rfl rfl
set_option maxRecDepth 20000 in
theorem kw_1501 : Cond.fieldLink RX12 140 RX12 "token" "I" ∈ uT := uT_in3 tb_6 163 rfl rfl
set_option maxRecDepth 20000 in
theorem kw_1502 : Cond.fieldLink RX12 134 RX12 "at" "I" ∈ uT := uT_in3 tb_6 164 rfl rfl
set_option maxRecDepth 20000 in
theorem kw_1503 : Cond.fieldLink RX12 131 RX12 "behind" "I" ∈ uT := uT_in3 tb_6 165 rfl rfl
set_option maxRecDepth 20000 in
theorem kw_1504 : Cond.fieldLink RX12 159 RX12 "number" "I" ∈ uT := uT_in3 tb_6 166 rfl rfl
set_option maxRecDepth 20000 in
theorem kw_1505 : Cond.fieldLink RX12 153 RX12 "letters" "I" ∈ uT := uT_in3 tb_6 167 rfl rfl
set_option maxRecDepth 20000 in
theorem kw_1506 : Cond.fieldLink RX12 146 RX12 "word" "J" ∈ uT := uT_in3 tb_6 168 rfl rfl
set_option maxRecDepth 20000 in
theorem kw_1507 : Cond.fieldLink RX12 35 RX12 "c" "[I" ∈ uT := uT_in3 tb_6 169 rfl rfl
set_option maxRecDepth 20000 in
theorem kw_1508 : Cond.fieldLink RX12 38 RX12 "words" "[J" ∈ uT := uT_in3 tb_6 170 rfl rfl
set_option maxRecDepth 20000 in
theorem kw_1509 : Cond.fieldLink RX12 505 RX12 "markMany" "I" ∈ uT := uT_in3 tb_6 171 rfl rfl
set_option maxRecDepth 20000 in
theorem kw_1510 : Cond.fieldLink RX12 41 RX12 "rowA" "[I" ∈ uT := uT_in3 tb_6 172 rfl rfl
set_option maxRecDepth 20000 in
theorem kw_1511 : Cond.fieldLink RX12 44 RX12 "rowB" "[I" ∈ uT := uT_in3 tb_6 173 rfl rfl
set_option maxRecDepth 20000 in
theorem kw_1512 : Cond.fieldLink RX12 47 RX12 "rowC" "[I" ∈ uT := uT_in3 tb_6 174 rfl rfl
set_option maxRecDepth 20000 in
theorem kw_1513 : Cond.fieldLink RX12 305 RX12 "rulesRead" "I" ∈ uT := uT_in3 tb_6 175 rfl rfl
set_option maxRecDepth 20000 in
theorem kw_1514 : Cond.fieldLink RX12 50 RX12 "dist" "[I" ∈ uT := uT_in3 tb_6 176 rfl rfl
set_option maxRecDepth 20000 in
theorem kw_1515 : Cond.fieldLink RX12 53 RX12 "chained" "[I" ∈ uT := uT_in3 tb_6 177 rfl rfl
set_option maxRecDepth 20000 in
theorem kw_1516 : Cond.fieldLink RX12 56 RX12 "chainBest" "[I" ∈ uT := uT_in3 tb_6 178 rfl rfl
set_option maxRecDepth 20000 in
theorem kw_1517 : Cond.fieldLink RX12 59 RX12 "chainTold" "[I" ∈ uT := uT_in3 tb_6 179 rfl rfl
set_option maxRecDepth 20000 in
theorem kw_1518 : Cond.fieldLink RX12 418 RX12 "chainMany" "I" ∈ uT := uT_in3 tb_6 180 rfl rfl
set_option maxRecDepth 20000 in
theorem kw_1519 : Cond.fieldLink RX12 426 RX12 "chainToldMany" "I" ∈ uT := uT_in3 tb_6 181 rfl rfl
set_option maxRecDepth 20000 in
theorem kw_1520 : Cond.fieldLink RX12 62 RX12 "mergeJars" "[I" ∈ uT := uT_in3 tb_6 182 rfl rfl
set_option maxRecDepth 20000 in
theorem kw_1521 : Cond.fieldLink RX12 65 RX12 "mergeTold" "[I" ∈ uT := uT_in3 tb_6 183 rfl rfl
set_option maxRecDepth 20000 in
theorem kw_1522 : Cond.fieldLink RX12 68 RX12 "mergeBest" "[I" ∈ uT := uT_in3 tb_6 184 rfl rfl
set_option maxRecDepth 20000 in
theorem kw_1523 : Cond.fieldLink RX12 438 RX12 "mergeMany" "I" ∈ uT := uT_in3 tb_6 185 rfl rfl
set_option maxRecDepth 20000 in
theorem kw_1524 : Cond.fieldLink RX12 435 RX12 "mergeLength" "I" ∈ uT := uT_in3 tb_6 186 rfl rfl
set_option maxRecDepth 20000 in
theorem kw_1525 : Cond.fieldLink RX12 450 RX12 "mergeToldLength" "I" ∈ uT := uT_in3 tb_6 187 rfl rfl
set_option maxRecDepth 20000 in
theorem kw_1526 : Cond.fieldLink RX12 71 RX12 "rest" "[I" ∈ uT := uT_in3 tb_6 188 rfl rfl
set_option maxRecDepth 20000 in
theorem kw_1527 : Cond.fieldLink RX12 74 RX12 "shelfTold" "[I" ∈ uT := uT_in3 tb_6 189 rfl rfl
set_option maxRecDepth 20000 in
theorem kw_1528 : Cond.fieldLink RX12 465 RX12 "shelfMany" "I" ∈ uT := uT_in3 tb_6 190 rfl rfl
set_option maxRecDepth 20000 in
theorem kw_1529 : Cond.fieldLink RX12 77 RX12 "pieces" "[I" ∈ uT := uT_in3 tb_6 191 rfl rfl
set_option maxRecDepth 20000 in
theorem kw_1530 : Cond.fieldLink RX12 80 RX12 "joins" "[I" ∈ uT := uT_in3 tb_6 192 rfl rfl
set_option maxRecDepth 20000 in
theorem kw_1531 : Cond.fieldLink RX12 475 RX12 "random" "I" ∈ uT := uT_in3 tb_6 193 rfl rfl
set_option maxRecDepth 20000 in
theorem kw_1532 : Cond.fieldLink RX12 302 RX12 "roadMany" "I" ∈ uT := uT_in3 tb_6 194 rfl rfl
set_option maxRecDepth 20000 in
theorem kw_1533 : Cond.fieldLink RX12 83 RX12 "broke" "[I" ∈ uT := uT_in3 tb_6 195 rfl rfl
set_option maxRecDepth 20000 in
theorem kw_1534 : Cond.fieldLink RX12 86 RX12 "roadTold" "[I" ∈ uT := uT_in3 tb_6 196 rfl rfl
set_option maxRecDepth 20000 in
theorem kw_1632 : Cond.methodLink RL 17 yX12_status ∈ uT := uT_in3 tb_7 54 rfl rfl
set_option maxRecDepth 20000 in
theorem kw_1633 : Cond.instanceMethod yX12_status ∈ uT := uT_in3 tb_7 55 rfl rfl
set_option maxRecDepth 20000 in
theorem kw_1634 : Cond.selects RX12 yX12_status yX12_status ∈ uT := uT_in3 tb_7 56 rfl rfl
set_option maxRecDepth 20000 in
theorem kw_1635 : Cond.code yX12_status cX12_status 1 (some FieldType.int) ∈ uT := uT_in3 tb_7 57 rfl rfl
set_option maxRecDepth 20000 in
theorem kw_1636 : Cond.methodLink RL 22 yX12_top ∈ uT := uT_in3 tb_7 58 rfl rfl
set_option maxRecDepth 20000 in
theorem kw_1637 : Cond.instanceMethod yX12_top ∈ uT := uT_in3 tb_7 59 rfl rfl
set_option maxRecDepth 20000 in
theorem kw_1638 : Cond.selects RX12 yX12_top yX12_top ∈ uT := uT_in3 tb_7 60 rfl rfl
set_option maxRecDepth 20000 in
theorem kw_1639 : Cond.code yX12_top cX12_top 1 (some FieldType.long) ∈ uT := uT_in3 tb_7 61 rfl rfl
set_option maxRecDepth 20000 in
theorem kw_1640 : Cond.methodLink RL 26 yX12_bottom ∈ uT := uT_in3 tb_7 62 rfl rfl
set_option maxRecDepth 20000 in
theorem kw_1641 : Cond.instanceMethod yX12_bottom ∈ uT := uT_in3 tb_7 63 rfl rfl
set_option maxRecDepth 20000 in
theorem kw_1642 : Cond.selects RX12 yX12_bottom yX12_bottom ∈ uT := uT_in3 tb_7 64 rfl rfl
set_option maxRecDepth 20000 in
theorem kw_1643 : Cond.code yX12_bottom cX12_bottom 1 (some FieldType.long) ∈ uT := uT_in3 tb_7 65 rfl rfl
set_option maxRecDepth 20000 in
theorem kw_1644 : Cond.methodLink RL 31 yX12_tray ∈ uT := uT_in3 tb_7 66 rfl rfl
set_option maxRecDepth 20000 in
theorem kw_1645 : Cond.instanceMethod yX12_tray ∈ uT := uT_in3 tb_7 67 rfl rfl
set_option maxRecDepth 20000 in
theorem kw_1646 : Cond.selects RX12 yX12_tray yX12_tray ∈ uT := uT_in3 tb_7 68 rfl rfl
set_option maxRecDepth 20000 in
theorem kw_1647 : Cond.code yX12_tray cX12_tray 5 (some FieldType.boolean) ∈ uT := uT_in3 tb_7 69 rfl rfl
set_option maxRecDepth 20000 in
theorem kw_1648 : Cond.methodLink RX12 104 yX12_no ∈ uT := uT_in3 tb_7 70 rfl rfl
set_option maxRecDepth 20000 in
theorem kw_1650 : Cond.instanceMethod yX12_no ∈ uT := uT_in3 tb_7 72 rfl rfl
set_option maxRecDepth 20000 in
theorem kw_1651 : Cond.code yX12_no cX12_no 2 (some FieldType.boolean) ∈ uT := uT_in3 tb_7 73 rfl rfl
set_option maxRecDepth 20000 in
theorem kw_1652 : Cond.methodLink RL 38 yX12_write ∈ uT := uT_in3 tb_7 74 rfl rfl
set_option maxRecDepth 20000 in
theorem kw_1653 : Cond.instanceMethod yX12_write ∈ uT := uT_in3 tb_7 75 rfl rfl
set_option maxRecDepth 20000 in
theorem kw_1654 : Cond.selects RX12 yX12_write yX12_write ∈ uT := uT_in3 tb_7 76 rfl rfl
set_option maxRecDepth 20000 in
theorem kw_1655 : Cond.code yX12_write cX12_write 5 (some FieldType.boolean) ∈ uT := uT_in3 tb_7 77 rfl rfl
set_option maxRecDepth 20000 in
theorem kw_1656 : Cond.methodLink RX12 112 yX12_placed ∈ uT := uT_in3 tb_7 78 rfl rfl
set_option maxRecDepth 20000 in
theorem kw_1658 : Cond.instanceMethod yX12_placed ∈ uT := uT_in3 tb_7 80 rfl rfl
set_option maxRecDepth 20000 in
theorem kw_1659 : Cond.code yX12_placed cX12_placed 4 (some FieldType.int) ∈ uT := uT_in3 tb_7 81 rfl rfl
set_option maxRecDepth 20000 in
theorem kw_1660 : Cond.methodLink RX12 108 yX12_trayed ∈ uT := uT_in3 tb_7 82 rfl rfl
set_option maxRecDepth 20000 in
theorem kw_1662 : Cond.instanceMethod yX12_trayed ∈ uT := uT_in3 tb_7 84 rfl rfl
set_option maxRecDepth 20000 in
theorem kw_1663 : Cond.code yX12_trayed cX12_trayed 2 (some FieldType.int) ∈ uT := uT_in3 tb_7 85 rfl rfl
set_option maxRecDepth 20000 in
theorem kw_1664 : Cond.methodLink RX12 116 yX12_cut ∈ uT := uT_in3 tb_7 86 rfl rfl
set_option maxRecDepth 20000 in
theorem kw_1665 : Cond.static yX12_cut ∈ uT := uT_in3 tb_7 87 rfl rfl
set_option maxRecDepth 20000 in
theorem kw_1666 : Cond.code yX12_cut cX12_cut 3 (some FieldType.long) ∈ uT := uT_in3 tb_7 88 rfl rfl
set_option maxRecDepth 20000 in
theorem kw_1667 : Cond.methodLink RL 43 yX12_read ∈ uT := uT_in3 tb_7 89 rfl rfl
set_option maxRecDepth 20000 in
theorem kw_1668 : Cond.instanceMethod yX12_read ∈ uT := uT_in3 tb_7 90 rfl rfl
set_option maxRecDepth 20000 in
theorem kw_1669 : Cond.selects RX12 yX12_read yX12_read ∈ uT := uT_in3 tb_7 91 rfl rfl
set_option maxRecDepth 20000 in
theorem kw_1670 : Cond.code yX12_read cX12_read 3 (some FieldType.long) ∈ uT := uT_in3 tb_7 92 rfl rfl
set_option maxRecDepth 20000 in
theorem kw_1671 : Cond.constantLong RX12 120 (Int64.ofInt (-1)) ∈ uT := uT_in3 tb_7 93 rfl rfl
set_option maxRecDepth 20000 in
theorem kw_1672 : Cond.methodLink RL 48 yX12_pour ∈ uT := uT_in3 tb_7 94 rfl rfl
set_option maxRecDepth 20000 in
theorem kw_1673 : Cond.instanceMethod yX12_pour ∈ uT := uT_in3 tb_7 95 rfl rfl
set_option maxRecDepth 20000 in
theorem kw_1674 : Cond.selects RX12 yX12_pour yX12_pour ∈ uT := uT_in3 tb_7 96 rfl rfl
set_option maxRecDepth 20000 in
theorem kw_1675 : Cond.code yX12_pour cX12_pour 9 (some FieldType.boolean) ∈ uT := uT_in3 tb_7 97 rfl rfl
set_option maxRecDepth 20000 in
theorem kw_1676 : Cond.methodLink RL 53 yX12_feed ∈ uT := uT_in3 tb_7 98 rfl rfl
set_option maxRecDepth 20000 in
theorem kw_1677 : Cond.instanceMethod yX12_feed ∈ uT := uT_in3 tb_7 99 rfl rfl
set_option maxRecDepth 20000 in
theorem kw_1678 : Cond.selects RX12 yX12_feed yX12_feed ∈ uT := uT_in3 tb_7 100 rfl rfl
set_option maxRecDepth 20000 in
theorem kw_1679 : Cond.code yX12_feed cX12_feed 6 (some FieldType.int) ∈ uT := uT_in3 tb_7 101 rfl rfl
set_option maxRecDepth 20000 in
theorem kw_1680 : Cond.methodLink RX12 256 yX12_lay ∈ uT := uT_in3 tb_7 102 rfl rfl
set_option maxRecDepth 20000 in
theorem kw_1682 : Cond.instanceMethod yX12_lay ∈ uT := uT_in3 tb_7 104 rfl rfl
set_option maxRecDepth 20000 in
theorem kw_1683 : Cond.code yX12_lay cX12_lay 3 (none : Option FieldType) ∈ uT := uT_in3 tb_7 105 rfl rfl
set_option maxRecDepth 20000 in
theorem kw_1684 : Cond.methodLink RL 66 yX12_fault ∈ uT := uT_in3 tb_7 106 rfl rfl
set_option maxRecDepth 20000 in
theorem kw_1685 : Cond.instanceMethod yX12_fault ∈ uT := uT_in3 tb_7 107 rfl rfl
set_option maxRecDepth 20000 in
theorem kw_1686 : Cond.selects RX12 yX12_fault yX12_fault ∈ uT := uT_in3 tb_7 108 rfl rfl
set_option maxRecDepth 20000 in
theorem kw_1687 : Cond.code yX12_fault cX12_fault 2 (some FieldType.int) ∈ uT := uT_in3 tb_7 109 rfl rfl
set_option maxRecDepth 20000 in
theorem kw_1688 : Cond.methodLink RL 58 yX12_shop ∈ uT := uT_in3 tb_7 110 rfl rfl
set_option maxRecDepth 20000 in
theorem kw_1689 : Cond.instanceMethod yX12_shop ∈ uT := uT_in3 tb_7 111 rfl rfl
set_option maxRecDepth 20000 in
theorem kw_1690 : Cond.selects RX12 yX12_shop yX12_shop ∈ uT := uT_in3 tb_7 112 rfl rfl
set_option maxRecDepth 20000 in
theorem kw_1691 : Cond.code yX12_shop cX12_shop 3 (some FieldType.int) ∈ uT := uT_in3 tb_7 113 rfl rfl
set_option maxRecDepth 20000 in
theorem kw_1692 : Cond.methodLink RX12 286 yX12_opens ∈ uT := uT_in3 tb_7 114 rfl rfl
set_option maxRecDepth 20000 in
theorem kw_1694 : Cond.instanceMethod yX12_opens ∈ uT := uT_in3 tb_7 116 rfl rfl
set_option maxRecDepth 20000 in
theorem kw_1695 : Cond.code yX12_opens cX12_opens 3 (some FieldType.boolean) ∈ uT := uT_in3 tb_7 117 rfl rfl
set_option maxRecDepth 20000 in
theorem kw_1696 : Cond.methodLink RX12 247 yX12_next ∈ uT := uT_in3 tb_7 118 rfl rfl
set_option maxRecDepth 20000 in
theorem kw_1698 : Cond.instanceMethod yX12_next ∈ uT := uT_in3 tb_7 120 rfl rfl
set_option maxRecDepth 20000 in
theorem kw_1699 : Cond.code yX12_next cX12_next 2 (none : Option FieldType) ∈ uT := uT_in3 tb_7 121 rfl rfl
set_option maxRecDepth 20000 in
theorem kw_1700 : Cond.methodLink RX12 137 yX12_look2 ∈ uT := uT_in3 tb_7 122 rfl rfl
set_option maxRecDepth 20000 in
theorem kw_1702 : Cond.instanceMethod yX12_look2 ∈ uT := uT_in3 tb_7 124 rfl rfl
set_option maxRecDepth 20000 in
theorem kw_1703 : Cond.code yX12_look2 cX12_look2 2 (some FieldType.int) ∈ uT := uT_in3 tb_7 125 rfl rfl
set_option maxRecDepth 20000 in
theorem kw_1704 : Cond.methodLink RX12 143 yX12_isLetter ∈ uT := uT_in3 tb_7 126 rfl rfl
set_option maxRecDepth 20000 in
theorem kw_1705 : Cond.static yX12_isLetter ∈ uT := uT_in3 tb_7 127 rfl rfl
set_option maxRecDepth 20000 in
theorem kw_1706 : Cond.code yX12_isLetter cX12_isLetter 1 (some FieldType.boolean) ∈ uT := uT_in3 tb_7 128 rfl rfl
set_option maxRecDepth 20000 in
theorem kw_1707 : Cond.constantLong RX12 149 (Int64.ofInt (32)) ∈ uT := uT_in3 tb_7 129 rfl rfl
set_option maxRecDepth 20000 in
theorem kw_1708 : Cond.constantLong RX12 151 (Int64.ofInt (96)) ∈ uT := uT_in3 tb_7 130 rfl rfl
set_option maxRecDepth 20000 in
theorem kw_1709 : Cond.methodLink RX12 156 yX12_isDigit ∈ uT := uT_in3 tb_7 131 rfl rfl
set_option maxRecDepth 20000 in
theorem kw_1710 : Cond.static yX12_isDigit ∈ uT := uT_in3 tb_7 132 rfl rfl
set_option maxRecDepth 20000 in
theorem kw_1711 : Cond.code yX12_isDigit cX12_isDigit 1 (some FieldType.boolean) ∈ uT := uT_in3 tb_7 133 rfl rfl
set_option maxRecDepth 20000 in
theorem kw_1712 : Cond.methodLink RX12 170 yX12_isSound ∈ uT := uT_in3 tb_7 134 rfl rfl
set_option maxRecDepth 20000 in
theorem kw_1714 : Cond.instanceMethod yX12_isSound ∈ uT := uT_in3 tb_7 136 rfl rfl
set_option maxRecDepth 20000 in
theorem kw_1715 : Cond.code yX12_isSound cX12_isSound 1 (some FieldType.boolean) ∈ uT := uT_in3 tb_7 137 rfl rfl
set_option maxRecDepth 20000 in
theorem kw_1716 : Cond.methodLink RX12 162 yX12_spelled ∈ uT := uT_in3 tb_7 138 rfl rfl
set_option maxRecDepth 20000 in
theorem kw_1717 : Cond.static yX12_spelled ∈ uT := uT_in3 tb_7 139 rfl rfl
set_option maxRecDepth 20000 in
theorem kw_1718 : Cond.code yX12_spelled cX12_spelled 8 (some FieldType.long) ∈ uT := uT_in3 tb_7 140 rfl rfl
set_option maxRecDepth 20000 in
theorem kw_1719 : Cond.methodLink RX12 166 yX12_isWord ∈ uT := uT_in3 tb_7 141 rfl rfl
set_option maxRecDepth 20000 in
theorem kw_1721 : Cond.instanceMethod yX12_isWord ∈ uT := uT_in3 tb_7 143 rfl rfl
set_option maxRecDepth 20000 in
theorem kw_1722 : Cond.code yX12_isWord cX12_isWord 3 (some FieldType.boolean) ∈ uT := uT_in3 tb_7 144 rfl rfl
set_option maxRecDepth 20000 in
theorem kw_1723 : Cond.methodLink RX12 290 yX12_readSound ∈ uT := uT_in3 tb_7 145 rfl rfl
set_option maxRecDepth 20000 in
theorem kw_1725 : Cond.instanceMethod yX12_readSound ∈ uT := uT_in3 tb_7 147 rfl rfl
set_option maxRecDepth 20000 in
theorem kw_1726 : Cond.code yX12_readSound cX12_readSound 3 (none : Option FieldType) ∈ uT := uT_in3 tb_7 148 rfl rfl
set_option maxRecDepth 20000 in
theorem kw_1727 : Cond.methodLink RX12 243 yX12_fail ∈ uT := uT_in3 tb_7 149 rfl rfl
set_option maxRecDepth 20000 in
theorem kw_1729 : Cond.instanceMethod yX12_fail ∈ uT := uT_in3 tb_7 151 rfl rfl
set_option maxRecDepth 20000 in
theorem kw_1730 : Cond.code yX12_fail cX12_fail 3 (none : Option FieldType) ∈ uT := uT_in3 tb_7 152 rfl rfl
set_option maxRecDepth 20000 in
theorem kw_1731 : Cond.methodLink RX12 266 yX12_readNew ∈ uT := uT_in3 tb_7 153 rfl rfl
set_option maxRecDepth 20000 in
theorem kw_1733 : Cond.instanceMethod yX12_readNew ∈ uT := uT_in3 tb_7 155 rfl rfl
set_option maxRecDepth 20000 in
theorem kw_1734 : Cond.code yX12_readNew cX12_readNew 3 (none : Option FieldType) ∈ uT := uT_in3 tb_7 156 rfl rfl
set_option maxRecDepth 20000 in
theorem kw_1735 : Cond.methodLink RX12 260 yX12_isName ∈ uT := uT_in3 tb_7 157 rfl rfl
set_option maxRecDepth 20000 in
theorem kw_1737 : Cond.instanceMethod yX12_isName ∈ uT := uT_in3 tb_7 159 rfl rfl
set_option maxRecDepth 20000 in
theorem kw_1738 : Cond.code yX12_isName cX12_isName 1 (some FieldType.boolean) ∈ uT := uT_in3 tb_7 160 rfl rfl
set_option maxRecDepth 20000 in
theorem kw_1739 : Cond.methodLink RX12 234 yX12_isKept ∈ uT := uT_in3 tb_7 161 rfl rfl
set_option maxRecDepth 20000 in
theorem kw_1741 : Cond.instanceMethod yX12_isKept ∈ uT := uT_in3 tb_7 163 rfl rfl
set_option maxRecDepth 20000 in
theorem kw_1742 : Cond.code yX12_isKept cX12_isKept 1 (some FieldType.boolean) ∈ uT := uT_in3 tb_7 164 rfl rfl
set_option maxRecDepth 20000 in
theorem kw_1743 : Cond.methodLink RX12 174 yX12_isJar ∈ uT := uT_in3 tb_7 165 rfl rfl
set_option maxRecDepth 20000 in
theorem kw_1745 : Cond.instanceMethod yX12_isJar ∈ uT := uT_in3 tb_7 167 rfl rfl
set_option maxRecDepth 20000 in
theorem kw_1746 : Cond.code yX12_isJar cX12_isJar 1 (some FieldType.boolean) ∈ uT := uT_in3 tb_7 168 rfl rfl
set_option maxRecDepth 20000 in
theorem kw_1747 : Cond.methodLink RX12 177 yX12_isSize ∈ uT := uT_in3 tb_7 169 rfl rfl
set_option maxRecDepth 20000 in
theorem kw_1749 : Cond.instanceMethod yX12_isSize ∈ uT := uT_in3 tb_7 171 rfl rfl
set_option maxRecDepth 20000 in
theorem kw_1750 : Cond.code yX12_isSize cX12_isSize 1 (some FieldType.boolean) ∈ uT := uT_in3 tb_7 172 rfl rfl
set_option maxRecDepth 20000 in
theorem kw_1751 : Cond.methodLink RX12 180 yX12_isLeaks ∈ uT := uT_in3 tb_7 173 rfl rfl
set_option maxRecDepth 20000 in
theorem kw_1753 : Cond.instanceMethod yX12_isLeaks ∈ uT := uT_in3 tb_7 175 rfl rfl
set_option maxRecDepth 20000 in
theorem kw_1754 : Cond.code yX12_isLeaks cX12_isLeaks 1 (some FieldType.boolean) ∈ uT := uT_in3 tb_7 176 rfl rfl
set_option maxRecDepth 20000 in
theorem kw_1755 : Cond.methodLink RX12 183 yX12_isHead ∈ uT := uT_in3 tb_7 177 rfl rfl
set_option maxRecDepth 20000 in
theorem kw_1757 : Cond.instanceMethod yX12_isHead ∈ uT := uT_in3 tb_7 179 rfl rfl
set_option maxRecDepth 20000 in
theorem kw_1758 : Cond.code yX12_isHead cX12_isHead 1 (some FieldType.boolean) ∈ uT := uT_in3 tb_7 180 rfl rfl
set_option maxRecDepth 20000 in
theorem kw_1759 : Cond.methodLink RX12 186 yX12_isTail ∈ uT := uT_in3 tb_7 181 rfl rfl
set_option maxRecDepth 20000 in
theorem kw_1761 : Cond.instanceMethod yX12_isTail ∈ uT := uT_in3 tb_7 183 rfl rfl
set_option maxRecDepth 20000 in
theorem kw_1762 : Cond.code yX12_isTail cX12_isTail 1 (some FieldType.boolean) ∈ uT := uT_in3 tb_7 184 rfl rfl
set_option maxRecDepth 20000 in
theorem kw_1763 : Cond.methodLink RX12 189 yX12_isCosts ∈ uT := uT_in3 tb_7 185 rfl rfl
set_option maxRecDepth 20000 in
theorem kw_1765 : Cond.instanceMethod yX12_isCosts ∈ uT := uT_in3 tb_7 187 rfl rfl
set_option maxRecDepth 20000 in
theorem kw_1766 : Cond.code yX12_isCosts cX12_isCosts 1 (some FieldType.boolean) ∈ uT := uT_in3 tb_7 188 rfl rfl
set_option maxRecDepth 20000 in
theorem kw_1767 : Cond.methodLink RX12 192 yX12_isWorth ∈ uT := uT_in3 tb_7 189 rfl rfl
set_option maxRecDepth 20000 in
theorem kw_1769 : Cond.instanceMethod yX12_isWorth ∈ uT := uT_in3 tb_7 191 rfl rfl
set_option maxRecDepth 20000 in
theorem kw_1770 : Cond.code yX12_isWorth cX12_isWorth 1 (some FieldType.boolean) ∈ uT := uT_in3 tb_7 192 rfl rfl
set_option maxRecDepth 20000 in
theorem kw_1771 : Cond.methodLink RX12 195 yX12_isBreaks ∈ uT := uT_in3 tb_7 193 rfl rfl
set_option maxRecDepth 20000 in
theorem kw_1773 : Cond.instanceMethod yX12_isBreaks ∈ uT := uT_in3 tb_7 195 rfl rfl
set_option maxRecDepth 20000 in
theorem kw_1774 : Cond.code yX12_isBreaks cX12_isBreaks 1 (some FieldType.boolean) ∈ uT := uT_in3 tb_7 196 rfl rfl
set_option maxRecDepth 20000 in
theorem kw_1775 : Cond.methodLink RX12 198 yX12_isFill ∈ uT := uT_in3 tb_7 197 rfl rfl
set_option maxRecDepth 20000 in
theorem kw_1777 : Cond.instanceMethod yX12_isFill ∈ uT := uT_in3 tb_7 199 rfl rfl
set_option maxRecDepth 20000 in
theorem kw_1778 : Cond.code yX12_isFill cX12_isFill 1 (some FieldType.boolean) ∈ uT := uT_in3 tb_7 200 rfl rfl
set_option maxRecDepth 20000 in
theorem kw_1779 : Cond.methodLink RX12 201 yX12_isOf ∈ uT := uT_in3 tb_7 201 rfl rfl
set_option maxRecDepth 20000 in
theorem kw_1781 : Cond.instanceMethod yX12_isOf ∈ uT := uT_in3 tb_7 203 rfl rfl
set_option maxRecDepth 20000 in
theorem kw_1782 : Cond.code yX12_isOf cX12_isOf 1 (some FieldType.boolean) ∈ uT := uT_in3 tb_7 204 rfl rfl
set_option maxRecDepth 20000 in
theorem kw_1783 : Cond.methodLink RX12 204 yX12_isFrom ∈ uT := uT_in3 tb_7 205 rfl rfl
set_option maxRecDepth 20000 in
theorem kw_1785 : Cond.instanceMethod yX12_isFrom ∈ uT := uT_in3 tb_7 207 rfl rfl
set_option maxRecDepth 20000 in
theorem kw_1786 : Cond.code yX12_isFrom cX12_isFrom 1 (some FieldType.boolean) ∈ uT := uT_in3 tb_7 208 rfl rfl
set_option maxRecDepth 20000 in
theorem kw_1787 : Cond.methodLink RX12 207 yX12_isOn ∈ uT := uT_in3 tb_7 209 rfl rfl
set_option maxRecDepth 20000 in
theorem kw_1789 : Cond.instanceMethod yX12_isOn ∈ uT := uT_in3 tb_7 211 rfl rfl
set_option maxRecDepth 20000 in
theorem kw_1790 : Cond.code yX12_isOn cX12_isOn 1 (some FieldType.boolean) ∈ uT := uT_in3 tb_7 212 rfl rfl
set_option maxRecDepth 20000 in
theorem kw_1791 : Cond.methodLink RX12 210 yX12_isMix ∈ uT := uT_in3 tb_7 213 rfl rfl
set_option maxRecDepth 20000 in
theorem kw_1793 : Cond.instanceMethod yX12_isMix ∈ uT := uT_in3 tb_7 215 rfl rfl
set_option maxRecDepth 20000 in
theorem kw_1794 : Cond.code yX12_isMix cX12_isMix 1 (some FieldType.boolean) ∈ uT := uT_in3 tb_7 216 rfl rfl
set_option maxRecDepth 20000 in
theorem kw_1795 : Cond.methodLink RX12 213 yX12_isWith ∈ uT := uT_in3 tb_7 217 rfl rfl
set_option maxRecDepth 20000 in
theorem kw_1797 : Cond.instanceMethod yX12_isWith ∈ uT := uT_in3 tb_7 219 rfl rfl
set_option maxRecDepth 20000 in
theorem kw_1798 : Cond.code yX12_isWith cX12_isWith 1 (some FieldType.boolean) ∈ uT := uT_in3 tb_7 220 rfl rfl
set_option maxRecDepth 20000 in
theorem kw_1799 : Cond.methodLink RX12 216 yX12_isGives ∈ uT := uT_in3 tb_7 221 rfl rfl
set_option maxRecDepth 20000 in
theorem kw_1801 : Cond.instanceMethod yX12_isGives ∈ uT := uT_in3 tb_7 223 rfl rfl
set_option maxRecDepth 20000 in
theorem kw_1802 : Cond.code yX12_isGives cX12_isGives 1 (some FieldType.boolean) ∈ uT := uT_in3 tb_7 224 rfl rfl
set_option maxRecDepth 20000 in
theorem kw_1803 : Cond.methodLink RX12 219 yX12_isAny ∈ uT := uT_in3 tb_7 225 rfl rfl
set_option maxRecDepth 20000 in
theorem kw_1805 : Cond.instanceMethod yX12_isAny ∈ uT := uT_in3 tb_7 227 rfl rfl
set_option maxRecDepth 20000 in
theorem kw_1806 : Cond.code yX12_isAny cX12_isAny 1 (some FieldType.boolean) ∈ uT := uT_in3 tb_7 228 rfl rfl
set_option maxRecDepth 20000 in
theorem kw_1807 : Cond.methodLink RX12 222 yX12_isSame ∈ uT := uT_in3 tb_7 229 rfl rfl
set_option maxRecDepth 20000 in
theorem kw_1809 : Cond.instanceMethod yX12_isSame ∈ uT := uT_in3 tb_7 231 rfl rfl
set_option maxRecDepth 20000 in
theorem kw_1810 : Cond.code yX12_isSame cX12_isSame 1 (some FieldType.boolean) ∈ uT := uT_in3 tb_7 232 rfl rfl
set_option maxRecDepth 20000 in
theorem kw_1811 : Cond.methodLink RX12 225 yX12_isRest ∈ uT := uT_in3 tb_7 233 rfl rfl
set_option maxRecDepth 20000 in
theorem kw_1813 : Cond.instanceMethod yX12_isRest ∈ uT := uT_in3 tb_7 235 rfl rfl
set_option maxRecDepth 20000 in
theorem kw_1814 : Cond.code yX12_isRest cX12_isRest 1 (some FieldType.boolean) ∈ uT := uT_in3 tb_7 236 rfl rfl
set_option maxRecDepth 20000 in
theorem kw_1815 : Cond.methodLink RX12 228 yX12_isFirst ∈ uT := uT_in3 tb_7 237 rfl rfl
set_option maxRecDepth 20000 in
theorem kw_1817 : Cond.instanceMethod yX12_isFirst ∈ uT := uT_in3 tb_7 239 rfl rfl
set_option maxRecDepth 20000 in
theorem kw_1818 : Cond.code yX12_isFirst cX12_isFirst 1 (some FieldType.boolean) ∈ uT := uT_in3 tb_8 0 rfl rfl
set_option maxRecDepth 20000 in
theorem kw_1819 : Cond.methodLink RX12 231 yX12_isSecond ∈ uT := uT_in3 tb_8 1 rfl rfl
set_option maxRecDepth 20000 in
theorem kw_1821 : Cond.instanceMethod yX12_isSecond ∈ uT := uT_in3 tb_8 3 rfl rfl
set_option maxRecDepth 20000 in
theorem kw_1822 : Cond.code yX12_isSecond cX12_isSecond 1 (some FieldType.boolean) ∈ uT := uT_in3 tb_8 4 rfl rfl
set_option maxRecDepth 20000 in
theorem kw_1823 : Cond.methodLink RX12 250 yX12_wrong ∈ uT := uT_in3 tb_8 5 rfl rfl
set_option maxRecDepth 20000 in
theorem kw_1825 : Cond.instanceMethod yX12_wrong ∈ uT := uT_in3 tb_8 7 rfl rfl
set_option maxRecDepth 20000 in
theorem kw_1826 : Cond.code yX12_wrong cX12_wrong 1 (none : Option FieldType) ∈ uT := uT_in3 tb_8 8 rfl rfl
set_option maxRecDepth 20000 in
theorem kw_1827 : Cond.methodLink RX12 263 yX12_named ∈ uT := uT_in3 tb_8 9 rfl rfl
set_option maxRecDepth 20000 in
theorem kw_1829 : Cond.instanceMethod yX12_named ∈ uT := uT_in3 tb_8 11 rfl rfl
set_option maxRecDepth 20000 in
theorem kw_1830 : Cond.code yX12_named cX12_named 4 (some FieldType.int) ∈ uT := uT_in3 tb_8 12 rfl rfl
set_option maxRecDepth 20000 in
theorem kw_1831 : Cond.methodLink RX12 293 yX12_readJar ∈ uT := uT_in3 tb_8 13 rfl rfl
set_option maxRecDepth 20000 in
theorem kw_1833 : Cond.instanceMethod yX12_readJar ∈ uT := uT_in3 tb_8 15 rfl rfl
set_option maxRecDepth 20000 in
theorem kw_1834 : Cond.code yX12_readJar cX12_readJar 4 (none : Option FieldType) ∈ uT := uT_in3 tb_8 16 rfl rfl
set_option maxRecDepth 20000 in
theorem kw_1835 : Cond.methodLink RX12 272 yX12_must ∈ uT := uT_in3 tb_8 17 rfl rfl
set_option maxRecDepth 20000 in
theorem kw_1837 : Cond.instanceMethod yX12_must ∈ uT := uT_in3 tb_8 19 rfl rfl
set_option maxRecDepth 20000 in
theorem kw_1838 : Cond.code yX12_must cX12_must 2 (none : Option FieldType) ∈ uT := uT_in3 tb_8 20 rfl rfl
set_option maxRecDepth 20000 in
theorem kw_1839 : Cond.methodLink RX12 269 yX12_count ∈ uT := uT_in3 tb_8 21 rfl rfl
set_option maxRecDepth 20000 in
theorem kw_1841 : Cond.instanceMethod yX12_count ∈ uT := uT_in3 tb_8 23 rfl rfl
set_option maxRecDepth 20000 in
theorem kw_1842 : Cond.code yX12_count cX12_count 4 (some FieldType.int) ∈ uT := uT_in3 tb_8 24 rfl rfl
set_option maxRecDepth 20000 in
theorem kw_1843 : Cond.methodLink RX12 124 yX12_isIn ∈ uT := uT_in3 tb_8 25 rfl rfl
set_option maxRecDepth 20000 in
theorem kw_1844 : Cond.static yX12_isIn ∈ uT := uT_in3 tb_8 26 rfl rfl
set_option maxRecDepth 20000 in
theorem kw_1845 : Cond.code yX12_isIn cX12_isIn 6 (some FieldType.boolean) ∈ uT := uT_in3 tb_8 27 rfl rfl
set_option maxRecDepth 20000 in
theorem kw_1846 : Cond.methodLink RX12 276 yX12_told ∈ uT := uT_in3 tb_8 28 rfl rfl
set_option maxRecDepth 20000 in
theorem kw_1848 : Cond.instanceMethod yX12_told ∈ uT := uT_in3 tb_8 30 rfl rfl
set_option maxRecDepth 20000 in
theorem kw_1849 : Cond.code yX12_told cX12_told 5 (some FieldType.int) ∈ uT := uT_in3 tb_8 31 rfl rfl
set_option maxRecDepth 20000 in
theorem kw_1850 : Cond.methodLink RX12 296 yX12_readFill ∈ uT := uT_in3 tb_8 32 rfl rfl
set_option maxRecDepth 20000 in
theorem kw_1852 : Cond.instanceMethod yX12_readFill ∈ uT := uT_in3 tb_8 34 rfl rfl
set_option maxRecDepth 20000 in
theorem kw_1853 : Cond.code yX12_readFill cX12_readFill 7 (none : Option FieldType) ∈ uT := uT_in3 tb_8 35 rfl rfl
set_option maxRecDepth 20000 in
theorem kw_1854 : Cond.methodLink RX12 280 yX12_readTold ∈ uT := uT_in3 tb_8 36 rfl rfl
set_option maxRecDepth 20000 in
theorem kw_1856 : Cond.instanceMethod yX12_readTold ∈ uT := uT_in3 tb_8 38 rfl rfl
set_option maxRecDepth 20000 in
theorem kw_1857 : Cond.code yX12_readTold cX12_readTold 4 (some FieldType.int) ∈ uT := uT_in3 tb_8 39 rfl rfl
set_option maxRecDepth 20000 in
theorem kw_1858 : Cond.methodLink RX12 283 Lib.Math.min.name ∈ uT := uT_in3 tb_8 40 rfl rfl
set_option maxRecDepth 20000 in
theorem kw_1859 : Cond.methodLink RX12 299 yX12_isWell ∈ uT := uT_in3 tb_8 41 rfl rfl
set_option maxRecDepth 20000 in
theorem kw_1861 : Cond.instanceMethod yX12_isWell ∈ uT := uT_in3 tb_8 43 rfl rfl
set_option maxRecDepth 20000 in
theorem kw_1862 : Cond.code yX12_isWell cX12_isWell 1 (some FieldType.boolean) ∈ uT := uT_in3 tb_8 44 rfl rfl
set_option maxRecDepth 20000 in
theorem kw_1863 : Cond.methodLink RL 62 yX12_law ∈ uT := uT_in3 tb_8 45 rfl rfl
set_option maxRecDepth 20000 in
theorem kw_1864 : Cond.instanceMethod yX12_law ∈ uT := uT_in3 tb_8 46 rfl rfl
set_option maxRecDepth 20000 in
theorem kw_1865 : Cond.selects RX12 yX12_law yX12_law ∈ uT := uT_in3 tb_8 47 rfl rfl
set_option maxRecDepth 20000 in
theorem kw_1866 : Cond.code yX12_law cX12_law 3 (some FieldType.int) ∈ uT := uT_in3 tb_8 48 rfl rfl
set_option maxRecDepth 20000 in
theorem kw_1867 : Cond.methodLink RX12 315 yX12_readRule ∈ uT := uT_in3 tb_8 49 rfl rfl
set_option maxRecDepth 20000 in
theorem kw_1869 : Cond.instanceMethod yX12_readRule ∈ uT := uT_in3 tb_8 51 rfl rfl
set_option maxRecDepth 20000 in
theorem kw_1870 : Cond.code yX12_readRule cX12_readRule 2 (none : Option FieldType) ∈ uT := uT_in3 tb_8 52 rfl rfl
set_option maxRecDepth 20000 in
theorem kw_1871 : Cond.methodLink RX12 308 yX12_readKind ∈ uT := uT_in3 tb_8 53 rfl rfl
set_option maxRecDepth 20000 in
theorem kw_1873 : Cond.instanceMethod yX12_readKind ∈ uT := uT_in3 tb_8 55 rfl rfl
set_option maxRecDepth 20000 in
theorem kw_1874 : Cond.code yX12_readKind cX12_readKind 2 (some FieldType.int) ∈ uT := uT_in3 tb_8 56 rfl rfl
set_option maxRecDepth 20000 in
theorem kw_1875 : Cond.methodLink RX12 312 yX12_readWhat ∈ uT := uT_in3 tb_8 57 rfl rfl
set_option maxRecDepth 20000 in
theorem kw_1877 : Cond.instanceMethod yX12_readWhat ∈ uT := uT_in3 tb_8 59 rfl rfl
set_option maxRecDepth 20000 in
theorem kw_1878 : Cond.code yX12_readWhat cX12_readWhat 2 (some FieldType.int) ∈ uT := uT_in3 tb_8 60 rfl rfl
set_option maxRecDepth 20000 in
theorem kw_1879 : Cond.methodLink RL 70 yX12_many ∈ uT := uT_in3 tb_8 61 rfl rfl
set_option maxRecDepth 20000 in
theorem kw_1880 : Cond.instanceMethod yX12_many ∈ uT := uT_in3 tb_8 62 rfl rfl
set_option maxRecDepth 20000 in
theorem kw_1881 : Cond.selects RX12 yX12_many yX12_many ∈ uT := uT_in3 tb_8 63 rfl rfl
set_option maxRecDepth 20000 in
theorem kw_1882 : Cond.code yX12_many cX12_many 2 (some FieldType.int) ∈ uT := uT_in3 tb_8 64 rfl rfl
set_option maxRecDepth 20000 in
theorem kw_1883 : Cond.methodLink RX12 318 yX12_empties ∈ uT := uT_in3 tb_8 65 rfl rfl
set_option maxRecDepth 20000 in
theorem kw_1885 : Cond.instanceMethod yX12_empties ∈ uT := uT_in3 tb_8 67 rfl rfl
set_option maxRecDepth 20000 in
theorem kw_1886 : Cond.code yX12_empties cX12_empties 3 (some FieldType.int) ∈ uT := uT_in3 tb_8 68 rfl rfl
set_option maxRecDepth 20000 in
theorem kw_1887 : Cond.methodLink RX12 321 yX12_refuse ∈ uT := uT_in3 tb_8 69 rfl rfl
set_option maxRecDepth 20000 in
theorem kw_1889 : Cond.instanceMethod yX12_refuse ∈ uT := uT_in3 tb_8 71 rfl rfl
set_option maxRecDepth 20000 in
theorem kw_1890 : Cond.code yX12_refuse cX12_refuse 2 (some FieldType.int) ∈ uT := uT_in3 tb_8 72 rfl rfl
set_option maxRecDepth 20000 in
theorem kw_1891 : Cond.methodLink RL 75 yX12_letter ∈ uT := uT_in3 tb_8 73 rfl rfl
set_option maxRecDepth 20000 in
theorem kw_1892 : Cond.instanceMethod yX12_letter ∈ uT := uT_in3 tb_8 74 rfl rfl
set_option maxRecDepth 20000 in
theorem kw_1893 : Cond.selects RX12 yX12_letter yX12_letter ∈ uT := uT_in3 tb_8 75 rfl rfl
set_option maxRecDepth 20000 in
theorem kw_1894 : Cond.code yX12_letter cX12_letter 3 (some FieldType.int) ∈ uT := uT_in3 tb_8 76 rfl rfl
set_option maxRecDepth 20000 in
theorem kw_1895 : Cond.methodLink RX12 324 yX12_isSoundAt ∈ uT := uT_in3 tb_8 77 rfl rfl
set_option maxRecDepth 20000 in
theorem kw_1897 : Cond.instanceMethod yX12_isSoundAt ∈ uT := uT_in3 tb_8 79 rfl rfl
set_option maxRecDepth 20000 in
theorem kw_1898 : Cond.code yX12_isSoundAt cX12_isSoundAt 2 (some FieldType.boolean) ∈ uT := uT_in3 tb_8 80 rfl rfl
set_option maxRecDepth 20000 in
theorem kw_1899 : Cond.methodLink RX12 327 yX12_soundAt ∈ uT := uT_in3 tb_8 81 rfl rfl
set_option maxRecDepth 20000 in
theorem kw_1901 : Cond.instanceMethod yX12_soundAt ∈ uT := uT_in3 tb_8 83 rfl rfl
set_option maxRecDepth 20000 in
theorem kw_1902 : Cond.code yX12_soundAt cX12_soundAt 3 (some FieldType.int) ∈ uT := uT_in3 tb_8 84 rfl rfl
set_option maxRecDepth 20000 in
theorem kw_1903 : Cond.methodLink RL 79 yX12_jar ∈ uT := uT_in3 tb_8 85 rfl rfl
set_option maxRecDepth 20000 in
theorem kw_1904 : Cond.instanceMethod yX12_jar ∈ uT := uT_in3 tb_8 86 rfl rfl
set_option maxRecDepth 20000 in
theorem kw_1905 : Cond.selects RX12 yX12_jar yX12_jar ∈ uT := uT_in3 tb_8 87 rfl rfl
set_option maxRecDepth 20000 in
theorem kw_1906 : Cond.code yX12_jar cX12_jar 3 (some FieldType.int) ∈ uT := uT_in3 tb_8 88 rfl rfl
set_option maxRecDepth 20000 in
theorem kw_1907 : Cond.methodLink RX12 330 yX12_isJarAt ∈ uT := uT_in3 tb_8 89 rfl rfl
set_option maxRecDepth 20000 in
theorem kw_1909 : Cond.instanceMethod yX12_isJarAt ∈ uT := uT_in3 tb_8 91 rfl rfl
set_option maxRecDepth 20000 in
theorem kw_1910 : Cond.code yX12_isJarAt cX12_isJarAt 2 (some FieldType.boolean) ∈ uT := uT_in3 tb_8 92 rfl rfl
set_option maxRecDepth 20000 in
theorem kw_1911 : Cond.methodLink RL 84 yX12_day ∈ uT := uT_in3 tb_8 93 rfl rfl
set_option maxRecDepth 20000 in
theorem kw_1912 : Cond.instanceMethod yX12_day ∈ uT := uT_in3 tb_8 94 rfl rfl
set_option maxRecDepth 20000 in
theorem kw_1913 : Cond.selects RX12 yX12_day yX12_day ∈ uT := uT_in3 tb_8 95 rfl rfl
set_option maxRecDepth 20000 in
theorem kw_1914 : Cond.code yX12_day cX12_day 2 (some FieldType.boolean) ∈ uT := uT_in3 tb_8 96 rfl rfl
set_option maxRecDepth 20000 in
theorem kw_1915 : Cond.constantLong RX12 333 (Int64.ofInt (9999)) ∈ uT := uT_in3 tb_8 97 rfl rfl
set_option maxRecDepth 20000 in
theorem kw_1916 : Cond.methodLink RL 88 yX12_heard ∈ uT := uT_in3 tb_8 98 rfl rfl
set_option maxRecDepth 20000 in
theorem kw_1917 : Cond.instanceMethod yX12_heard ∈ uT := uT_in3 tb_8 99 rfl rfl
set_option maxRecDepth 20000 in
theorem kw_1918 : Cond.selects RX12 yX12_heard yX12_heard ∈ uT := uT_in3 tb_8 100 rfl rfl
set_option maxRecDepth 20000 in
theorem kw_1919 : Cond.code yX12_heard cX12_heard 2 (some FieldType.int) ∈ uT := uT_in3 tb_8 101 rfl rfl
set_option maxRecDepth 20000 in
theorem kw_1920 : Cond.methodLink RX12 342 yX12_heardNow ∈ uT := uT_in3 tb_8 102 rfl rfl
set_option maxRecDepth 20000 in
theorem kw_1922 : Cond.instanceMethod yX12_heardNow ∈ uT := uT_in3 tb_8 104 rfl rfl
set_option maxRecDepth 20000 in
theorem kw_1923 : Cond.code yX12_heardNow cX12_heardNow 2 (some FieldType.int) ∈ uT := uT_in3 tb_8 105 rfl rfl
set_option maxRecDepth 20000 in
theorem kw_1924 : Cond.methodLink RX12 339 yX12_heardOn ∈ uT := uT_in3 tb_8 106 rfl rfl
set_option maxRecDepth 20000 in
theorem kw_1926 : Cond.instanceMethod yX12_heardOn ∈ uT := uT_in3 tb_8 108 rfl rfl
set_option maxRecDepth 20000 in
theorem kw_1927 : Cond.code yX12_heardOn cX12_heardOn 3 (some FieldType.int) ∈ uT := uT_in3 tb_8 109 rfl rfl
set_option maxRecDepth 20000 in
theorem kw_1928 : Cond.methodLink RX12 335 yX12_goneOf ∈ uT := uT_in3 tb_8 110 rfl rfl
set_option maxRecDepth 20000 in
theorem kw_1930 : Cond.instanceMethod yX12_goneOf ∈ uT := uT_in3 tb_8 112 rfl rfl
set_option maxRecDepth 20000 in
theorem kw_1931 : Cond.code yX12_goneOf cX12_goneOf 4 (some FieldType.int) ∈ uT := uT_in3 tb_8 113 rfl rfl
set_option maxRecDepth 20000 in
theorem kw_1932 : Cond.methodLink RL 92 yX12_heardAt ∈ uT := uT_in3 tb_8 114 rfl rfl
set_option maxRecDepth 20000 in
theorem kw_1933 : Cond.instanceMethod yX12_heardAt ∈ uT := uT_in3 tb_8 115 rfl rfl
set_option maxRecDepth 20000 in
theorem kw_1934 : Cond.selects RX12 yX12_heardAt yX12_heardAt ∈ uT := uT_in3 tb_8 116 rfl rfl
set_option maxRecDepth 20000 in
theorem kw_1935 : Cond.code yX12_heardAt cX12_heardAt 3 (some FieldType.int) ∈ uT := uT_in3 tb_8 117 rfl rfl
set_option maxRecDepth 20000 in
theorem kw_1936 : Cond.methodLink RX12 348 yX12_heardLetter ∈ uT := uT_in3 tb_8 118 rfl rfl
set_option maxRecDepth 20000 in
theorem kw_1938 : Cond.instanceMethod yX12_heardLetter ∈ uT := uT_in3 tb_8 120 rfl rfl
set_option maxRecDepth 20000 in
theorem kw_1939 : Cond.code yX12_heardLetter cX12_heardLetter 3 (some FieldType.int) ∈ uT := uT_in3 tb_8 121 rfl rfl
set_option maxRecDepth 20000 in
theorem kw_1940 : Cond.methodLink RX12 345 yX12_headGone ∈ uT := uT_in3 tb_8 122 rfl rfl
set_option maxRecDepth 20000 in
theorem kw_1942 : Cond.instanceMethod yX12_headGone ∈ uT := uT_in3 tb_8 124 rfl rfl
set_option maxRecDepth 20000 in
theorem kw_1943 : Cond.code yX12_headGone cX12_headGone 3 (some FieldType.int) ∈ uT := uT_in3 tb_8 125 rfl rfl
set_option maxRecDepth 20000 in
theorem kw_1944 : Cond.methodLink RL 96 yX12_pourOut ∈ uT := uT_in3 tb_8 126 rfl rfl
set_option maxRecDepth 20000 in
theorem kw_1945 : Cond.instanceMethod yX12_pourOut ∈ uT := uT_in3 tb_8 127 rfl rfl
set_option maxRecDepth 20000 in
theorem kw_1946 : Cond.selects RX12 yX12_pourOut yX12_pourOut ∈ uT := uT_in3 tb_8 128 rfl rfl
set_option maxRecDepth 20000 in
theorem kw_1947 : Cond.code yX12_pourOut cX12_pourOut 5 (some FieldType.int) ∈ uT := uT_in3 tb_8 129 rfl rfl
set_option maxRecDepth 20000 in
theorem kw_1948 : Cond.methodLink RX12 351 yX12_isTray ∈ uT := uT_in3 tb_8 130 rfl rfl
set_option maxRecDepth 20000 in
theorem kw_1950 : Cond.instanceMethod yX12_isTray ∈ uT := uT_in3 tb_8 132 rfl rfl
set_option maxRecDepth 20000 in
theorem kw_1951 : Cond.code yX12_isTray cX12_isTray 2 (some FieldType.boolean) ∈ uT := uT_in3 tb_8 133 rfl rfl
set_option maxRecDepth 20000 in
theorem kw_1952 : Cond.constantLong RX12 122 (Int64.ofInt (3)) ∈ uT := uT_in3 tb_8 134 rfl rfl
set_option maxRecDepth 20000 in
theorem kw_1953 : Cond.methodLink RX12 354 yX12_whyNoRow ∈ uT := uT_in3 tb_8 135 rfl rfl
set_option maxRecDepth 20000 in
theorem kw_1955 : Cond.instanceMethod yX12_whyNoRow ∈ uT := uT_in3 tb_8 137 rfl rfl
set_option maxRecDepth 20000 in
theorem kw_1956 : Cond.code yX12_whyNoRow cX12_whyNoRow 3 (some FieldType.int) ∈ uT := uT_in3 tb_8 138 rfl rfl
set_option maxRecDepth 20000 in
theorem kw_1957 : Cond.methodLink RX12 357 yX12_toTray ∈ uT := uT_in3 tb_8 139 rfl rfl
set_option maxRecDepth 20000 in
theorem kw_1959 : Cond.instanceMethod yX12_toTray ∈ uT := uT_in3 tb_8 141 rfl rfl
set_option maxRecDepth 20000 in
theorem kw_1960 : Cond.code yX12_toTray cX12_toTray 4 (none : Option FieldType) ∈ uT := uT_in3 tb_8 142 rfl rfl
set_option maxRecDepth 20000 in
theorem kw_1961 : Cond.methodLink RL 100 yX12_lost ∈ uT := uT_in3 tb_8 143 rfl rfl
set_option maxRecDepth 20000 in
theorem kw_1962 : Cond.instanceMethod yX12_lost ∈ uT := uT_in3 tb_8 144 rfl rfl
set_option maxRecDepth 20000 in
theorem kw_1963 : Cond.selects RX12 yX12_lost yX12_lost ∈ uT := uT_in3 tb_8 145 rfl rfl
set_option maxRecDepth 20000 in
theorem kw_1964 : Cond.code yX12_lost cX12_lost 2 (some FieldType.int) ∈ uT := uT_in3 tb_8 146 rfl rfl
set_option maxRecDepth 20000 in
theorem kw_1965 : Cond.methodLink RL 104 yX12_silent ∈ uT := uT_in3 tb_8 147 rfl rfl
set_option maxRecDepth 20000 in
theorem kw_1966 : Cond.instanceMethod yX12_silent ∈ uT := uT_in3 tb_8 148 rfl rfl
set_option maxRecDepth 20000 in
theorem kw_1967 : Cond.selects RX12 yX12_silent yX12_silent ∈ uT := uT_in3 tb_8 149 rfl rfl
set_option maxRecDepth 20000 in
theorem kw_1968 : Cond.code yX12_silent cX12_silent 2 (some FieldType.int) ∈ uT := uT_in3 tb_8 150 rfl rfl
set_option maxRecDepth 20000 in
theorem kw_1969 : Cond.methodLink RL 170 yX12_since ∈ uT := uT_in3 tb_8 151 rfl rfl
set_option maxRecDepth 20000 in
theorem kw_1970 : Cond.instanceMethod yX12_since ∈ uT := uT_in3 tb_8 152 rfl rfl
set_option maxRecDepth 20000 in
theorem kw_1971 : Cond.selects RX12 yX12_since yX12_since ∈ uT := uT_in3 tb_8 153 rfl rfl
set_option maxRecDepth 20000 in
theorem kw_1972 : Cond.code yX12_since cX12_since 6 (some FieldType.int) ∈ uT := uT_in3 tb_8 154 rfl rfl
set_option maxRecDepth 20000 in
theorem kw_1973 : Cond.constantLong RX12 361 (Int64.ofInt (12)) ∈ uT := uT_in3 tb_8 155 rfl rfl
set_option maxRecDepth 20000 in
theorem kw_1974 : Cond.methodLink RL 108 yX12_loudest ∈ uT := uT_in3 tb_8 156 rfl rfl
set_option maxRecDepth 20000 in
theorem kw_1975 : Cond.instanceMethod yX12_loudest ∈ uT := uT_in3 tb_8 157 rfl rfl
set_option maxRecDepth 20000 in
theorem kw_1976 : Cond.selects RX12 yX12_loudest yX12_loudest ∈ uT := uT_in3 tb_8 158 rfl rfl
set_option maxRecDepth 20000 in
theorem kw_1977 : Cond.code yX12_loudest cX12_loudest 8 (some FieldType.int) ∈ uT := uT_in3 tb_8 159 rfl rfl
set_option maxRecDepth 20000 in
theorem kw_1978 : Cond.constantLong RX12 363 (Int64.ofInt (999)) ∈ uT := uT_in3 tb_8 160 rfl rfl
set_option maxRecDepth 20000 in
theorem kw_1979 : Cond.methodLink RL 113 yX12_atOnce ∈ uT := uT_in3 tb_8 161 rfl rfl
set_option maxRecDepth 20000 in
theorem kw_1980 : Cond.instanceMethod yX12_atOnce ∈ uT := uT_in3 tb_8 162 rfl rfl
set_option maxRecDepth 20000 in
theorem kw_1981 : Cond.selects RX12 yX12_atOnce yX12_atOnce ∈ uT := uT_in3 tb_8 163 rfl rfl
set_option maxRecDepth 20000 in
theorem kw_1982 : Cond.code yX12_atOnce cX12_atOnce 6 (some FieldType.int) ∈ uT := uT_in3 tb_8 164 rfl rfl
set_option maxRecDepth 20000 in
theorem kw_1983 : Cond.methodLink RX12 368 Lib.Math.max.name ∈ uT := uT_in3 tb_8 165 rfl rfl
set_option maxRecDepth 20000 in
theorem kw_1984 : Cond.methodLink RX12 371 yX12_heardOrRest ∈ uT := uT_in3 tb_8 166 rfl rfl
set_option maxRecDepth 20000 in
theorem kw_1986 : Cond.instanceMethod yX12_heardOrRest ∈ uT := uT_in3 tb_8 168 rfl rfl
set_option maxRecDepth 20000 in
theorem kw_1987 : Cond.code yX12_heardOrRest cX12_heardOrRest 3 (some FieldType.int) ∈ uT := uT_in3 tb_8 169 rfl rfl
set_option maxRecDepth 20000 in
theorem kw_1988 : Cond.methodLink RX12 374 yX12_mixOf ∈ uT := uT_in3 tb_8 170 rfl rfl
set_option maxRecDepth 20000 in
theorem kw_1990 : Cond.instanceMethod yX12_mixOf ∈ uT := uT_in3 tb_8 172 rfl rfl
set_option maxRecDepth 20000 in
theorem kw_1991 : Cond.code yX12_mixOf cX12_mixOf 5 (some FieldType.int) ∈ uT := uT_in3 tb_8 173 rfl rfl
set_option maxRecDepth 20000 in
theorem kw_1992 : Cond.methodLink RX12 365 yX12_fitsKind ∈ uT := uT_in3 tb_8 174 rfl rfl
set_option maxRecDepth 20000 in
theorem kw_1993 : Cond.static yX12_fitsKind ∈ uT := uT_in3 tb_8 175 rfl rfl
set_option maxRecDepth 20000 in
theorem kw_1994 : Cond.code yX12_fitsKind cX12_fitsKind 2 (some FieldType.boolean) ∈ uT := uT_in3 tb_8 176 rfl rfl
set_option maxRecDepth 20000 in
theorem kw_1995 : Cond.methodLink RL 121 yX12_mixes ∈ uT := uT_in3 tb_8 177 rfl rfl
set_option maxRecDepth 20000 in
theorem kw_1996 : Cond.instanceMethod yX12_mixes ∈ uT := uT_in3 tb_8 178 rfl rfl
set_option maxRecDepth 20000 in
theorem kw_1997 : Cond.selects RX12 yX12_mixes yX12_mixes ∈ uT := uT_in3 tb_8 179 rfl rfl
set_option maxRecDepth 20000 in
theorem kw_1998 : Cond.code yX12_mixes cX12_mixes 3 (some FieldType.int) ∈ uT := uT_in3 tb_8 180 rfl rfl
set_option maxRecDepth 20000 in
theorem kw_1999 : Cond.constantLong RX12 377 (Int64.ofInt (26)) ∈ uT := uT_in3 tb_8 181 rfl rfl
set_option maxRecDepth 20000 in
theorem kw_2000 : Cond.methodLink RL 125 yX12_others ∈ uT := uT_in3 tb_8 182 rfl rfl
set_option maxRecDepth 20000 in
theorem kw_2001 : Cond.instanceMethod yX12_others ∈ uT := uT_in3 tb_8 183 rfl rfl
set_option maxRecDepth 20000 in
theorem kw_2002 : Cond.selects RX12 yX12_others yX12_others ∈ uT := uT_in3 tb_8 184 rfl rfl
set_option maxRecDepth 20000 in
theorem kw_2003 : Cond.code yX12_others cX12_others 3 (some FieldType.int) ∈ uT := uT_in3 tb_8 185 rfl rfl
set_option maxRecDepth 20000 in
theorem kw_2004 : Cond.methodLink RX12 379 yX12_othersOf ∈ uT := uT_in3 tb_8 186 rfl rfl
set_option maxRecDepth 20000 in
theorem kw_2006 : Cond.instanceMethod yX12_othersOf ∈ uT := uT_in3 tb_8 188 rfl rfl
set_option maxRecDepth 20000 in
theorem kw_2007 : Cond.code yX12_othersOf cX12_othersOf 5 (some FieldType.int) ∈ uT := uT_in3 tb_8 189 rfl rfl
set_option maxRecDepth 20000 in
theorem kw_2008 : Cond.methodLink RL 129 yX12_echoed ∈ uT := uT_in3 tb_8 190 rfl rfl
set_option maxRecDepth 20000 in
theorem kw_2009 : Cond.instanceMethod yX12_echoed ∈ uT := uT_in3 tb_8 191 rfl rfl
set_option maxRecDepth 20000 in
theorem kw_2010 : Cond.selects RX12 yX12_echoed yX12_echoed ∈ uT := uT_in3 tb_8 192 rfl rfl
set_option maxRecDepth 20000 in
theorem kw_2011 : Cond.code yX12_echoed cX12_echoed 6 (some FieldType.int) ∈ uT := uT_in3 tb_8 193 rfl rfl
set_option maxRecDepth 20000 in
theorem kw_2012 : Cond.constantLong RX12 382 (Int64.ofInt (15)) ∈ uT := uT_in3 tb_8 194 rfl rfl
set_option maxRecDepth 20000 in
theorem kw_2013 : Cond.methodLink RX12 384 yX12_soundOrRest ∈ uT := uT_in3 tb_8 195 rfl rfl
set_option maxRecDepth 20000 in
theorem kw_2015 : Cond.instanceMethod yX12_soundOrRest ∈ uT := uT_in3 tb_8 197 rfl rfl
set_option maxRecDepth 20000 in
theorem kw_2016 : Cond.code yX12_soundOrRest cX12_soundOrRest 3 (some FieldType.int) ∈ uT := uT_in3 tb_8 198 rfl rfl
set_option maxRecDepth 20000 in
theorem kw_2017 : Cond.methodLink RL 133 yX12_clearest ∈ uT := uT_in3 tb_8 199 rfl rfl
set_option maxRecDepth 20000 in
theorem kw_2018 : Cond.instanceMethod yX12_clearest ∈ uT := uT_in3 tb_8 200 rfl rfl
set_option maxRecDepth 20000 in
theorem kw_2019 : Cond.selects RX12 yX12_clearest yX12_clearest ∈ uT := uT_in3 tb_8 201 rfl rfl
set_option maxRecDepth 20000 in
theorem kw_2020 : Cond.code yX12_clearest cX12_clearest 10 (some FieldType.int) ∈ uT := uT_in3 tb_8 202 rfl rfl
set_option maxRecDepth 20000 in
theorem kw_2021 : Cond.methodLink RL 117 yX12_couples ∈ uT := uT_in3 tb_8 203 rfl rfl
set_option maxRecDepth 20000 in
theorem kw_2022 : Cond.instanceMethod yX12_couples ∈ uT := uT_in3 tb_8 204 rfl rfl
set_option maxRecDepth 20000 in
theorem kw_2023 : Cond.selects RX12 yX12_couples yX12_couples ∈ uT := uT_in3 tb_8 205 rfl rfl
set_option maxRecDepth 20000 in
theorem kw_2024 : Cond.code yX12_couples cX12_couples 9 (some FieldType.long) ∈ uT := uT_in3 tb_8 206 rfl rfl
set_option maxRecDepth 20000 in
theorem kw_2025 : Cond.constantLong RX12 391 (Int64.ofInt (6)) ∈ uT := uT_in3 tb_8 207 rfl rfl
set_option maxRecDepth 20000 in
theorem kw_2026 : Cond.methodLink RX12 393 yX12_whyNoLetters ∈ uT := uT_in3 tb_8 208 rfl rfl
set_option maxRecDepth 20000 in
theorem kw_2028 : Cond.instanceMethod yX12_whyNoLetters ∈ uT := uT_in3 tb_8 210 rfl rfl
set_option maxRecDepth 20000 in
theorem kw_2029 : Cond.code yX12_whyNoLetters cX12_whyNoLetters 5 (some FieldType.int) ∈ uT := uT_in3 tb_8 211 rfl rfl
set_option maxRecDepth 20000 in
theorem kw_2030 : Cond.methodLink RX12 387 yX12_numberOf ∈ uT := uT_in3 tb_8 212 rfl rfl
set_option maxRecDepth 20000 in
theorem kw_2032 : Cond.instanceMethod yX12_numberOf ∈ uT := uT_in3 tb_8 214 rfl rfl
set_option maxRecDepth 20000 in
theorem kw_2033 : Cond.code yX12_numberOf cX12_numberOf 3 (some FieldType.long) ∈ uT := uT_in3 tb_8 215 rfl rfl
set_option maxRecDepth 20000 in
theorem kw_2034 : Cond.methodLink RL 138 yX12_beside ∈ uT := uT_in3 tb_8 216 rfl rfl
set_option maxRecDepth 20000 in
theorem kw_2035 : Cond.instanceMethod yX12_beside ∈ uT := uT_in3 tb_8 217 rfl rfl
set_option maxRecDepth 20000 in
theorem kw_2036 : Cond.selects RX12 yX12_beside yX12_beside ∈ uT := uT_in3 tb_8 218 rfl rfl
set_option maxRecDepth 20000 in
theorem kw_2037 : Cond.code yX12_beside cX12_beside 11 (some FieldType.long) ∈ uT := uT_in3 tb_8 219 rfl rfl
set_option maxRecDepth 20000 in
theorem kw_2038 : Cond.constantLong RX12 396 (Int64.ofInt (8)) ∈ uT := uT_in3 tb_8 220 rfl rfl
set_option maxRecDepth 20000 in
theorem kw_2039 : Cond.methodLink RL 142 yX12_fits ∈ uT := uT_in3 tb_8 221 rfl rfl
set_option maxRecDepth 20000 in
theorem kw_2040 : Cond.instanceMethod yX12_fits ∈ uT := uT_in3 tb_8 222 rfl rfl
set_option maxRecDepth 20000 in
theorem kw_2041 : Cond.selects RX12 yX12_fits yX12_fits ∈ uT := uT_in3 tb_8 223 rfl rfl
set_option maxRecDepth 20000 in
theorem kw_2042 : Cond.code yX12_fits cX12_fits 2 (some FieldType.int) ∈ uT := uT_in3 tb_8 224 rfl rfl
set_option maxRecDepth 20000 in
theorem kw_2043 : Cond.methodLink RX12 408 yX12_areJars ∈ uT := uT_in3 tb_8 225 rfl rfl
set_option maxRecDepth 20000 in
theorem kw_2045 : Cond.instanceMethod yX12_areJars ∈ uT := uT_in3 tb_8 227 rfl rfl
set_option maxRecDepth 20000 in
theorem kw_2046 : Cond.code yX12_areJars cX12_areJars 2 (some FieldType.boolean) ∈ uT := uT_in3 tb_8 228 rfl rfl
set_option maxRecDepth 20000 in
theorem kw_2047 : Cond.methodLink RX12 411 yX12_fitsOf ∈ uT := uT_in3 tb_8 229 rfl rfl
set_option maxRecDepth 20000 in
theorem kw_2049 : Cond.instanceMethod yX12_fitsOf ∈ uT := uT_in3 tb_8 231 rfl rfl
set_option maxRecDepth 20000 in
theorem kw_2050 : Cond.code yX12_fitsOf cX12_fitsOf 6 (some FieldType.int) ∈ uT := uT_in3 tb_8 232 rfl rfl
set_option maxRecDepth 20000 in
theorem kw_2051 : Cond.methodLink RX12 402 yX12_has ∈ uT := uT_in3 tb_8 233 rfl rfl
set_option maxRecDepth 20000 in
theorem kw_2052 : Cond.static yX12_has ∈ uT := uT_in3 tb_8 234 rfl rfl
set_option maxRecDepth 20000 in
theorem kw_2053 : Cond.code yX12_has cX12_has 2 (some FieldType.boolean) ∈ uT := uT_in3 tb_8 235 rfl rfl
set_option maxRecDepth 20000 in
theorem kw_2054 : Cond.methodLink RX12 405 yX12_placesIn ∈ uT := uT_in3 tb_8 236 rfl rfl
set_option maxRecDepth 20000 in
theorem kw_2056 : Cond.instanceMethod yX12_placesIn ∈ uT := uT_in3 tb_8 238 rfl rfl
set_option maxRecDepth 20000 in
theorem kw_2057 : Cond.code yX12_placesIn cX12_placesIn 6 (some FieldType.int) ∈ uT := uT_in3 tb_8 239 rfl rfl
set_option maxRecDepth 20000 in
theorem kw_2058 : Cond.methodLink RX12 398 yX12_standsAt ∈ uT := uT_in3 tb_9 0 rfl rfl
set_option maxRecDepth 20000 in
theorem kw_2060 : Cond.instanceMethod yX12_standsAt ∈ uT := uT_in3 tb_9 2 rfl rfl
set_option maxRecDepth 20000 in
theorem kw_2061 : Cond.code yX12_standsAt cX12_standsAt 6 (some FieldType.boolean) ∈ uT := uT_in3 tb_9 3 rfl rfl
set_option maxRecDepth 20000 in
theorem kw_2062 : Cond.methodLink RL 146 yX12_places ∈ uT := uT_in3 tb_9 4 rfl rfl
set_option maxRecDepth 20000 in
theorem kw_2063 : Cond.instanceMethod yX12_places ∈ uT := uT_in3 tb_9 5 rfl rfl
set_option maxRecDepth 20000 in
theorem kw_2064 : Cond.selects RX12 yX12_places yX12_places ∈ uT := uT_in3 tb_9 6 rfl rfl
set_option maxRecDepth 20000 in
theorem kw_2065 : Cond.code yX12_places cX12_places 3 (some FieldType.int) ∈ uT := uT_in3 tb_9 7 rfl rfl
set_option maxRecDepth 20000 in
theorem kw_2066 : Cond.methodLink RL 150 yX12_speaks ∈ uT := uT_in3 tb_9 8 rfl rfl
set_option maxRecDepth 20000 in
theorem kw_2067 : Cond.instanceMethod yX12_speaks ∈ uT := uT_in3 tb_9 9 rfl rfl
set_option maxRecDepth 20000 in
theorem kw_2068 : Cond.selects RX12 yX12_speaks yX12_speaks ∈ uT := uT_in3 tb_9 10 rfl rfl
set_option maxRecDepth 20000 in
theorem kw_2069 : Cond.code yX12_speaks cX12_speaks 4 (some FieldType.int) ∈ uT := uT_in3 tb_9 11 rfl rfl
set_option maxRecDepth 20000 in
theorem kw_2070 : Cond.methodLink RL 158 yX12_laps ∈ uT := uT_in3 tb_9 12 rfl rfl
set_option maxRecDepth 20000 in
theorem kw_2071 : Cond.instanceMethod yX12_laps ∈ uT := uT_in3 tb_9 13 rfl rfl
set_option maxRecDepth 20000 in
theorem kw_2072 : Cond.selects RX12 yX12_laps yX12_laps ∈ uT := uT_in3 tb_9 14 rfl rfl
set_option maxRecDepth 20000 in
theorem kw_2073 : Cond.code yX12_laps cX12_laps 3 (some FieldType.int) ∈ uT := uT_in3 tb_9 15 rfl rfl
set_option maxRecDepth 20000 in
theorem kw_2074 : Cond.methodLink RX12 414 yX12_lapsOf ∈ uT := uT_in3 tb_9 16 rfl rfl
set_option maxRecDepth 20000 in
theorem kw_2076 : Cond.instanceMethod yX12_lapsOf ∈ uT := uT_in3 tb_9 18 rfl rfl
set_option maxRecDepth 20000 in
theorem kw_2077 : Cond.code yX12_lapsOf cX12_lapsOf 6 (some FieldType.int) ∈ uT := uT_in3 tb_9 19 rfl rfl
set_option maxRecDepth 20000 in
theorem kw_2078 : Cond.methodLink RL 154 yX12_kinds ∈ uT := uT_in3 tb_9 20 rfl rfl
set_option maxRecDepth 20000 in
theorem kw_2079 : Cond.instanceMethod yX12_kinds ∈ uT := uT_in3 tb_9 21 rfl rfl
set_option maxRecDepth 20000 in
theorem kw_2080 : Cond.selects RX12 yX12_kinds yX12_kinds ∈ uT := uT_in3 tb_9 22 rfl rfl
set_option maxRecDepth 20000 in
theorem kw_2081 : Cond.code yX12_kinds cX12_kinds 5 (some FieldType.int) ∈ uT := uT_in3 tb_9 23 rfl rfl
set_option maxRecDepth 20000 in
theorem kw_2082 : Cond.methodLink RL 174 yX12_far ∈ uT := uT_in3 tb_9 24 rfl rfl
set_option maxRecDepth 20000 in
theorem kw_2083 : Cond.instanceMethod yX12_far ∈ uT := uT_in3 tb_9 25 rfl rfl
set_option maxRecDepth 20000 in
theorem kw_2084 : Cond.selects RX12 yX12_far yX12_far ∈ uT := uT_in3 tb_9 26 rfl rfl
set_option maxRecDepth 20000 in
theorem kw_2085 : Cond.code yX12_far cX12_far 8 (some FieldType.int) ∈ uT := uT_in3 tb_9 27 rfl rfl
set_option maxRecDepth 20000 in
theorem kw_2086 : Cond.constant RX12 417 (Int32.ofInt (1000000)) ∈ uT := uT_in3 tb_9 28 rfl rfl
set_option maxRecDepth 20000 in
theorem kw_2087 : Cond.methodLink RL 178 yX12_common ∈ uT := uT_in3 tb_9 29 rfl rfl
set_option maxRecDepth 20000 in
theorem kw_2088 : Cond.instanceMethod yX12_common ∈ uT := uT_in3 tb_9 30 rfl rfl
set_option maxRecDepth 20000 in
theorem kw_2089 : Cond.selects RX12 yX12_common yX12_common ∈ uT := uT_in3 tb_9 31 rfl rfl
set_option maxRecDepth 20000 in
theorem kw_2090 : Cond.code yX12_common cX12_common 7 (some FieldType.int) ∈ uT := uT_in3 tb_9 32 rfl rfl
set_option maxRecDepth 20000 in
theorem kw_2091 : Cond.methodLink RL 182 yX12_chain ∈ uT := uT_in3 tb_9 33 rfl rfl
set_option maxRecDepth 20000 in
theorem kw_2092 : Cond.instanceMethod yX12_chain ∈ uT := uT_in3 tb_9 34 rfl rfl
set_option maxRecDepth 20000 in
theorem kw_2093 : Cond.selects RX12 yX12_chain yX12_chain ∈ uT := uT_in3 tb_9 35 rfl rfl
set_option maxRecDepth 20000 in
theorem kw_2094 : Cond.code yX12_chain cX12_chain 3 (some FieldType.int) ∈ uT := uT_in3 tb_9 36 rfl rfl
set_option maxRecDepth 20000 in
theorem kw_2095 : Cond.constantLong RX12 424 (Int64.ofInt (11)) ∈ uT := uT_in3 tb_9 37 rfl rfl
set_option maxRecDepth 20000 in
theorem kw_2096 : Cond.methodLink RX12 421 yX12_chainFrom ∈ uT := uT_in3 tb_9 38 rfl rfl
set_option maxRecDepth 20000 in
theorem kw_2098 : Cond.instanceMethod yX12_chainFrom ∈ uT := uT_in3 tb_9 40 rfl rfl
set_option maxRecDepth 20000 in
theorem kw_2099 : Cond.code yX12_chainFrom cX12_chainFrom 5 (none : Option FieldType) ∈ uT := uT_in3 tb_9 41 rfl rfl
set_option maxRecDepth 20000 in
theorem kw_2100 : Cond.methodLink RL 186 yX12_chainAt ∈ uT := uT_in3 tb_9 42 rfl rfl
set_option maxRecDepth 20000 in
theorem kw_2101 : Cond.instanceMethod yX12_chainAt ∈ uT := uT_in3 tb_9 43 rfl rfl
set_option maxRecDepth 20000 in
theorem kw_2102 : Cond.selects RX12 yX12_chainAt yX12_chainAt ∈ uT := uT_in3 tb_9 44 rfl rfl
set_option maxRecDepth 20000 in
theorem kw_2103 : Cond.code yX12_chainAt cX12_chainAt 2 (some FieldType.int) ∈ uT := uT_in3 tb_9 45 rfl rfl
set_option maxRecDepth 20000 in
theorem kw_2104 : Cond.methodLink RL 190 yX12_witness ∈ uT := uT_in3 tb_9 46 rfl rfl
set_option maxRecDepth 20000 in
theorem kw_2105 : Cond.instanceMethod yX12_witness ∈ uT := uT_in3 tb_9 47 rfl rfl
set_option maxRecDepth 20000 in
theorem kw_2106 : Cond.selects RX12 yX12_witness yX12_witness ∈ uT := uT_in3 tb_9 48 rfl rfl
set_option maxRecDepth 20000 in
theorem kw_2107 : Cond.code yX12_witness cX12_witness 4 (some FieldType.int) ∈ uT := uT_in3 tb_9 49 rfl rfl
set_option maxRecDepth 20000 in
theorem kw_2108 : Cond.methodLink RX12 429 yX12_bits ∈ uT := uT_in3 tb_9 50 rfl rfl
set_option maxRecDepth 20000 in
theorem kw_2109 : Cond.static yX12_bits ∈ uT := uT_in3 tb_9 51 rfl rfl
set_option maxRecDepth 20000 in
theorem kw_2110 : Cond.code yX12_bits cX12_bits 3 (some FieldType.int) ∈ uT := uT_in3 tb_9 52 rfl rfl
set_option maxRecDepth 20000 in
theorem kw_2111 : Cond.methodLink RL 162 yX12_merged ∈ uT := uT_in3 tb_9 53 rfl rfl
set_option maxRecDepth 20000 in
theorem kw_2112 : Cond.instanceMethod yX12_merged ∈ uT := uT_in3 tb_9 54 rfl rfl
set_option maxRecDepth 20000 in
theorem kw_2113 : Cond.selects RX12 yX12_merged yX12_merged ∈ uT := uT_in3 tb_9 55 rfl rfl
set_option maxRecDepth 20000 in
theorem kw_2114 : Cond.code yX12_merged cX12_merged 3 (some FieldType.int) ∈ uT := uT_in3 tb_9 56 rfl rfl
set_option maxRecDepth 20000 in
theorem kw_2115 : Cond.methodLink RX12 447 yX12_isOwn ∈ uT := uT_in3 tb_9 57 rfl rfl
set_option maxRecDepth 20000 in
theorem kw_2117 : Cond.instanceMethod yX12_isOwn ∈ uT := uT_in3 tb_9 59 rfl rfl
set_option maxRecDepth 20000 in
theorem kw_2118 : Cond.code yX12_isOwn cX12_isOwn 4 (some FieldType.boolean) ∈ uT := uT_in3 tb_9 60 rfl rfl
set_option maxRecDepth 20000 in
theorem kw_2119 : Cond.methodLink RX12 432 yX12_standsIn ∈ uT := uT_in3 tb_9 61 rfl rfl
set_option maxRecDepth 20000 in
theorem kw_2121 : Cond.instanceMethod yX12_standsIn ∈ uT := uT_in3 tb_9 63 rfl rfl
set_option maxRecDepth 20000 in
theorem kw_2122 : Cond.code yX12_standsIn cX12_standsIn 7 (some FieldType.boolean) ∈ uT := uT_in3 tb_9 64 rfl rfl
set_option maxRecDepth 20000 in
theorem kw_2123 : Cond.methodLink RX12 444 yX12_mergeFrom ∈ uT := uT_in3 tb_9 65 rfl rfl
set_option maxRecDepth 20000 in
theorem kw_2125 : Cond.instanceMethod yX12_mergeFrom ∈ uT := uT_in3 tb_9 67 rfl rfl
set_option maxRecDepth 20000 in
theorem kw_2126 : Cond.code yX12_mergeFrom cX12_mergeFrom 8 (none : Option FieldType) ∈ uT := uT_in3 tb_9 68 rfl rfl
set_option maxRecDepth 20000 in
theorem kw_2127 : Cond.methodLink RX12 441 yX12_isLess ∈ uT := uT_in3 tb_9 69 rfl rfl
set_option maxRecDepth 20000 in
theorem kw_2129 : Cond.instanceMethod yX12_isLess ∈ uT := uT_in3 tb_9 71 rfl rfl
set_option maxRecDepth 20000 in
theorem kw_2130 : Cond.code yX12_isLess cX12_isLess 3 (some FieldType.boolean) ∈ uT := uT_in3 tb_9 72 rfl rfl
set_option maxRecDepth 20000 in
theorem kw_2131 : Cond.methodLink RL 166 yX12_mergedAt ∈ uT := uT_in3 tb_9 73 rfl rfl
set_option maxRecDepth 20000 in
theorem kw_2132 : Cond.instanceMethod yX12_mergedAt ∈ uT := uT_in3 tb_9 74 rfl rfl
set_option maxRecDepth 20000 in
theorem kw_2133 : Cond.selects RX12 yX12_mergedAt yX12_mergedAt ∈ uT := uT_in3 tb_9 75 rfl rfl
set_option maxRecDepth 20000 in
theorem kw_2134 : Cond.code yX12_mergedAt cX12_mergedAt 2 (some FieldType.int) ∈ uT := uT_in3 tb_9 76 rfl rfl
set_option maxRecDepth 20000 in
theorem kw_2135 : Cond.methodLink RL 198 yX12_keeps ∈ uT := uT_in3 tb_9 77 rfl rfl
set_option maxRecDepth 20000 in
theorem kw_2136 : Cond.instanceMethod yX12_keeps ∈ uT := uT_in3 tb_9 78 rfl rfl
set_option maxRecDepth 20000 in
theorem kw_2137 : Cond.selects RX12 yX12_keeps yX12_keeps ∈ uT := uT_in3 tb_9 79 rfl rfl
set_option maxRecDepth 20000 in
theorem kw_2138 : Cond.code yX12_keeps cX12_keeps 3 (some FieldType.int) ∈ uT := uT_in3 tb_9 80 rfl rfl
set_option maxRecDepth 20000 in
theorem kw_2139 : Cond.methodLink RX12 453 yX12_keepsOf ∈ uT := uT_in3 tb_9 81 rfl rfl
set_option maxRecDepth 20000 in
theorem kw_2141 : Cond.instanceMethod yX12_keepsOf ∈ uT := uT_in3 tb_9 83 rfl rfl
set_option maxRecDepth 20000 in
theorem kw_2142 : Cond.code yX12_keepsOf cX12_keepsOf 3 (some FieldType.int) ∈ uT := uT_in3 tb_9 84 rfl rfl
set_option maxRecDepth 20000 in
theorem kw_2143 : Cond.methodLink RL 202 yX12_fewest ∈ uT := uT_in3 tb_9 85 rfl rfl
set_option maxRecDepth 20000 in
theorem kw_2144 : Cond.instanceMethod yX12_fewest ∈ uT := uT_in3 tb_9 86 rfl rfl
set_option maxRecDepth 20000 in
theorem kw_2145 : Cond.selects RX12 yX12_fewest yX12_fewest ∈ uT := uT_in3 tb_9 87 rfl rfl
set_option maxRecDepth 20000 in
theorem kw_2146 : Cond.code yX12_fewest cX12_fewest 5 (some FieldType.int) ∈ uT := uT_in3 tb_9 88 rfl rfl
set_option maxRecDepth 20000 in
theorem kw_2147 : Cond.methodLink RX12 456 yX12_keptBy ∈ uT := uT_in3 tb_9 89 rfl rfl
set_option maxRecDepth 20000 in
theorem kw_2149 : Cond.instanceMethod yX12_keptBy ∈ uT := uT_in3 tb_9 91 rfl rfl
set_option maxRecDepth 20000 in
theorem kw_2150 : Cond.code yX12_keptBy cX12_keptBy 5 (some FieldType.int) ∈ uT := uT_in3 tb_9 92 rfl rfl
set_option maxRecDepth 20000 in
theorem kw_2151 : Cond.methodLink RL 206 yX12_cheapest ∈ uT := uT_in3 tb_9 93 rfl rfl
set_option maxRecDepth 20000 in
theorem kw_2152 : Cond.instanceMethod yX12_cheapest ∈ uT := uT_in3 tb_9 94 rfl rfl
set_option maxRecDepth 20000 in
theorem kw_2153 : Cond.selects RX12 yX12_cheapest yX12_cheapest ∈ uT := uT_in3 tb_9 95 rfl rfl
set_option maxRecDepth 20000 in
theorem kw_2154 : Cond.code yX12_cheapest cX12_cheapest 6 (some FieldType.int) ∈ uT := uT_in3 tb_9 96 rfl rfl
set_option maxRecDepth 20000 in
theorem kw_2155 : Cond.methodLink RX12 459 yX12_costOf ∈ uT := uT_in3 tb_9 97 rfl rfl
set_option maxRecDepth 20000 in
theorem kw_2157 : Cond.instanceMethod yX12_costOf ∈ uT := uT_in3 tb_9 99 rfl rfl
set_option maxRecDepth 20000 in
theorem kw_2158 : Cond.code yX12_costOf cX12_costOf 4 (some FieldType.int) ∈ uT := uT_in3 tb_9 100 rfl rfl
set_option maxRecDepth 20000 in
theorem kw_2159 : Cond.methodLink RL 194 yX12_fillFrom ∈ uT := uT_in3 tb_9 101 rfl rfl
set_option maxRecDepth 20000 in
theorem kw_2160 : Cond.instanceMethod yX12_fillFrom ∈ uT := uT_in3 tb_9 102 rfl rfl
set_option maxRecDepth 20000 in
theorem kw_2161 : Cond.selects RX12 yX12_fillFrom yX12_fillFrom ∈ uT := uT_in3 tb_9 103 rfl rfl
set_option maxRecDepth 20000 in
theorem kw_2162 : Cond.code yX12_fillFrom cX12_fillFrom 15 (some FieldType.int) ∈ uT := uT_in3 tb_9 104 rfl rfl
set_option maxRecDepth 20000 in
theorem kw_2163 : Cond.methodLink RL 210 yX12_shelf ∈ uT := uT_in3 tb_9 105 rfl rfl
set_option maxRecDepth 20000 in
theorem kw_2164 : Cond.instanceMethod yX12_shelf ∈ uT := uT_in3 tb_9 106 rfl rfl
set_option maxRecDepth 20000 in
theorem kw_2165 : Cond.selects RX12 yX12_shelf yX12_shelf ∈ uT := uT_in3 tb_9 107 rfl rfl
set_option maxRecDepth 20000 in
theorem kw_2166 : Cond.code yX12_shelf cX12_shelf 4 (some FieldType.int) ∈ uT := uT_in3 tb_9 108 rfl rfl
set_option maxRecDepth 20000 in
theorem kw_2167 : Cond.methodLink RX12 462 yX12_worthOn ∈ uT := uT_in3 tb_9 109 rfl rfl
set_option maxRecDepth 20000 in
theorem kw_2169 : Cond.instanceMethod yX12_worthOn ∈ uT := uT_in3 tb_9 111 rfl rfl
set_option maxRecDepth 20000 in
theorem kw_2170 : Cond.code yX12_worthOn cX12_worthOn 3 (some FieldType.int) ∈ uT := uT_in3 tb_9 112 rfl rfl
set_option maxRecDepth 20000 in
theorem kw_2171 : Cond.methodLink RL 214 yX12_shelfAt ∈ uT := uT_in3 tb_9 113 rfl rfl
set_option maxRecDepth 20000 in
theorem kw_2172 : Cond.instanceMethod yX12_shelfAt ∈ uT := uT_in3 tb_9 114 rfl rfl
set_option maxRecDepth 20000 in
theorem kw_2173 : Cond.selects RX12 yX12_shelfAt yX12_shelfAt ∈ uT := uT_in3 tb_9 115 rfl rfl
set_option maxRecDepth 20000 in
theorem kw_2174 : Cond.code yX12_shelfAt cX12_shelfAt 2 (some FieldType.int) ∈ uT := uT_in3 tb_9 116 rfl rfl
set_option maxRecDepth 20000 in
theorem kw_2175 : Cond.methodLink RL 218 yX12_pieced ∈ uT := uT_in3 tb_9 117 rfl rfl
set_option maxRecDepth 20000 in
theorem kw_2176 : Cond.instanceMethod yX12_pieced ∈ uT := uT_in3 tb_9 118 rfl rfl
set_option maxRecDepth 20000 in
theorem kw_2177 : Cond.selects RX12 yX12_pieced yX12_pieced ∈ uT := uT_in3 tb_9 119 rfl rfl
set_option maxRecDepth 20000 in
theorem kw_2178 : Cond.code yX12_pieced cX12_pieced 7 (some FieldType.int) ∈ uT := uT_in3 tb_9 120 rfl rfl
set_option maxRecDepth 20000 in
theorem kw_2179 : Cond.methodLink RX12 468 yX12_isHeard ∈ uT := uT_in3 tb_9 121 rfl rfl
set_option maxRecDepth 20000 in
theorem kw_2181 : Cond.instanceMethod yX12_isHeard ∈ uT := uT_in3 tb_9 123 rfl rfl
set_option maxRecDepth 20000 in
theorem kw_2182 : Cond.code yX12_isHeard cX12_isHeard 8 (some FieldType.boolean) ∈ uT := uT_in3 tb_9 124 rfl rfl
set_option maxRecDepth 20000 in
theorem kw_2183 : Cond.methodLink RX12 472 yX12_isVowel ∈ uT := uT_in3 tb_9 125 rfl rfl
set_option maxRecDepth 20000 in
theorem kw_2184 : Cond.static yX12_isVowel ∈ uT := uT_in3 tb_9 126 rfl rfl
set_option maxRecDepth 20000 in
theorem kw_2185 : Cond.code yX12_isVowel cX12_isVowel 1 (some FieldType.boolean) ∈ uT := uT_in3 tb_9 127 rfl rfl
set_option maxRecDepth 20000 in
theorem kw_2186 : Cond.methodLink RL 222 yX12_road ∈ uT := uT_in3 tb_9 128 rfl rfl
set_option maxRecDepth 20000 in
theorem kw_2187 : Cond.instanceMethod yX12_road ∈ uT := uT_in3 tb_9 129 rfl rfl
set_option maxRecDepth 20000 in
theorem kw_2188 : Cond.selects RX12 yX12_road yX12_road ∈ uT := uT_in3 tb_9 130 rfl rfl
set_option maxRecDepth 20000 in
theorem kw_2189 : Cond.code yX12_road cX12_road 5 (some FieldType.int) ∈ uT := uT_in3 tb_9 131 rfl rfl
set_option maxRecDepth 20000 in
theorem kw_2190 : Cond.constantLong RX12 482 (Int64.ofInt (30)) ∈ uT := uT_in3 tb_9 132 rfl rfl
set_option maxRecDepth 20000 in
theorem kw_2191 : Cond.methodLink RX12 484 yX12_wholeBehind ∈ uT := uT_in3 tb_9 133 rfl rfl
set_option maxRecDepth 20000 in
theorem kw_2193 : Cond.instanceMethod yX12_wholeBehind ∈ uT := uT_in3 tb_9 135 rfl rfl
set_option maxRecDepth 20000 in
theorem kw_2194 : Cond.code yX12_wholeBehind cX12_wholeBehind 6 (some FieldType.int) ∈ uT := uT_in3 tb_9 136 rfl rfl
set_option maxRecDepth 20000 in
theorem kw_2195 : Cond.methodLink RX12 479 yX12_draw ∈ uT := uT_in3 tb_9 137 rfl rfl
set_option maxRecDepth 20000 in
theorem kw_2197 : Cond.instanceMethod yX12_draw ∈ uT := uT_in3 tb_9 139 rfl rfl
set_option maxRecDepth 20000 in
theorem kw_2198 : Cond.code yX12_draw cX12_draw 1 (some FieldType.int) ∈ uT := uT_in3 tb_9 140 rfl rfl
set_option maxRecDepth 20000 in
theorem kw_2199 : Cond.constant RX12 478 (Int32.ofInt (65536)) ∈ uT := uT_in3 tb_9 141 rfl rfl
set_option maxRecDepth 20000 in
theorem kw_2200 : Cond.methodLink RL 226 yX12_brokeOn ∈ uT := uT_in3 tb_9 142 rfl rfl
set_option maxRecDepth 20000 in
theorem kw_2201 : Cond.instanceMethod yX12_brokeOn ∈ uT := uT_in3 tb_9 143 rfl rfl
set_option maxRecDepth 20000 in
theorem kw_2202 : Cond.selects RX12 yX12_brokeOn yX12_brokeOn ∈ uT := uT_in3 tb_9 144 rfl rfl
set_option maxRecDepth 20000 in
theorem kw_2203 : Cond.code yX12_brokeOn cX12_brokeOn 2 (some FieldType.int) ∈ uT := uT_in3 tb_9 145 rfl rfl
set_option maxRecDepth 20000 in
theorem kw_2204 : Cond.methodLink RL 231 yX12_odds ∈ uT := uT_in3 tb_9 146 rfl rfl
set_option maxRecDepth 20000 in
theorem kw_2205 : Cond.instanceMethod yX12_odds ∈ uT := uT_in3 tb_9 147 rfl rfl
set_option maxRecDepth 20000 in
theorem kw_2206 : Cond.selects RX12 yX12_odds yX12_odds ∈ uT := uT_in3 tb_9 148 rfl rfl
set_option maxRecDepth 20000 in
theorem kw_2207 : Cond.code yX12_odds cX12_odds 10 (some FieldType.boolean) ∈ uT := uT_in3 tb_9 149 rfl rfl
set_option maxRecDepth 20000 in
theorem kw_2208 : Cond.constantLong RX12 487 (Int64.ofInt (20)) ∈ uT := uT_in3 tb_9 150 rfl rfl
set_option maxRecDepth 20000 in
theorem kw_2209 : Cond.methodLink RX12 489 yX12_fraction ∈ uT := uT_in3 tb_9 151 rfl rfl
set_option maxRecDepth 20000 in
theorem kw_2211 : Cond.instanceMethod yX12_fraction ∈ uT := uT_in3 tb_9 153 rfl rfl
set_option maxRecDepth 20000 in
theorem kw_2212 : Cond.code yX12_fraction cX12_fraction 11 (some FieldType.boolean) ∈ uT := uT_in3 tb_9 154 rfl rfl
set_option maxRecDepth 20000 in
theorem kw_2213 : Cond.methodLink RX12 98 Lib.MathLoose.abs_long.x ∈ uT := uT_in3 tb_9 155 rfl rfl
set_option maxRecDepth 20000 in
theorem kw_2214 : Cond.static Lib.MathLoose.abs_long.x ∈ uT := uT_in3 tb_9 156 rfl rfl
set_option maxRecDepth 20000 in
theorem kw_2215 : Cond.code Lib.MathLoose.abs_long.x Lib.MathLoose.abs_long.code 2 (some .long) ∈ uT := uT_in3 tb_9 157 rfl rfl
set_option maxRecDepth 20000 in
theorem kw_2216 : Cond.methodLink RL 235 yX12_safe ∈ uT := uT_in3 tb_9 158 rfl rfl
set_option maxRecDepth 20000 in
theorem kw_2217 : Cond.instanceMethod yX12_safe ∈ uT := uT_in3 tb_9 159 rfl rfl
set_option maxRecDepth 20000 in
theorem kw_2218 : Cond.selects RX12 yX12_safe yX12_safe ∈ uT := uT_in3 tb_9 160 rfl rfl
set_option maxRecDepth 20000 in
theorem kw_2219 : Cond.code yX12_safe cX12_safe 8 (some FieldType.boolean) ∈ uT := uT_in3 tb_9 161 rfl rfl
set_option maxRecDepth 20000 in
theorem kw_2220 : Cond.constantLong RX12 493 (Int64.ofInt (5)) ∈ uT := uT_in3 tb_9 162 rfl rfl
set_option maxRecDepth 20000 in
theorem kw_2221 : Cond.constantLong RX12 495 (Int64.ofInt (16)) ∈ uT := uT_in3 tb_9 163 rfl rfl
set_option maxRecDepth 20000 in
theorem kw_2222 : Cond.methodLink RX12 497 yX12_power ∈ uT := uT_in3 tb_9 164 rfl rfl
set_option maxRecDepth 20000 in
theorem kw_2223 : Cond.static yX12_power ∈ uT := uT_in3 tb_9 165 rfl rfl
set_option maxRecDepth 20000 in
theorem kw_2224 : Cond.code yX12_power cX12_power 6 (some FieldType.long) ∈ uT := uT_in3 tb_9 166 rfl rfl
set_option maxRecDepth 20000 in
theorem kw_2225 : Cond.methodLink RL 239 yX12_third ∈ uT := uT_in3 tb_9 167 rfl rfl
set_option maxRecDepth 20000 in
theorem kw_2226 : Cond.instanceMethod yX12_third ∈ uT := uT_in3 tb_9 168 rfl rfl
set_option maxRecDepth 20000 in
theorem kw_2227 : Cond.selects RX12 yX12_third yX12_third ∈ uT := uT_in3 tb_9 169 rfl rfl
set_option maxRecDepth 20000 in
theorem kw_2228 : Cond.code yX12_third cX12_third 6 (some FieldType.boolean) ∈ uT := uT_in3 tb_9 170 rfl rfl
set_option maxRecDepth 20000 in
theorem kw_2229 : Cond.methodLink RX12 501 yX12_reads ∈ uT := uT_in3 tb_9 171 rfl rfl
set_option maxRecDepth 20000 in
theorem kw_2231 : Cond.instanceMethod yX12_reads ∈ uT := uT_in3 tb_9 173 rfl rfl
set_option maxRecDepth 20000 in
theorem kw_2232 : Cond.code yX12_reads cX12_reads 6 (some FieldType.int) ∈ uT := uT_in3 tb_9 174 rfl rfl
set_option maxRecDepth 20000 in
theorem kw_2233 : Cond.methodLink RL 243 yX12_second ∈ uT := uT_in3 tb_9 175 rfl rfl
set_option maxRecDepth 20000 in
theorem kw_2234 : Cond.instanceMethod yX12_second ∈ uT := uT_in3 tb_9 176 rfl rfl
set_option maxRecDepth 20000 in
theorem kw_2235 : Cond.selects RX12 yX12_second yX12_second ∈ uT := uT_in3 tb_9 177 rfl rfl
set_option maxRecDepth 20000 in
theorem kw_2236 : Cond.code yX12_second cX12_second 6 (some FieldType.boolean) ∈ uT := uT_in3 tb_9 178 rfl rfl
set_option maxRecDepth 20000 in
theorem kw_2237 : Cond.methodLink RL 247 yX12_anyTwo ∈ uT := uT_in3 tb_9 179 rfl rfl
set_option maxRecDepth 20000 in
theorem kw_2238 : Cond.instanceMethod yX12_anyTwo ∈ uT := uT_in3 tb_9 180 rfl rfl
set_option maxRecDepth 20000 in
theorem kw_2239 : Cond.selects RX12 yX12_anyTwo yX12_anyTwo ∈ uT := uT_in3 tb_9 181 rfl rfl
set_option maxRecDepth 20000 in
theorem kw_2240 : Cond.code yX12_anyTwo cX12_anyTwo 6 (some FieldType.int) ∈ uT := uT_in3 tb_9 182 rfl rfl
set_option maxRecDepth 20000 in
theorem kw_2241 : Cond.methodLink RL 251 yX12_mark ∈ uT := uT_in3 tb_9 183 rfl rfl
set_option maxRecDepth 20000 in
theorem kw_2242 : Cond.instanceMethod yX12_mark ∈ uT := uT_in3 tb_9 184 rfl rfl
set_option maxRecDepth 20000 in
theorem kw_2243 : Cond.selects RX12 yX12_mark yX12_mark ∈ uT := uT_in3 tb_9 185 rfl rfl
set_option maxRecDepth 20000 in
theorem kw_2244 : Cond.code yX12_mark cX12_mark 1 (some FieldType.int) ∈ uT := uT_in3 tb_9 186 rfl rfl
set_option maxRecDepth 20000 in
theorem kw_2245 : Cond.methodLink RX12 508 yX12_copy ∈ uT := uT_in3 tb_9 187 rfl rfl
set_option maxRecDepth 20000 in
theorem kw_2247 : Cond.instanceMethod yX12_copy ∈ uT := uT_in3 tb_9 189 rfl rfl
set_option maxRecDepth 20000 in
theorem kw_2248 : Cond.code yX12_copy cX12_copy 4 (none : Option FieldType) ∈ uT := uT_in3 tb_9 190 rfl rfl
set_option maxRecDepth 20000 in
theorem kw_2249 : Cond.methodLink RL 255 yX12_back ∈ uT := uT_in3 tb_9 191 rfl rfl
set_option maxRecDepth 20000 in
theorem kw_2250 : Cond.instanceMethod yX12_back ∈ uT := uT_in3 tb_9 192 rfl rfl
set_option maxRecDepth 20000 in
theorem kw_2251 : Cond.selects RX12 yX12_back yX12_back ∈ uT := uT_in3 tb_9 193 rfl rfl
set_option maxRecDepth 20000 in
theorem kw_2252 : Cond.code yX12_back cX12_back 1 (some FieldType.int) ∈ uT := uT_in3 tb_9 194 rfl rfl
set_option maxRecDepth 20000 in
theorem kw_2253 : Cond.constantLong RL 32 (Int64.ofInt (4294967295)) ∈ uT := uT_in3 tb_9 195 rfl rfl
set_option maxRecDepth 20000 in
theorem kw_2254 : Cond.fieldLink RJ0 9 RJ0 "value" "[B" ∈ uT := uT_in3 tb_9 196 rfl rfl
set_option maxRecDepth 20000 in
theorem kw_2255 : Cond.fieldLink RJ0 15 RJ0 "coder" "B" ∈ uT := uT_in3 tb_9 197 rfl rfl
theorem nx_RX11 : RX11 ≠ "java/lang/invoke/MethodHandle" ∧ RX11 ≠ "java/lang/invoke/VarHandle" := ⟨by decide +kernel, by decide +kernel⟩
theorem nx_RX4 : RX4 ≠ "java/lang/invoke/MethodHandle" ∧ RX4 ≠ "java/lang/invoke/VarHandle" := ⟨by decide +kernel, by decide +kernel⟩
theorem nx_RX0 : RX0 ≠ "java/lang/invoke/MethodHandle" ∧ RX0 ≠ "java/lang/invoke/VarHandle" := ⟨by decide +kernel, by decide +kernel⟩
theorem nx_RX7 : RX7 ≠ "java/lang/invoke/MethodHandle" ∧ RX7 ≠ "java/lang/invoke/VarHandle" := ⟨by decide +kernel, by decide +kernel⟩
theorem nx_RJ3 : RJ3 ≠ "java/lang/invoke/MethodHandle" ∧ RJ3 ≠ "java/lang/invoke/VarHandle" := ⟨by decide +kernel, by decide +kernel⟩
theorem nx_RJ0 : RJ0 ≠ "java/lang/invoke/MethodHandle" ∧ RJ0 ≠ "java/lang/invoke/VarHandle" := ⟨by decide +kernel, by decide +kernel⟩
theorem nx_RL : RL ≠ "java/lang/invoke/MethodHandle" ∧ RL ≠ "java/lang/invoke/VarHandle" := ⟨by decide +kernel, by decide +kernel⟩
theorem nx_RJ6 : RJ6 ≠ "java/lang/invoke/MethodHandle" ∧ RJ6 ≠ "java/lang/invoke/VarHandle" := ⟨by decide +kernel, by decide +kernel⟩
theorem nx_RX2 : RX2 ≠ "java/lang/invoke/MethodHandle" ∧ RX2 ≠ "java/lang/invoke/VarHandle" := ⟨by decide +kernel, by decide +kernel⟩
theorem nx_RJ2 : RJ2 ≠ "java/lang/invoke/MethodHandle" ∧ RJ2 ≠ "java/lang/invoke/VarHandle" := ⟨by decide +kernel, by decide +kernel⟩
theorem nx_RJ1 : RJ1 ≠ "java/lang/invoke/MethodHandle" ∧ RJ1 ≠ "java/lang/invoke/VarHandle" := ⟨by decide +kernel, by decide +kernel⟩
theorem nx_RX8 : RX8 ≠ "java/lang/invoke/MethodHandle" ∧ RX8 ≠ "java/lang/invoke/VarHandle" := ⟨by decide +kernel, by decide +kernel⟩
theorem nx_RX5 : RX5 ≠ "java/lang/invoke/MethodHandle" ∧ RX5 ≠ "java/lang/invoke/VarHandle" := ⟨by decide +kernel, by decide +kernel⟩
theorem nx_RJ10 : RJ10 ≠ "java/lang/invoke/MethodHandle" ∧ RJ10 ≠ "java/lang/invoke/VarHandle" := ⟨by decide +kernel, by decide +kernel⟩
theorem nx_RX10 : RX10 ≠ "java/lang/invoke/MethodHandle" ∧ RX10 ≠ "java/lang/invoke/VarHandle" := ⟨by decide +kernel, by decide +kernel⟩
theorem nx_RX6 : RX6 ≠ "java/lang/invoke/MethodHandle" ∧ RX6 ≠ "java/lang/invoke/VarHandle" := ⟨by decide +kernel, by decide +kernel⟩
theorem nx_RJ9 : RJ9 ≠ "java/lang/invoke/MethodHandle" ∧ RJ9 ≠ "java/lang/invoke/VarHandle" := ⟨by decide +kernel, by decide +kernel⟩
theorem nx_RX12 : RX12 ≠ "java/lang/invoke/MethodHandle" ∧ RX12 ≠ "java/lang/invoke/VarHandle" := ⟨by decide +kernel, by decide +kernel⟩
theorem nx_RX3 : RX3 ≠ "java/lang/invoke/MethodHandle" ∧ RX3 ≠ "java/lang/invoke/VarHandle" := ⟨by decide +kernel, by decide +kernel⟩
theorem nx_RX1 : RX1 ≠ "java/lang/invoke/MethodHandle" ∧ RX1 ≠ "java/lang/invoke/VarHandle" := ⟨by decide +kernel, by decide +kernel⟩
theorem nx_RX9 : RX9 ≠ "java/lang/invoke/MethodHandle" ∧ RX9 ≠ "java/lang/invoke/VarHandle" := ⟨by decide +kernel, by decide +kernel⟩
theorem mw_yX11_init : mw yX11_init cX11_init 2 (none : Option FieldType) 0 := ⟨kw_163, kw_139, nx_RX11, by decide +kernel⟩
theorem mw_yX10_init : mw yX10_init cX10_init 1 (none : Option FieldType) 0 := ⟨kw_172, kw_140, nx_RX10, by decide +kernel⟩
theorem mw_yX9_init : mw yX9_init cX9_init 1 (none : Option FieldType) 0 := ⟨kw_192, kw_141, nx_RX9, by decide +kernel⟩
theorem mw_yX8_init : mw yX8_init cX8_init 2 (none : Option FieldType) 1 := ⟨kw_228, kw_142, nx_RX8, by decide +kernel⟩
theorem mw_yX7_init : mw yX7_init cX7_init 2 (none : Option FieldType) 0 := ⟨kw_234, kw_143, nx_RX7, by decide +kernel⟩
theorem mw_yX6_init : mw yX6_init cX6_init 2 (none : Option FieldType) 1 := ⟨kw_243, kw_144, nx_RX6, by decide +kernel⟩
theorem mw_yX0_init : mw yX0_init cX0_init 1 (none : Option FieldType) 0 := ⟨kw_266, kw_145, nx_RX0, by decide +kernel⟩
theorem mw_yX2_init : mw yX2_init cX2_init 2 (none : Option FieldType) 1 := ⟨kw_362, kw_146, nx_RX2, by decide +kernel⟩
theorem mw_yX1_init : mw yX1_init cX1_init 1 (none : Option FieldType) 0 := ⟨kw_374, kw_147, nx_RX1, by decide +kernel⟩
theorem mw_yX3_init : mw yX3_init cX3_init 3 (none : Option FieldType) 2 := ⟨kw_396, kw_148, nx_RX3, by decide +kernel⟩
theorem mw_yX4_init : mw yX4_init cX4_init 2 (none : Option FieldType) 0 := ⟨kw_416, kw_149, nx_RX4, by decide +kernel⟩
theorem mw_yX5_init : mw yX5_init cX5_init 1 (none : Option FieldType) 0 := ⟨kw_454, kw_150, nx_RX5, by decide +kernel⟩
theorem mw_yX11_status : mw yX11_status cX11_status 1 (some FieldType.int) 0 := ⟨kw_540, kw_139, nx_RX11, by decide +kernel⟩
theorem mw_yX11_top : mw yX11_top cX11_top 1 (some FieldType.long) 0 := ⟨kw_544, kw_139, nx_RX11, by decide +kernel⟩
theorem mw_yX11_bottom : mw yX11_bottom cX11_bottom 1 (some FieldType.long) 0 := ⟨kw_548, kw_139, nx_RX11, by decide +kernel⟩
theorem mw_yX11_tray : mw yX11_tray cX11_tray 4 (some FieldType.boolean) 3 := ⟨kw_552, kw_139, nx_RX11, by decide +kernel⟩
theorem mw_yX11_isTray : mw yX11_isTray cX11_isTray 1 (some FieldType.boolean) 1 := ⟨kw_555, kw_139, nx_RX11, by decide +kernel⟩
theorem mw_yX11_within : mw yX11_within cX11_within 6 (some FieldType.boolean) 3 := ⟨kw_559, kw_139, nx_RX11, by decide +kernel⟩
theorem mw_yX11_deny : mw yX11_deny cX11_deny 2 (some FieldType.boolean) 1 := ⟨kw_563, kw_139, nx_RX11, by decide +kernel⟩
theorem mw_yX10_lay : mw yX10_lay cX10_lay 4 (none : Option FieldType) 2 := ⟨kw_567, kw_140, nx_RX10, by decide +kernel⟩
theorem mw_yX11_allow : mw yX11_allow cX11_allow 1 (some FieldType.boolean) 0 := ⟨kw_574, kw_139, nx_RX11, by decide +kernel⟩
theorem mw_yX11_write : mw yX11_write cX11_write 6 (some FieldType.boolean) 3 := ⟨kw_578, kw_139, nx_RX11, by decide +kernel⟩
theorem mw_yX11_placeReason : mw yX11_placeReason cX11_placeReason 3 (some FieldType.int) 2 := ⟨kw_582, kw_139, nx_RX11, by decide +kernel⟩
theorem mw_yX10_isMissing : mw yX10_isMissing cX10_isMissing 1 (some FieldType.boolean) 0 := ⟨kw_586, kw_140, nx_RX10, by decide +kernel⟩
theorem mw_yX10_hasRun : mw yX10_hasRun cX10_hasRun 3 (some FieldType.boolean) 2 := ⟨kw_590, kw_140, nx_RX10, by decide +kernel⟩
theorem mw_yX10_put : mw yX10_put cX10_put 4 (none : Option FieldType) 2 := ⟨kw_594, kw_140, nx_RX10, by decide +kernel⟩
theorem mw_yX10_cut : mw yX10_cut cX10_cut 3 (some FieldType.long) 1 := ⟨kw_599, kw_140, nx_RX10, by decide +kernel⟩
theorem mw_yX11_read : mw yX11_read cX11_read 4 (some FieldType.long) 2 := ⟨kw_603, kw_139, nx_RX11, by decide +kernel⟩
theorem mw_yX11_refuse : mw yX11_refuse cX11_refuse 2 (some FieldType.int) 1 := ⟨kw_607, kw_139, nx_RX11, by decide +kernel⟩
theorem mw_yX10_get : mw yX10_get cX10_get 2 (some FieldType.long) 1 := ⟨kw_611, kw_140, nx_RX10, by decide +kernel⟩
theorem mw_yX11_pour : mw yX11_pour cX11_pour 8 (some FieldType.boolean) 5 := ⟨kw_616, kw_139, nx_RX11, by decide +kernel⟩
theorem mw_yX11_feed : mw yX11_feed cX11_feed 6 (some FieldType.int) 5 := ⟨kw_623, kw_139, nx_RX11, by decide +kernel⟩
theorem mw_yX9_hasRoomFor : mw yX9_hasRoomFor cX9_hasRoomFor 2 (some FieldType.boolean) 1 := ⟨kw_627, kw_141, nx_RX9, by decide +kernel⟩
theorem mw_yX9_addInt : mw yX9_addInt cX9_addInt 3 (none : Option FieldType) 1 := ⟨kw_631, kw_141, nx_RX9, by decide +kernel⟩
theorem mw_yX11_shop : mw yX11_shop cX11_shop 4 (some FieldType.int) 1 := ⟨kw_635, kw_139, nx_RX11, by decide +kernel⟩
theorem mw_yX8_readShop : mw yX8_readShop cX8_readShop 3 (some (FieldType.object "EchoJars$Shop")) 1 := ⟨kw_639, kw_142, nx_RX8, by decide +kernel⟩
theorem mw_yX9_open : mw yX9_open cX9_open 2 (none : Option FieldType) 1 := ⟨kw_643, kw_141, nx_RX9, by decide +kernel⟩
theorem mw_yX9_next : mw yX9_next cX9_next 1 (none : Option FieldType) 0 := ⟨kw_648, kw_141, nx_RX9, by decide +kernel⟩
theorem mw_yX9_isBlank : mw yX9_isBlank cX9_isBlank 1 (some FieldType.boolean) 1 := ⟨kw_651, kw_141, nx_RX9, by decide +kernel⟩
theorem mw_yX9_isSmallLetter : mw yX9_isSmallLetter cX9_isSmallLetter 1 (some FieldType.boolean) 1 := ⟨kw_654, kw_141, nx_RX9, by decide +kernel⟩
theorem mw_yX9_isDigit : mw yX9_isDigit cX9_isDigit 1 (some FieldType.boolean) 1 := ⟨kw_657, kw_141, nx_RX9, by decide +kernel⟩
theorem mw_yX9_size : mw yX9_size cX9_size 1 (some FieldType.int) 0 := ⟨kw_661, kw_141, nx_RX9, by decide +kernel⟩
theorem mw_yX9_hasFault : mw yX9_hasFault cX9_hasFault 1 (some FieldType.boolean) 0 := ⟨kw_665, kw_141, nx_RX9, by decide +kernel⟩
theorem mw_yX9_isAtEnd : mw yX9_isAtEnd cX9_isAtEnd 1 (some FieldType.boolean) 0 := ⟨kw_669, kw_141, nx_RX9, by decide +kernel⟩
theorem mw_yX9_isWord : mw yX9_isWord cX9_isWord 4 (some FieldType.boolean) 1 := ⟨kw_674, kw_141, nx_RX9, by decide +kernel⟩
theorem mw_yJ0_length_8abf5 : mw yJ0_length_8abf5 cJ0_length_8abf5 1 (some FieldType.int) 0 := ⟨kw_678, kw_154, nx_RJ0, by decide +kernel⟩
theorem mw_yJ0_coder_7d493 : mw yJ0_coder_7d493 cJ0_coder_7d493 1 (some FieldType.byte) 0 := ⟨kw_682, kw_154, nx_RJ0, by decide +kernel⟩
theorem mw_yX9_letterAt : mw yX9_letterAt cX9_letterAt 3 (some FieldType.int) 1 := ⟨kw_688, kw_141, nx_RX9, by decide +kernel⟩
theorem mw_yJ0_charAt_5068e : mw yJ0_charAt_5068e cJ0_charAt_5068e 2 (some FieldType.char) 1 := ⟨kw_692, kw_154, nx_RJ0, by decide +kernel⟩
theorem mw_yJ0_isLatin1_aae02 : mw yJ0_isLatin1_aae02 cJ0_isLatin1_aae02 1 (some FieldType.boolean) 0 := ⟨kw_696, kw_154, nx_RJ0, by decide +kernel⟩
theorem mw_yJ1_charAt_3b067 : mw yJ1_charAt_3b067 cJ1_charAt_3b067 2 (some FieldType.char) 2 := ⟨kw_699, kw_155, nx_RJ1, by decide +kernel⟩
theorem mw_yJ0_checkIndex_df160 : mw yJ0_checkIndex_df160 cJ0_checkIndex_df160 2 (none : Option FieldType) 2 := ⟨kw_702, kw_154, nx_RJ0, by decide +kernel⟩
theorem mw_yJ3_checkIndex_8e157 : mw yJ3_checkIndex_8e157 cJ3_checkIndex_8e157 3 (some FieldType.int) 3 := ⟨kw_707, kw_156, nx_RJ3, by decide +kernel⟩
theorem mw_yJ2_charAt_3b067 : mw yJ2_charAt_3b067 cJ2_charAt_3b067 2 (some FieldType.char) 2 := ⟨kw_710, kw_157, nx_RJ2, by decide +kernel⟩
theorem mw_yJ2_checkIndex_2214a : mw yJ2_checkIndex_2214a cJ2_checkIndex_2214a 2 (none : Option FieldType) 2 := ⟨kw_713, kw_157, nx_RJ2, by decide +kernel⟩
theorem mw_yJ2_length_9d52b : mw yJ2_length_9d52b cJ2_length_9d52b 1 (some FieldType.int) 1 := ⟨kw_716, kw_157, nx_RJ2, by decide +kernel⟩
theorem mw_yJ2_getChar_3b067 : mw yJ2_getChar_3b067 cJ2_getChar_3b067 2 (some FieldType.char) 2 := ⟨kw_720, kw_157, nx_RJ2, by decide +kernel⟩
theorem mw_yX8_readSound : mw yX8_readSound cX8_readSound 1 (none : Option FieldType) 0 := ⟨kw_730, kw_142, nx_RX8, by decide +kernel⟩
theorem mw_yX9_stop : mw yX9_stop cX9_stop 2 (none : Option FieldType) 1 := ⟨kw_734, kw_141, nx_RX9, by decide +kernel⟩
theorem mw_yX8_takeNewName : mw yX8_takeNewName cX8_takeNewName 4 (none : Option FieldType) 3 := ⟨kw_739, kw_142, nx_RX8, by decide +kernel⟩
theorem mw_yX9_isName : mw yX9_isName cX9_isName 2 (some FieldType.boolean) 0 := ⟨kw_743, kw_141, nx_RX9, by decide +kernel⟩
theorem mw_yX9_isWordUpTo : mw yX9_isWordUpTo cX9_isWordUpTo 2 (some FieldType.boolean) 1 := ⟨kw_769, kw_141, nx_RX9, by decide +kernel⟩
theorem mw_yX8_findName : mw yX8_findName cX8_findName 5 (some FieldType.int) 3 := ⟨kw_773, kw_142, nx_RX8, by decide +kernel⟩
theorem mw_yX9_isWordOf : mw yX9_isWordOf cX9_isWordOf 5 (some FieldType.boolean) 2 := ⟨kw_777, kw_141, nx_RX9, by decide +kernel⟩
theorem mw_yX8_takeLetters : mw yX8_takeLetters cX8_takeLetters 3 (none : Option FieldType) 1 := ⟨kw_782, kw_142, nx_RX8, by decide +kernel⟩
theorem mw_yX6_add : mw yX6_add cX6_add 2 (none : Option FieldType) 1 := ⟨kw_788, kw_144, nx_RX6, by decide +kernel⟩
theorem mw_yX9_takeSign : mw yX9_takeSign cX9_takeSign 1 (none : Option FieldType) 0 := ⟨kw_792, kw_141, nx_RX9, by decide +kernel⟩
theorem mw_yX8_readJar : mw yX8_readJar cX8_readJar 2 (none : Option FieldType) 0 := ⟨kw_798, kw_142, nx_RX8, by decide +kernel⟩
theorem mw_yX9_takeWord : mw yX9_takeWord cX9_takeWord 2 (none : Option FieldType) 1 := ⟨kw_803, kw_141, nx_RX9, by decide +kernel⟩
theorem mw_yX9_skipWord : mw yX9_skipWord cX9_skipWord 3 (some FieldType.boolean) 1 := ⟨kw_807, kw_141, nx_RX9, by decide +kernel⟩
theorem mw_yX9_takeNumber : mw yX9_takeNumber cX9_takeNumber 5 (some FieldType.int) 2 := ⟨kw_811, kw_141, nx_RX9, by decide +kernel⟩
theorem mw_yX8_takeSide : mw yX8_takeSide cX8_takeSide 3 (some FieldType.int) 0 := ⟨kw_817, kw_142, nx_RX8, by decide +kernel⟩
theorem mw_yX8_readFill : mw yX8_readFill cX8_readFill 7 (none : Option FieldType) 0 := ⟨kw_828, kw_142, nx_RX8, by decide +kernel⟩
theorem mw_yX8_takeToldName : mw yX8_takeToldName cX8_takeToldName 6 (some FieldType.int) 4 := ⟨kw_832, kw_142, nx_RX8, by decide +kernel⟩
theorem mw_yX0_isEmpty : mw yX0_isEmpty cX0_isEmpty 1 (some FieldType.boolean) 0 := ⟨kw_836, kw_145, nx_RX0, by decide +kernel⟩
theorem mw_yX9_empty : mw yX9_empty cX9_empty 1 (none : Option FieldType) 0 := ⟨kw_844, kw_141, nx_RX9, by decide +kernel⟩
theorem mw_yX11_answer : mw yX11_answer cX11_answer 2 (some FieldType.int) 1 := ⟨kw_849, kw_139, nx_RX11, by decide +kernel⟩
theorem mw_yX11_law : mw yX11_law cX11_law 3 (some FieldType.int) 1 := ⟨kw_853, kw_139, nx_RX11, by decide +kernel⟩
theorem mw_yX2_readLaw : mw yX2_readLaw cX2_readLaw 4 (some (FieldType.object "EchoJars$Law")) 1 := ⟨kw_858, kw_146, nx_RX2, by decide +kernel⟩
theorem mw_yX2_readRule : mw yX2_readRule cX2_readRule 5 (none : Option FieldType) 1 := ⟨kw_867, kw_146, nx_RX2, by decide +kernel⟩
theorem mw_yX2_takeKind : mw yX2_takeKind cX2_takeKind 1 (some FieldType.int) 0 := ⟨kw_875, kw_146, nx_RX2, by decide +kernel⟩
theorem mw_yX2_takeLetterOrRest : mw yX2_takeLetterOrRest cX2_takeLetterOrRest 2 (some FieldType.int) 0 := ⟨kw_881, kw_146, nx_RX2, by decide +kernel⟩
theorem mw_yX2_takeGift : mw yX2_takeGift cX2_takeGift 1 (some FieldType.int) 0 := ⟨kw_891, kw_146, nx_RX2, by decide +kernel⟩
theorem mw_yX1_add : mw yX1_add cX1_add 4 (none : Option FieldType) 3 := ⟨kw_898, kw_147, nx_RX1, by decide +kernel⟩
theorem mw_yX11_fault : mw yX11_fault cX11_fault 2 (some FieldType.int) 1 := ⟨kw_902, kw_139, nx_RX11, by decide +kernel⟩
theorem mw_yX11_many : mw yX11_many cX11_many 2 (some FieldType.int) 1 := ⟨kw_906, kw_139, nx_RX11, by decide +kernel⟩
theorem mw_yX7_filledJars : mw yX7_filledJars cX7_filledJars 3 (some FieldType.int) 0 := ⟨kw_910, kw_143, nx_RX7, by decide +kernel⟩
theorem mw_yJ6_bitCount_0f7a4 : mw yJ6_bitCount_0f7a4 cJ6_bitCount_0f7a4 1 (some FieldType.int) 1 := ⟨kw_914, kw_158, nx_RJ6, by decide +kernel⟩
theorem mw_yX11_letter : mw yX11_letter cX11_letter 3 (some FieldType.int) 2 := ⟨kw_921, kw_139, nx_RX11, by decide +kernel⟩
theorem mw_yX11_isSound : mw yX11_isSound cX11_isSound 2 (some FieldType.boolean) 1 := ⟨kw_925, kw_139, nx_RX11, by decide +kernel⟩
theorem mw_yX11_answerAt : mw yX11_answerAt cX11_answerAt 3 (some FieldType.int) 2 := ⟨kw_929, kw_139, nx_RX11, by decide +kernel⟩
theorem mw_yX6_has : mw yX6_has cX6_has 2 (some FieldType.boolean) 1 := ⟨kw_933, kw_144, nx_RX6, by decide +kernel⟩
theorem mw_yX6_at : mw yX6_at cX6_at 2 (some FieldType.int) 1 := ⟨kw_937, kw_144, nx_RX6, by decide +kernel⟩
theorem mw_yX11_jar : mw yX11_jar cX11_jar 4 (some FieldType.int) 2 := ⟨kw_942, kw_139, nx_RX11, by decide +kernel⟩
theorem mw_yX11_isJar : mw yX11_isJar cX11_isJar 2 (some FieldType.boolean) 1 := ⟨kw_946, kw_139, nx_RX11, by decide +kernel⟩
theorem mw_yX0_told : mw yX0_told cX0_told 2 (some FieldType.int) 1 := ⟨kw_952, kw_145, nx_RX0, by decide +kernel⟩
theorem mw_yX11_day : mw yX11_day cX11_day 2 (some FieldType.boolean) 1 := ⟨kw_956, kw_139, nx_RX11, by decide +kernel⟩
theorem mw_yX11_heard : mw yX11_heard cX11_heard 2 (some FieldType.int) 1 := ⟨kw_961, kw_139, nx_RX11, by decide +kernel⟩
theorem mw_yX11_hear : mw yX11_hear cX11_hear 2 (some (FieldType.object "EchoJars$Row")) 1 := ⟨kw_965, kw_139, nx_RX11, by decide +kernel⟩
theorem mw_yX7_listen : mw yX7_listen cX7_listen 6 (none : Option FieldType) 3 := ⟨kw_969, kw_143, nx_RX7, by decide +kernel⟩
theorem mw_yX0_lostBy : mw yX0_lostBy cX0_lostBy 2 (some FieldType.int) 1 := ⟨kw_973, kw_145, nx_RX0, by decide +kernel⟩
theorem mw_yX0_goneAfter : mw yX0_goneAfter cX0_goneAfter 2 (some FieldType.int) 1 := ⟨kw_977, kw_145, nx_RX0, by decide +kernel⟩
theorem mw_yX0_fromHead : mw yX0_fromHead cX0_fromHead 2 (some FieldType.int) 1 := ⟨kw_982, kw_145, nx_RX0, by decide +kernel⟩
theorem mw_yX0_leftOn : mw yX0_leftOn cX0_leftOn 2 (some FieldType.int) 1 := ⟨kw_986, kw_145, nx_RX0, by decide +kernel⟩
theorem mw_yX6_show : mw yX6_show cX6_show 5 (none : Option FieldType) 3 := ⟨kw_991, kw_144, nx_RX6, by decide +kernel⟩
theorem mw_yX11_heardAt : mw yX11_heardAt cX11_heardAt 3 (some FieldType.int) 2 := ⟨kw_995, kw_139, nx_RX11, by decide +kernel⟩
theorem mw_yX11_pourOut : mw yX11_pourOut cX11_pourOut 3 (some FieldType.int) 2 := ⟨kw_999, kw_139, nx_RX11, by decide +kernel⟩
theorem mw_yX11_bring : mw yX11_bring cX11_bring 5 (some FieldType.int) 2 := ⟨kw_1003, kw_139, nx_RX11, by decide +kernel⟩
theorem mw_yX11_lost : mw yX11_lost cX11_lost 2 (some FieldType.int) 1 := ⟨kw_1007, kw_139, nx_RX11, by decide +kernel⟩
theorem mw_yX11_silent : mw yX11_silent cX11_silent 2 (some FieldType.int) 1 := ⟨kw_1012, kw_139, nx_RX11, by decide +kernel⟩
theorem mw_yX0_firstDayWith : mw yX0_firstDayWith cX0_firstDayWith 2 (some FieldType.int) 1 := ⟨kw_1016, kw_145, nx_RX0, by decide +kernel⟩
theorem mw_yX11_answerOrNoSuch : mw yX11_answerOrNoSuch cX11_answerOrNoSuch 2 (some FieldType.int) 1 := ⟨kw_1021, kw_139, nx_RX11, by decide +kernel⟩
theorem mw_yX11_loudest : mw yX11_loudest cX11_loudest 4 (some FieldType.int) 2 := ⟨kw_1025, kw_139, nx_RX11, by decide +kernel⟩
theorem mw_yX7_loudestDay : mw yX7_loudestDay cX7_loudestDay 8 (some FieldType.int) 2 := ⟨kw_1030, kw_143, nx_RX7, by decide +kernel⟩
theorem mw_yX7_lettersOn : mw yX7_lettersOn cX7_lettersOn 4 (some FieldType.int) 1 := ⟨kw_1034, kw_143, nx_RX7, by decide +kernel⟩
theorem mw_yX11_atOnce : mw yX11_atOnce cX11_atOnce 4 (some FieldType.int) 3 := ⟨kw_1039, kw_139, nx_RX11, by decide +kernel⟩
theorem mw_yX11_mixRows : mw yX11_mixRows cX11_mixRows 6 (some (FieldType.object "EchoJars$Row")) 3 := ⟨kw_1043, kw_139, nx_RX11, by decide +kernel⟩
theorem mw_yX6_clear : mw yX6_clear cX6_clear 1 (none : Option FieldType) 0 := ⟨kw_1050, kw_144, nx_RX6, by decide +kernel⟩
theorem mw_yX1_mix : mw yX1_mix cX1_mix 4 (some FieldType.int) 2 := ⟨kw_1054, kw_147, nx_RX1, by decide +kernel⟩
theorem mw_yX1_suits : mw yX1_suits cX1_suits 2 (some FieldType.boolean) 2 := ⟨kw_1057, kw_147, nx_RX1, by decide +kernel⟩
theorem mw_yX1_given : mw yX1_given cX1_given 3 (some FieldType.int) 3 := ⟨kw_1060, kw_147, nx_RX1, by decide +kernel⟩
theorem mw_yX11_couples : mw yX11_couples cX11_couples 7 (some FieldType.long) 2 := ⟨kw_1065, kw_139, nx_RX11, by decide +kernel⟩
theorem mw_yX11_rowReason : mw yX11_rowReason cX11_rowReason 6 (some FieldType.int) 4 := ⟨kw_1069, kw_139, nx_RX11, by decide +kernel⟩
theorem mw_yX10_holdsOnly : mw yX10_holdsOnly cX10_holdsOnly 6 (some FieldType.boolean) 3 := ⟨kw_1073, kw_140, nx_RX10, by decide +kernel⟩
theorem mw_yX11_countCouples : mw yX11_countCouples cX11_countCouples 3 (none : Option FieldType) 0 := ⟨kw_1078, kw_139, nx_RX11, by decide +kernel⟩
theorem mw_yX11_mixes : mw yX11_mixes cX11_mixes 3 (some FieldType.int) 2 := ⟨kw_1082, kw_139, nx_RX11, by decide +kernel⟩
theorem mw_yX11_isLetterOrRest : mw yX11_isLetterOrRest cX11_isLetterOrRest 1 (some FieldType.boolean) 1 := ⟨kw_1085, kw_139, nx_RX11, by decide +kernel⟩
theorem mw_yX11_others : mw yX11_others cX11_others 3 (some FieldType.int) 2 := ⟨kw_1090, kw_139, nx_RX11, by decide +kernel⟩
theorem mw_yX1_partners : mw yX1_partners cX1_partners 5 (some FieldType.int) 2 := ⟨kw_1094, kw_147, nx_RX1, by decide +kernel⟩
theorem mw_yX11_echoed : mw yX11_echoed cX11_echoed 5 (some FieldType.int) 3 := ⟨kw_1099, kw_139, nx_RX11, by decide +kernel⟩
theorem mw_yX11_clearest : mw yX11_clearest cX11_clearest 10 (some FieldType.int) 3 := ⟨kw_1104, kw_139, nx_RX11, by decide +kernel⟩
theorem mw_yX6_countLetters : mw yX6_countLetters cX6_countLetters 3 (some FieldType.int) 0 := ⟨kw_1108, kw_144, nx_RX6, by decide +kernel⟩
theorem mw_yX11_beside : mw yX11_beside cX11_beside 10 (some FieldType.long) 4 := ⟨kw_1113, kw_139, nx_RX11, by decide +kernel⟩
theorem mw_yX11_fits : mw yX11_fits cX11_fits 4 (some FieldType.int) 1 := ⟨kw_1117, kw_139, nx_RX11, by decide +kernel⟩
theorem mw_yX11_isJarSet : mw yX11_isJarSet cX11_isJarSet 2 (some FieldType.boolean) 1 := ⟨kw_1121, kw_139, nx_RX11, by decide +kernel⟩
theorem mw_yX7_allJars : mw yX7_allJars cX7_allJars 1 (some FieldType.int) 0 := ⟨kw_1125, kw_143, nx_RX7, by decide +kernel⟩
theorem mw_yX7_allSounds : mw yX7_allSounds cX7_allSounds 1 (some FieldType.int) 0 := ⟨kw_1129, kw_143, nx_RX7, by decide +kernel⟩
theorem mw_yX11_isIn : mw yX11_isIn cX11_isIn 2 (some FieldType.boolean) 2 := ⟨kw_1132, kw_139, nx_RX11, by decide +kernel⟩
theorem mw_yX7_soundsWith : mw yX7_soundsWith cX7_soundsWith 4 (some FieldType.int) 1 := ⟨kw_1136, kw_143, nx_RX7, by decide +kernel⟩
theorem mw_yX6_standsIn : mw yX6_standsIn cX6_standsIn 2 (some FieldType.boolean) 1 := ⟨kw_1140, kw_144, nx_RX6, by decide +kernel⟩
theorem mw_yX6_timesIn : mw yX6_timesIn cX6_timesIn 4 (some FieldType.int) 1 := ⟨kw_1144, kw_144, nx_RX6, by decide +kernel⟩
theorem mw_yX6_standsAt : mw yX6_standsAt cX6_standsAt 5 (some FieldType.boolean) 2 := ⟨kw_1148, kw_144, nx_RX6, by decide +kernel⟩
theorem mw_yX11_places : mw yX11_places cX11_places 3 (some FieldType.int) 2 := ⟨kw_1152, kw_139, nx_RX11, by decide +kernel⟩
theorem mw_yX11_speaks : mw yX11_speaks cX11_speaks 2 (some FieldType.int) 1 := ⟨kw_1157, kw_139, nx_RX11, by decide +kernel⟩
theorem mw_yX11_speakers : mw yX11_speakers cX11_speakers 4 (some FieldType.int) 1 := ⟨kw_1161, kw_139, nx_RX11, by decide +kernel⟩
theorem mw_yX11_kinds : mw yX11_kinds cX11_kinds 4 (some FieldType.int) 1 := ⟨kw_1165, kw_139, nx_RX11, by decide +kernel⟩
theorem mw_yX6_letterSet : mw yX6_letterSet cX6_letterSet 3 (some FieldType.int) 0 := ⟨kw_1169, kw_144, nx_RX6, by decide +kernel⟩
theorem mw_yX11_laps : mw yX11_laps cX11_laps 3 (some FieldType.int) 2 := ⟨kw_1173, kw_139, nx_RX11, by decide +kernel⟩
theorem mw_yX6_overlap : mw yX6_overlap cX6_overlap 3 (some FieldType.int) 1 := ⟨kw_1177, kw_144, nx_RX6, by decide +kernel⟩
theorem mw_yX6_tailIsHead : mw yX6_tailIsHead cX6_tailIsHead 5 (some FieldType.boolean) 2 := ⟨kw_1182, kw_144, nx_RX6, by decide +kernel⟩
theorem mw_yX11_merged : mw yX11_merged cX11_merged 3 (some FieldType.int) 1 := ⟨kw_1186, kw_139, nx_RX11, by decide +kernel⟩
theorem mw_yX4_clear : mw yX4_clear cX4_clear 1 (none : Option FieldType) 0 := ⟨kw_1190, kw_149, nx_RX4, by decide +kernel⟩
theorem mw_yX4_add : mw yX4_add cX4_add 4 (none : Option FieldType) 1 := ⟨kw_1194, kw_149, nx_RX4, by decide +kernel⟩
theorem mw_yX4_mergeAll : mw yX4_mergeAll cX4_mergeAll 4 (none : Option FieldType) 0 := ⟨kw_1199, kw_149, nx_RX4, by decide +kernel⟩
theorem mw_yX4_measureOverlaps : mw yX4_measureOverlaps cX4_measureOverlaps 3 (none : Option FieldType) 0 := ⟨kw_1203, kw_149, nx_RX4, by decide +kernel⟩
theorem mw_yX4_measureRests : mw yX4_measureRests cX4_measureRests 6 (none : Option FieldType) 0 := ⟨kw_1208, kw_149, nx_RX4, by decide +kernel⟩
theorem mw_yX4_restWith : mw yX4_restWith cX4_restWith 4 (some FieldType.int) 3 := ⟨kw_1214, kw_149, nx_RX4, by decide +kernel⟩
theorem mw_yX4_stateWith : mw yX4_stateWith cX4_stateWith 2 (some FieldType.int) 2 := ⟨kw_1217, kw_149, nx_RX4, by decide +kernel⟩
theorem mw_yX4_openFirsts : mw yX4_openFirsts cX4_openFirsts 3 (some FieldType.int) 0 := ⟨kw_1222, kw_149, nx_RX4, by decide +kernel⟩
theorem mw_yX4_addOpen : mw yX4_addOpen cX4_addOpen 2 (none : Option FieldType) 1 := ⟨kw_1226, kw_149, nx_RX4, by decide +kernel⟩
theorem mw_yX4_leastLetter : mw yX4_leastLetter cX4_leastLetter 4 (some FieldType.int) 1 := ⟨kw_1231, kw_149, nx_RX4, by decide +kernel⟩
theorem mw_yX4_letterOf : mw yX4_letterOf cX4_letterOf 3 (some FieldType.int) 2 := ⟨kw_1235, kw_149, nx_RX4, by decide +kernel⟩
theorem mw_yX4_placeIn : mw yX4_placeIn cX4_placeIn 3 (some FieldType.int) 2 := ⟨kw_1239, kw_149, nx_RX4, by decide +kernel⟩
theorem mw_yX4_follow : mw yX4_follow cX4_follow 7 (none : Option FieldType) 2 := ⟨kw_1245, kw_149, nx_RX4, by decide +kernel⟩
theorem mw_yX4_addNexts : mw yX4_addNexts cX4_addNexts 4 (none : Option FieldType) 1 := ⟨kw_1249, kw_149, nx_RX4, by decide +kernel⟩
theorem mw_yX11_mergedAt : mw yX11_mergedAt cX11_mergedAt 2 (some FieldType.int) 1 := ⟨kw_1253, kw_139, nx_RX11, by decide +kernel⟩
theorem mw_yX11_since : mw yX11_since cX11_since 5 (some FieldType.int) 3 := ⟨kw_1257, kw_139, nx_RX11, by decide +kernel⟩
theorem mw_yX0_lastDayWith : mw yX0_lastDayWith cX0_lastDayWith 3 (some FieldType.int) 1 := ⟨kw_1262, kw_145, nx_RX0, by decide +kernel⟩
theorem mw_yX11_far : mw yX11_far cX11_far 3 (some FieldType.int) 2 := ⟨kw_1267, kw_139, nx_RX11, by decide +kernel⟩
theorem mw_yX6_editsTo : mw yX6_editsTo cX6_editsTo 8 (some FieldType.int) 2 := ⟨kw_1271, kw_144, nx_RX6, by decide +kernel⟩
theorem mw_yX11_common : mw yX11_common cX11_common 7 (some FieldType.int) 2 := ⟨kw_1275, kw_139, nx_RX11, by decide +kernel⟩
theorem mw_yX6_stretchIn : mw yX6_stretchIn cX6_stretchIn 6 (some FieldType.int) 2 := ⟨kw_1279, kw_144, nx_RX6, by decide +kernel⟩
theorem mw_yX11_chain : mw yX11_chain cX11_chain 3 (some FieldType.int) 1 := ⟨kw_1284, kw_139, nx_RX11, by decide +kernel⟩
theorem mw_yX11_followers : mw yX11_followers cX11_followers 6 (some FieldType.int) 2 := ⟨kw_1289, kw_139, nx_RX11, by decide +kernel⟩
theorem mw_yX5_link : mw yX5_link cX5_link 3 (none : Option FieldType) 2 := ⟨kw_1293, kw_150, nx_RX5, by decide +kernel⟩
theorem mw_yX5_findChain : mw yX5_findChain cX5_findChain 6 (none : Option FieldType) 1 := ⟨kw_1297, kw_150, nx_RX5, by decide +kernel⟩
theorem mw_yX5_bestLink : mw yX5_bestLink cX5_bestLink 7 (some FieldType.int) 2 := ⟨kw_1303, kw_150, nx_RX5, by decide +kernel⟩
theorem mw_yX5_lengthWith : mw yX5_lengthWith cX5_lengthWith 3 (some FieldType.int) 2 := ⟨kw_1307, kw_150, nx_RX5, by decide +kernel⟩
theorem mw_yX11_chainAt : mw yX11_chainAt cX11_chainAt 2 (some FieldType.int) 1 := ⟨kw_1313, kw_139, nx_RX11, by decide +kernel⟩
theorem mw_yX11_witness : mw yX11_witness cX11_witness 2 (some FieldType.int) 1 := ⟨kw_1317, kw_139, nx_RX11, by decide +kernel⟩
theorem mw_yX11_leastWitness : mw yX11_leastWitness cX11_leastWitness 5 (some FieldType.int) 1 := ⟨kw_1321, kw_139, nx_RX11, by decide +kernel⟩
theorem mw_yX11_fitsCounted : mw yX11_fitsCounted cX11_fitsCounted 4 (some FieldType.int) 1 := ⟨kw_1325, kw_139, nx_RX11, by decide +kernel⟩
theorem mw_yX11_fillFrom : mw yX11_fillFrom cX11_fillFrom 4 (some FieldType.int) 3 := ⟨kw_1329, kw_139, nx_RX11, by decide +kernel⟩
theorem mw_yX11_bestFilling : mw yX11_bestFilling cX11_bestFilling 10 (some FieldType.int) 3 := ⟨kw_1333, kw_139, nx_RX11, by decide +kernel⟩
theorem mw_yX7_timesInAll : mw yX7_timesInAll cX7_timesInAll 4 (some FieldType.int) 1 := ⟨kw_1341, kw_143, nx_RX7, by decide +kernel⟩
theorem mw_yX11_keeps : mw yX11_keeps cX11_keeps 3 (some FieldType.int) 2 := ⟨kw_1346, kw_139, nx_RX11, by decide +kernel⟩
theorem mw_yX0_keptAfter : mw yX0_keptAfter cX0_keptAfter 2 (some FieldType.int) 1 := ⟨kw_1350, kw_145, nx_RX0, by decide +kernel⟩
theorem mw_yX11_fewest : mw yX11_fewest cX11_fewest 4 (some FieldType.int) 2 := ⟨kw_1355, kw_139, nx_RX11, by decide +kernel⟩
theorem mw_yX7_leastSet : mw yX7_leastSet cX7_leastSet 8 (some FieldType.int) 3 := ⟨kw_1359, kw_143, nx_RX7, by decide +kernel⟩
theorem mw_yX7_priceOf : mw yX7_priceOf cX7_priceOf 5 (some FieldType.int) 2 := ⟨kw_1365, kw_143, nx_RX7, by decide +kernel⟩
theorem mw_yX7_keptBy : mw yX7_keptBy cX7_keptBy 5 (some FieldType.int) 2 := ⟨kw_1370, kw_143, nx_RX7, by decide +kernel⟩
theorem mw_yX11_cheapest : mw yX11_cheapest cX11_cheapest 5 (some FieldType.int) 3 := ⟨kw_1375, kw_139, nx_RX11, by decide +kernel⟩
theorem mw_yX11_shelf : mw yX11_shelf cX11_shelf 1 (some FieldType.int) 0 := ⟨kw_1380, kw_139, nx_RX11, by decide +kernel⟩
theorem mw_yX5_findShelf : mw yX5_findShelf cX5_findShelf 7 (some FieldType.int) 2 := ⟨kw_1384, kw_150, nx_RX5, by decide +kernel⟩
theorem mw_yX5_bestOpening : mw yX5_bestOpening cX5_bestOpening 9 (some FieldType.int) 4 := ⟨kw_1389, kw_150, nx_RX5, by decide +kernel⟩
theorem mw_yX5_gainWith : mw yX5_gainWith cX5_gainWith 6 (some FieldType.int) 4 := ⟨kw_1393, kw_150, nx_RX5, by decide +kernel⟩
theorem mw_yX11_shelfAt : mw yX11_shelfAt cX11_shelfAt 2 (some FieldType.int) 1 := ⟨kw_1399, kw_139, nx_RX11, by decide +kernel⟩
theorem mw_yX11_pieced : mw yX11_pieced cX11_pieced 4 (some FieldType.int) 2 := ⟨kw_1403, kw_139, nx_RX11, by decide +kernel⟩
theorem mw_yX11_leastPiecing : mw yX11_leastPiecing cX11_leastPiecing 8 (some FieldType.int) 2 := ⟨kw_1407, kw_139, nx_RX11, by decide +kernel⟩
theorem mw_yX11_longestPiece : mw yX11_longestPiece cX11_longestPiece 5 (some FieldType.int) 2 := ⟨kw_1411, kw_139, nx_RX11, by decide +kernel⟩
theorem mw_yX11_joinsHeard : mw yX11_joinsHeard cX11_joinsHeard 2 (some FieldType.int) 2 := ⟨kw_1414, kw_139, nx_RX11, by decide +kernel⟩
theorem mw_yX11_isVowel : mw yX11_isVowel cX11_isVowel 1 (some FieldType.boolean) 1 := ⟨kw_1417, kw_139, nx_RX11, by decide +kernel⟩
theorem mw_yX11_road : mw yX11_road cX11_road 3 (some FieldType.int) 2 := ⟨kw_1421, kw_139, nx_RX11, by decide +kernel⟩
theorem mw_yX7_travel : mw yX7_travel cX7_travel 8 (some FieldType.int) 3 := ⟨kw_1426, kw_143, nx_RX7, by decide +kernel⟩
theorem mw_yX11_brokeOn : mw yX11_brokeOn cX11_brokeOn 2 (some FieldType.int) 1 := ⟨kw_1431, kw_139, nx_RX11, by decide +kernel⟩
theorem mw_yX11_odds : mw yX11_odds cX11_odds 8 (some FieldType.boolean) 4 := ⟨kw_1435, kw_139, nx_RX11, by decide +kernel⟩
theorem mw_yX11_tellFraction : mw yX11_tellFraction cX11_tellFraction 12 (none : Option FieldType) 2 := ⟨kw_1440, kw_139, nx_RX11, by decide +kernel⟩
theorem mw_yX11_safe : mw yX11_safe cX11_safe 10 (some FieldType.boolean) 3 := ⟨kw_1444, kw_139, nx_RX11, by decide +kernel⟩
theorem mw_yX11_third : mw yX11_third cX11_third 7 (some FieldType.boolean) 4 := ⟨kw_1450, kw_139, nx_RX11, by decide +kernel⟩
theorem mw_yX11_threeReason : mw yX11_threeReason cX11_threeReason 6 (some FieldType.int) 4 := ⟨kw_1454, kw_139, nx_RX11, by decide +kernel⟩
theorem mw_yX11_thirdOf : mw yX11_thirdOf cX11_thirdOf 4 (some FieldType.long) 2 := ⟨kw_1457, kw_139, nx_RX11, by decide +kernel⟩
theorem mw_yX11_second : mw yX11_second cX11_second 7 (some FieldType.boolean) 4 := ⟨kw_1462, kw_139, nx_RX11, by decide +kernel⟩
theorem mw_yX11_secondOf : mw yX11_secondOf cX11_secondOf 4 (some FieldType.long) 2 := ⟨kw_1465, kw_139, nx_RX11, by decide +kernel⟩
theorem mw_yX11_anyTwo : mw yX11_anyTwo cX11_anyTwo 4 (some FieldType.int) 3 := ⟨kw_1469, kw_139, nx_RX11, by decide +kernel⟩
theorem mw_yX11_isThird : mw yX11_isThird cX11_isThird 5 (some FieldType.boolean) 3 := ⟨kw_1472, kw_139, nx_RX11, by decide +kernel⟩
theorem mw_yX11_mark : mw yX11_mark cX11_mark 2 (some FieldType.int) 0 := ⟨kw_1476, kw_139, nx_RX11, by decide +kernel⟩
theorem mw_yX11_back : mw yX11_back cX11_back 2 (some FieldType.int) 0 := ⟨kw_1480, kw_139, nx_RX11, by decide +kernel⟩
theorem mw_yX12_init : mw yX12_init cX12_init 2 (none : Option FieldType) 0 := ⟨kw_1485, kw_151, nx_RX12, by decide +kernel⟩
theorem mw_yX12_status : mw yX12_status cX12_status 1 (some FieldType.int) 0 := ⟨kw_1635, kw_151, nx_RX12, by decide +kernel⟩
theorem mw_yX12_top : mw yX12_top cX12_top 1 (some FieldType.long) 0 := ⟨kw_1639, kw_151, nx_RX12, by decide +kernel⟩
theorem mw_yX12_bottom : mw yX12_bottom cX12_bottom 1 (some FieldType.long) 0 := ⟨kw_1643, kw_151, nx_RX12, by decide +kernel⟩
theorem mw_yX12_tray : mw yX12_tray cX12_tray 5 (some FieldType.boolean) 3 := ⟨kw_1647, kw_151, nx_RX12, by decide +kernel⟩
theorem mw_yX12_no : mw yX12_no cX12_no 2 (some FieldType.boolean) 1 := ⟨kw_1651, kw_151, nx_RX12, by decide +kernel⟩
theorem mw_yX12_write : mw yX12_write cX12_write 5 (some FieldType.boolean) 3 := ⟨kw_1655, kw_151, nx_RX12, by decide +kernel⟩
theorem mw_yX12_placed : mw yX12_placed cX12_placed 4 (some FieldType.int) 2 := ⟨kw_1659, kw_151, nx_RX12, by decide +kernel⟩
theorem mw_yX12_trayed : mw yX12_trayed cX12_trayed 2 (some FieldType.int) 1 := ⟨kw_1663, kw_151, nx_RX12, by decide +kernel⟩
theorem mw_yX12_cut : mw yX12_cut cX12_cut 3 (some FieldType.long) 2 := ⟨kw_1666, kw_151, nx_RX12, by decide +kernel⟩
theorem mw_yX12_read : mw yX12_read cX12_read 3 (some FieldType.long) 2 := ⟨kw_1670, kw_151, nx_RX12, by decide +kernel⟩
theorem mw_yX12_pour : mw yX12_pour cX12_pour 9 (some FieldType.boolean) 5 := ⟨kw_1675, kw_151, nx_RX12, by decide +kernel⟩
theorem mw_yX12_feed : mw yX12_feed cX12_feed 6 (some FieldType.int) 5 := ⟨kw_1679, kw_151, nx_RX12, by decide +kernel⟩
theorem mw_yX12_lay : mw yX12_lay cX12_lay 3 (none : Option FieldType) 1 := ⟨kw_1683, kw_151, nx_RX12, by decide +kernel⟩
theorem mw_yX12_fault : mw yX12_fault cX12_fault 2 (some FieldType.int) 1 := ⟨kw_1687, kw_151, nx_RX12, by decide +kernel⟩
theorem mw_yX12_shop : mw yX12_shop cX12_shop 3 (some FieldType.int) 1 := ⟨kw_1691, kw_151, nx_RX12, by decide +kernel⟩
theorem mw_yX12_opens : mw yX12_opens cX12_opens 3 (some FieldType.boolean) 2 := ⟨kw_1695, kw_151, nx_RX12, by decide +kernel⟩
theorem mw_yX12_next : mw yX12_next cX12_next 2 (none : Option FieldType) 0 := ⟨kw_1699, kw_151, nx_RX12, by decide +kernel⟩
theorem mw_yX12_look2 : mw yX12_look2 cX12_look2 2 (some FieldType.int) 1 := ⟨kw_1703, kw_151, nx_RX12, by decide +kernel⟩
theorem mw_yX12_isLetter : mw yX12_isLetter cX12_isLetter 1 (some FieldType.boolean) 1 := ⟨kw_1706, kw_151, nx_RX12, by decide +kernel⟩
theorem mw_yX12_isDigit : mw yX12_isDigit cX12_isDigit 1 (some FieldType.boolean) 1 := ⟨kw_1711, kw_151, nx_RX12, by decide +kernel⟩
theorem mw_yX12_isSound : mw yX12_isSound cX12_isSound 1 (some FieldType.boolean) 0 := ⟨kw_1715, kw_151, nx_RX12, by decide +kernel⟩
theorem mw_yX12_spelled : mw yX12_spelled cX12_spelled 8 (some FieldType.long) 6 := ⟨kw_1718, kw_151, nx_RX12, by decide +kernel⟩
theorem mw_yX12_isWord : mw yX12_isWord cX12_isWord 3 (some FieldType.boolean) 1 := ⟨kw_1722, kw_151, nx_RX12, by decide +kernel⟩
theorem mw_yX12_readSound : mw yX12_readSound cX12_readSound 3 (none : Option FieldType) 0 := ⟨kw_1726, kw_151, nx_RX12, by decide +kernel⟩
theorem mw_yX12_fail : mw yX12_fail cX12_fail 3 (none : Option FieldType) 2 := ⟨kw_1730, kw_151, nx_RX12, by decide +kernel⟩
theorem mw_yX12_readNew : mw yX12_readNew cX12_readNew 3 (none : Option FieldType) 2 := ⟨kw_1734, kw_151, nx_RX12, by decide +kernel⟩
theorem mw_yX12_isName : mw yX12_isName cX12_isName 1 (some FieldType.boolean) 0 := ⟨kw_1738, kw_151, nx_RX12, by decide +kernel⟩
theorem mw_yX12_isKept : mw yX12_isKept cX12_isKept 1 (some FieldType.boolean) 0 := ⟨kw_1742, kw_151, nx_RX12, by decide +kernel⟩
theorem mw_yX12_isJar : mw yX12_isJar cX12_isJar 1 (some FieldType.boolean) 0 := ⟨kw_1746, kw_151, nx_RX12, by decide +kernel⟩
theorem mw_yX12_isSize : mw yX12_isSize cX12_isSize 1 (some FieldType.boolean) 0 := ⟨kw_1750, kw_151, nx_RX12, by decide +kernel⟩
theorem mw_yX12_isLeaks : mw yX12_isLeaks cX12_isLeaks 1 (some FieldType.boolean) 0 := ⟨kw_1754, kw_151, nx_RX12, by decide +kernel⟩
theorem mw_yX12_isHead : mw yX12_isHead cX12_isHead 1 (some FieldType.boolean) 0 := ⟨kw_1758, kw_151, nx_RX12, by decide +kernel⟩
theorem mw_yX12_isTail : mw yX12_isTail cX12_isTail 1 (some FieldType.boolean) 0 := ⟨kw_1762, kw_151, nx_RX12, by decide +kernel⟩
theorem mw_yX12_isCosts : mw yX12_isCosts cX12_isCosts 1 (some FieldType.boolean) 0 := ⟨kw_1766, kw_151, nx_RX12, by decide +kernel⟩
theorem mw_yX12_isWorth : mw yX12_isWorth cX12_isWorth 1 (some FieldType.boolean) 0 := ⟨kw_1770, kw_151, nx_RX12, by decide +kernel⟩
theorem mw_yX12_isBreaks : mw yX12_isBreaks cX12_isBreaks 1 (some FieldType.boolean) 0 := ⟨kw_1774, kw_151, nx_RX12, by decide +kernel⟩
theorem mw_yX12_isFill : mw yX12_isFill cX12_isFill 1 (some FieldType.boolean) 0 := ⟨kw_1778, kw_151, nx_RX12, by decide +kernel⟩
theorem mw_yX12_isOf : mw yX12_isOf cX12_isOf 1 (some FieldType.boolean) 0 := ⟨kw_1782, kw_151, nx_RX12, by decide +kernel⟩
theorem mw_yX12_isFrom : mw yX12_isFrom cX12_isFrom 1 (some FieldType.boolean) 0 := ⟨kw_1786, kw_151, nx_RX12, by decide +kernel⟩
theorem mw_yX12_isOn : mw yX12_isOn cX12_isOn 1 (some FieldType.boolean) 0 := ⟨kw_1790, kw_151, nx_RX12, by decide +kernel⟩
theorem mw_yX12_isMix : mw yX12_isMix cX12_isMix 1 (some FieldType.boolean) 0 := ⟨kw_1794, kw_151, nx_RX12, by decide +kernel⟩
theorem mw_yX12_isWith : mw yX12_isWith cX12_isWith 1 (some FieldType.boolean) 0 := ⟨kw_1798, kw_151, nx_RX12, by decide +kernel⟩
theorem mw_yX12_isGives : mw yX12_isGives cX12_isGives 1 (some FieldType.boolean) 0 := ⟨kw_1802, kw_151, nx_RX12, by decide +kernel⟩
theorem mw_yX12_isAny : mw yX12_isAny cX12_isAny 1 (some FieldType.boolean) 0 := ⟨kw_1806, kw_151, nx_RX12, by decide +kernel⟩
theorem mw_yX12_isSame : mw yX12_isSame cX12_isSame 1 (some FieldType.boolean) 0 := ⟨kw_1810, kw_151, nx_RX12, by decide +kernel⟩
theorem mw_yX12_isRest : mw yX12_isRest cX12_isRest 1 (some FieldType.boolean) 0 := ⟨kw_1814, kw_151, nx_RX12, by decide +kernel⟩
theorem mw_yX12_isFirst : mw yX12_isFirst cX12_isFirst 1 (some FieldType.boolean) 0 := ⟨kw_1818, kw_151, nx_RX12, by decide +kernel⟩
theorem mw_yX12_isSecond : mw yX12_isSecond cX12_isSecond 1 (some FieldType.boolean) 0 := ⟨kw_1822, kw_151, nx_RX12, by decide +kernel⟩
theorem mw_yX12_wrong : mw yX12_wrong cX12_wrong 1 (none : Option FieldType) 0 := ⟨kw_1826, kw_151, nx_RX12, by decide +kernel⟩
theorem mw_yX12_named : mw yX12_named cX12_named 4 (some FieldType.int) 2 := ⟨kw_1830, kw_151, nx_RX12, by decide +kernel⟩
theorem mw_yX12_readJar : mw yX12_readJar cX12_readJar 4 (none : Option FieldType) 0 := ⟨kw_1834, kw_151, nx_RX12, by decide +kernel⟩
theorem mw_yX12_must : mw yX12_must cX12_must 2 (none : Option FieldType) 1 := ⟨kw_1838, kw_151, nx_RX12, by decide +kernel⟩
theorem mw_yX12_count : mw yX12_count cX12_count 4 (some FieldType.int) 2 := ⟨kw_1842, kw_151, nx_RX12, by decide +kernel⟩
theorem mw_yX12_isIn : mw yX12_isIn cX12_isIn 6 (some FieldType.boolean) 3 := ⟨kw_1845, kw_151, nx_RX12, by decide +kernel⟩
theorem mw_yX12_told : mw yX12_told cX12_told 5 (some FieldType.int) 4 := ⟨kw_1849, kw_151, nx_RX12, by decide +kernel⟩
theorem mw_yX12_readFill : mw yX12_readFill cX12_readFill 7 (none : Option FieldType) 0 := ⟨kw_1853, kw_151, nx_RX12, by decide +kernel⟩
theorem mw_yX12_readTold : mw yX12_readTold cX12_readTold 4 (some FieldType.int) 2 := ⟨kw_1857, kw_151, nx_RX12, by decide +kernel⟩
theorem mw_yX12_isWell : mw yX12_isWell cX12_isWell 1 (some FieldType.boolean) 0 := ⟨kw_1862, kw_151, nx_RX12, by decide +kernel⟩
theorem mw_yX12_law : mw yX12_law cX12_law 3 (some FieldType.int) 1 := ⟨kw_1866, kw_151, nx_RX12, by decide +kernel⟩
theorem mw_yX12_readRule : mw yX12_readRule cX12_readRule 2 (none : Option FieldType) 0 := ⟨kw_1870, kw_151, nx_RX12, by decide +kernel⟩
theorem mw_yX12_readKind : mw yX12_readKind cX12_readKind 2 (some FieldType.int) 0 := ⟨kw_1874, kw_151, nx_RX12, by decide +kernel⟩
theorem mw_yX12_readWhat : mw yX12_readWhat cX12_readWhat 2 (some FieldType.int) 0 := ⟨kw_1878, kw_151, nx_RX12, by decide +kernel⟩
theorem mw_yX12_many : mw yX12_many cX12_many 2 (some FieldType.int) 1 := ⟨kw_1882, kw_151, nx_RX12, by decide +kernel⟩
theorem mw_yX12_empties : mw yX12_empties cX12_empties 3 (some FieldType.int) 0 := ⟨kw_1886, kw_151, nx_RX12, by decide +kernel⟩
theorem mw_yX12_refuse : mw yX12_refuse cX12_refuse 2 (some FieldType.int) 1 := ⟨kw_1890, kw_151, nx_RX12, by decide +kernel⟩
theorem mw_yX12_letter : mw yX12_letter cX12_letter 3 (some FieldType.int) 2 := ⟨kw_1894, kw_151, nx_RX12, by decide +kernel⟩
theorem mw_yX12_isSoundAt : mw yX12_isSoundAt cX12_isSoundAt 2 (some FieldType.boolean) 1 := ⟨kw_1898, kw_151, nx_RX12, by decide +kernel⟩
theorem mw_yX12_soundAt : mw yX12_soundAt cX12_soundAt 3 (some FieldType.int) 2 := ⟨kw_1902, kw_151, nx_RX12, by decide +kernel⟩
theorem mw_yX12_jar : mw yX12_jar cX12_jar 3 (some FieldType.int) 2 := ⟨kw_1906, kw_151, nx_RX12, by decide +kernel⟩
theorem mw_yX12_isJarAt : mw yX12_isJarAt cX12_isJarAt 2 (some FieldType.boolean) 1 := ⟨kw_1910, kw_151, nx_RX12, by decide +kernel⟩
theorem mw_yX12_day : mw yX12_day cX12_day 2 (some FieldType.boolean) 1 := ⟨kw_1914, kw_151, nx_RX12, by decide +kernel⟩
theorem mw_yX12_heard : mw yX12_heard cX12_heard 2 (some FieldType.int) 1 := ⟨kw_1919, kw_151, nx_RX12, by decide +kernel⟩
theorem mw_yX12_heardNow : mw yX12_heardNow cX12_heardNow 2 (some FieldType.int) 1 := ⟨kw_1923, kw_151, nx_RX12, by decide +kernel⟩
theorem mw_yX12_heardOn : mw yX12_heardOn cX12_heardOn 3 (some FieldType.int) 2 := ⟨kw_1927, kw_151, nx_RX12, by decide +kernel⟩
theorem mw_yX12_goneOf : mw yX12_goneOf cX12_goneOf 4 (some FieldType.int) 3 := ⟨kw_1931, kw_151, nx_RX12, by decide +kernel⟩
theorem mw_yX12_heardAt : mw yX12_heardAt cX12_heardAt 3 (some FieldType.int) 2 := ⟨kw_1935, kw_151, nx_RX12, by decide +kernel⟩
theorem mw_yX12_heardLetter : mw yX12_heardLetter cX12_heardLetter 3 (some FieldType.int) 2 := ⟨kw_1939, kw_151, nx_RX12, by decide +kernel⟩
theorem mw_yX12_headGone : mw yX12_headGone cX12_headGone 3 (some FieldType.int) 2 := ⟨kw_1943, kw_151, nx_RX12, by decide +kernel⟩
theorem mw_yX12_pourOut : mw yX12_pourOut cX12_pourOut 5 (some FieldType.int) 2 := ⟨kw_1947, kw_151, nx_RX12, by decide +kernel⟩
theorem mw_yX12_isTray : mw yX12_isTray cX12_isTray 2 (some FieldType.boolean) 1 := ⟨kw_1951, kw_151, nx_RX12, by decide +kernel⟩
theorem mw_yX12_whyNoRow : mw yX12_whyNoRow cX12_whyNoRow 3 (some FieldType.int) 2 := ⟨kw_1956, kw_151, nx_RX12, by decide +kernel⟩
theorem mw_yX12_toTray : mw yX12_toTray cX12_toTray 4 (none : Option FieldType) 3 := ⟨kw_1960, kw_151, nx_RX12, by decide +kernel⟩
theorem mw_yX12_lost : mw yX12_lost cX12_lost 2 (some FieldType.int) 1 := ⟨kw_1964, kw_151, nx_RX12, by decide +kernel⟩
theorem mw_yX12_silent : mw yX12_silent cX12_silent 2 (some FieldType.int) 1 := ⟨kw_1968, kw_151, nx_RX12, by decide +kernel⟩
theorem mw_yX12_since : mw yX12_since cX12_since 6 (some FieldType.int) 3 := ⟨kw_1972, kw_151, nx_RX12, by decide +kernel⟩
theorem mw_yX12_loudest : mw yX12_loudest cX12_loudest 8 (some FieldType.int) 2 := ⟨kw_1977, kw_151, nx_RX12, by decide +kernel⟩
theorem mw_yX12_atOnce : mw yX12_atOnce cX12_atOnce 6 (some FieldType.int) 3 := ⟨kw_1982, kw_151, nx_RX12, by decide +kernel⟩
theorem mw_yX12_heardOrRest : mw yX12_heardOrRest cX12_heardOrRest 3 (some FieldType.int) 2 := ⟨kw_1987, kw_151, nx_RX12, by decide +kernel⟩
theorem mw_yX12_mixOf : mw yX12_mixOf cX12_mixOf 5 (some FieldType.int) 2 := ⟨kw_1991, kw_151, nx_RX12, by decide +kernel⟩
theorem mw_yX12_fitsKind : mw yX12_fitsKind cX12_fitsKind 2 (some FieldType.boolean) 2 := ⟨kw_1994, kw_151, nx_RX12, by decide +kernel⟩
theorem mw_yX12_mixes : mw yX12_mixes cX12_mixes 3 (some FieldType.int) 2 := ⟨kw_1998, kw_151, nx_RX12, by decide +kernel⟩
theorem mw_yX12_others : mw yX12_others cX12_others 3 (some FieldType.int) 2 := ⟨kw_2003, kw_151, nx_RX12, by decide +kernel⟩
theorem mw_yX12_othersOf : mw yX12_othersOf cX12_othersOf 5 (some FieldType.int) 2 := ⟨kw_2007, kw_151, nx_RX12, by decide +kernel⟩
theorem mw_yX12_echoed : mw yX12_echoed cX12_echoed 6 (some FieldType.int) 3 := ⟨kw_2011, kw_151, nx_RX12, by decide +kernel⟩
theorem mw_yX12_soundOrRest : mw yX12_soundOrRest cX12_soundOrRest 3 (some FieldType.int) 2 := ⟨kw_2016, kw_151, nx_RX12, by decide +kernel⟩
theorem mw_yX12_clearest : mw yX12_clearest cX12_clearest 10 (some FieldType.int) 3 := ⟨kw_2020, kw_151, nx_RX12, by decide +kernel⟩
theorem mw_yX12_couples : mw yX12_couples cX12_couples 9 (some FieldType.long) 2 := ⟨kw_2024, kw_151, nx_RX12, by decide +kernel⟩
theorem mw_yX12_whyNoLetters : mw yX12_whyNoLetters cX12_whyNoLetters 5 (some FieldType.int) 3 := ⟨kw_2029, kw_151, nx_RX12, by decide +kernel⟩
theorem mw_yX12_numberOf : mw yX12_numberOf cX12_numberOf 3 (some FieldType.long) 2 := ⟨kw_2033, kw_151, nx_RX12, by decide +kernel⟩
theorem mw_yX12_beside : mw yX12_beside cX12_beside 11 (some FieldType.long) 4 := ⟨kw_2037, kw_151, nx_RX12, by decide +kernel⟩
theorem mw_yX12_fits : mw yX12_fits cX12_fits 2 (some FieldType.int) 1 := ⟨kw_2042, kw_151, nx_RX12, by decide +kernel⟩
theorem mw_yX12_areJars : mw yX12_areJars cX12_areJars 2 (some FieldType.boolean) 1 := ⟨kw_2046, kw_151, nx_RX12, by decide +kernel⟩
theorem mw_yX12_fitsOf : mw yX12_fitsOf cX12_fitsOf 6 (some FieldType.int) 1 := ⟨kw_2050, kw_151, nx_RX12, by decide +kernel⟩
theorem mw_yX12_has : mw yX12_has cX12_has 2 (some FieldType.boolean) 2 := ⟨kw_2053, kw_151, nx_RX12, by decide +kernel⟩
theorem mw_yX12_placesIn : mw yX12_placesIn cX12_placesIn 6 (some FieldType.int) 2 := ⟨kw_2057, kw_151, nx_RX12, by decide +kernel⟩
theorem mw_yX12_standsAt : mw yX12_standsAt cX12_standsAt 6 (some FieldType.boolean) 4 := ⟨kw_2061, kw_151, nx_RX12, by decide +kernel⟩
theorem mw_yX12_places : mw yX12_places cX12_places 3 (some FieldType.int) 2 := ⟨kw_2065, kw_151, nx_RX12, by decide +kernel⟩
theorem mw_yX12_speaks : mw yX12_speaks cX12_speaks 4 (some FieldType.int) 1 := ⟨kw_2069, kw_151, nx_RX12, by decide +kernel⟩
theorem mw_yX12_laps : mw yX12_laps cX12_laps 3 (some FieldType.int) 2 := ⟨kw_2073, kw_151, nx_RX12, by decide +kernel⟩
theorem mw_yX12_lapsOf : mw yX12_lapsOf cX12_lapsOf 6 (some FieldType.int) 2 := ⟨kw_2077, kw_151, nx_RX12, by decide +kernel⟩
theorem mw_yX12_kinds : mw yX12_kinds cX12_kinds 5 (some FieldType.int) 1 := ⟨kw_2081, kw_151, nx_RX12, by decide +kernel⟩
theorem mw_yX12_far : mw yX12_far cX12_far 8 (some FieldType.int) 2 := ⟨kw_2085, kw_151, nx_RX12, by decide +kernel⟩
theorem mw_yX12_common : mw yX12_common cX12_common 7 (some FieldType.int) 2 := ⟨kw_2090, kw_151, nx_RX12, by decide +kernel⟩
theorem mw_yX12_chain : mw yX12_chain cX12_chain 3 (some FieldType.int) 1 := ⟨kw_2094, kw_151, nx_RX12, by decide +kernel⟩
theorem mw_yX12_chainFrom : mw yX12_chainFrom cX12_chainFrom 5 (none : Option FieldType) 3 := ⟨kw_2099, kw_151, nx_RX12, by decide +kernel⟩
theorem mw_yX12_chainAt : mw yX12_chainAt cX12_chainAt 2 (some FieldType.int) 1 := ⟨kw_2103, kw_151, nx_RX12, by decide +kernel⟩
theorem mw_yX12_witness : mw yX12_witness cX12_witness 4 (some FieldType.int) 1 := ⟨kw_2107, kw_151, nx_RX12, by decide +kernel⟩
theorem mw_yX12_bits : mw yX12_bits cX12_bits 3 (some FieldType.int) 1 := ⟨kw_2110, kw_151, nx_RX12, by decide +kernel⟩
theorem mw_yX12_merged : mw yX12_merged cX12_merged 3 (some FieldType.int) 1 := ⟨kw_2114, kw_151, nx_RX12, by decide +kernel⟩
theorem mw_yX12_isOwn : mw yX12_isOwn cX12_isOwn 4 (some FieldType.boolean) 2 := ⟨kw_2118, kw_151, nx_RX12, by decide +kernel⟩
theorem mw_yX12_standsIn : mw yX12_standsIn cX12_standsIn 7 (some FieldType.boolean) 2 := ⟨kw_2122, kw_151, nx_RX12, by decide +kernel⟩
theorem mw_yX12_mergeFrom : mw yX12_mergeFrom cX12_mergeFrom 8 (none : Option FieldType) 3 := ⟨kw_2126, kw_151, nx_RX12, by decide +kernel⟩
theorem mw_yX12_isLess : mw yX12_isLess cX12_isLess 3 (some FieldType.boolean) 1 := ⟨kw_2130, kw_151, nx_RX12, by decide +kernel⟩
theorem mw_yX12_mergedAt : mw yX12_mergedAt cX12_mergedAt 2 (some FieldType.int) 1 := ⟨kw_2134, kw_151, nx_RX12, by decide +kernel⟩
theorem mw_yX12_keeps : mw yX12_keeps cX12_keeps 3 (some FieldType.int) 2 := ⟨kw_2138, kw_151, nx_RX12, by decide +kernel⟩
theorem mw_yX12_keepsOf : mw yX12_keepsOf cX12_keepsOf 3 (some FieldType.int) 2 := ⟨kw_2142, kw_151, nx_RX12, by decide +kernel⟩
theorem mw_yX12_fewest : mw yX12_fewest cX12_fewest 5 (some FieldType.int) 2 := ⟨kw_2146, kw_151, nx_RX12, by decide +kernel⟩
theorem mw_yX12_keptBy : mw yX12_keptBy cX12_keptBy 5 (some FieldType.int) 2 := ⟨kw_2150, kw_151, nx_RX12, by decide +kernel⟩
theorem mw_yX12_cheapest : mw yX12_cheapest cX12_cheapest 6 (some FieldType.int) 3 := ⟨kw_2154, kw_151, nx_RX12, by decide +kernel⟩
theorem mw_yX12_costOf : mw yX12_costOf cX12_costOf 4 (some FieldType.int) 1 := ⟨kw_2158, kw_151, nx_RX12, by decide +kernel⟩
theorem mw_yX12_fillFrom : mw yX12_fillFrom cX12_fillFrom 15 (some FieldType.int) 3 := ⟨kw_2162, kw_151, nx_RX12, by decide +kernel⟩
theorem mw_yX12_shelf : mw yX12_shelf cX12_shelf 4 (some FieldType.int) 0 := ⟨kw_2166, kw_151, nx_RX12, by decide +kernel⟩
theorem mw_yX12_worthOn : mw yX12_worthOn cX12_worthOn 3 (some FieldType.int) 2 := ⟨kw_2170, kw_151, nx_RX12, by decide +kernel⟩
theorem mw_yX12_shelfAt : mw yX12_shelfAt cX12_shelfAt 2 (some FieldType.int) 1 := ⟨kw_2174, kw_151, nx_RX12, by decide +kernel⟩
theorem mw_yX12_pieced : mw yX12_pieced cX12_pieced 7 (some FieldType.int) 2 := ⟨kw_2178, kw_151, nx_RX12, by decide +kernel⟩
theorem mw_yX12_isHeard : mw yX12_isHeard cX12_isHeard 8 (some FieldType.boolean) 3 := ⟨kw_2182, kw_151, nx_RX12, by decide +kernel⟩
theorem mw_yX12_isVowel : mw yX12_isVowel cX12_isVowel 1 (some FieldType.boolean) 1 := ⟨kw_2185, kw_151, nx_RX12, by decide +kernel⟩
theorem mw_yX12_road : mw yX12_road cX12_road 5 (some FieldType.int) 2 := ⟨kw_2189, kw_151, nx_RX12, by decide +kernel⟩
theorem mw_yX12_wholeBehind : mw yX12_wholeBehind cX12_wholeBehind 6 (some FieldType.int) 2 := ⟨kw_2194, kw_151, nx_RX12, by decide +kernel⟩
theorem mw_yX12_draw : mw yX12_draw cX12_draw 1 (some FieldType.int) 0 := ⟨kw_2198, kw_151, nx_RX12, by decide +kernel⟩
theorem mw_yX12_brokeOn : mw yX12_brokeOn cX12_brokeOn 2 (some FieldType.int) 1 := ⟨kw_2203, kw_151, nx_RX12, by decide +kernel⟩
theorem mw_yX12_odds : mw yX12_odds cX12_odds 10 (some FieldType.boolean) 4 := ⟨kw_2207, kw_151, nx_RX12, by decide +kernel⟩
theorem mw_yX12_fraction : mw yX12_fraction cX12_fraction 11 (some FieldType.boolean) 2 := ⟨kw_2212, kw_151, nx_RX12, by decide +kernel⟩
theorem mw_yX12_safe : mw yX12_safe cX12_safe 8 (some FieldType.boolean) 3 := ⟨kw_2219, kw_151, nx_RX12, by decide +kernel⟩
theorem mw_yX12_power : mw yX12_power cX12_power 6 (some FieldType.long) 2 := ⟨kw_2224, kw_151, nx_RX12, by decide +kernel⟩
theorem mw_yX12_third : mw yX12_third cX12_third 6 (some FieldType.boolean) 4 := ⟨kw_2228, kw_151, nx_RX12, by decide +kernel⟩
theorem mw_yX12_reads : mw yX12_reads cX12_reads 6 (some FieldType.int) 4 := ⟨kw_2232, kw_151, nx_RX12, by decide +kernel⟩
theorem mw_yX12_second : mw yX12_second cX12_second 6 (some FieldType.boolean) 4 := ⟨kw_2236, kw_151, nx_RX12, by decide +kernel⟩
theorem mw_yX12_anyTwo : mw yX12_anyTwo cX12_anyTwo 6 (some FieldType.int) 3 := ⟨kw_2240, kw_151, nx_RX12, by decide +kernel⟩
theorem mw_yX12_mark : mw yX12_mark cX12_mark 1 (some FieldType.int) 0 := ⟨kw_2244, kw_151, nx_RX12, by decide +kernel⟩
theorem mw_yX12_copy : mw yX12_copy cX12_copy 4 (none : Option FieldType) 2 := ⟨kw_2248, kw_151, nx_RX12, by decide +kernel⟩
theorem mw_yX12_back : mw yX12_back cX12_back 1 (some FieldType.int) 0 := ⟨kw_2252, kw_151, nx_RX12, by decide +kernel⟩
set_option maxRecDepth 20000 in
theorem iw_0 : ∀ w ∈ u_ws RX0 TX0 10, w ∈ uT := by
  rw [show u_ws RX0 TX0 10 = [Cond.lays RX0 RX0 "size" "I", Cond.lays RX0 RX0 "leaks" "I", Cond.lays RX0 RX0 "side" "I", Cond.lays RX0 RX0 "costs" "I", Cond.lays RX0 RX0 "worth" "I", Cond.lays RX0 RX0 "breaks" "I", Cond.lays RX0 RX0 "filled" "I", Cond.lays RX0 RX0 "filledOn" "I", Cond.lays RX0 RX0 "sound" "I", Cond.lays RX0 RX0 "from" "I"] from rfl]
  exact List.forall_mem_cons.mpr ⟨(uT_in3 tb_1 157 rfl rfl : Cond.lays RX0 RX0 "size" "I" ∈ uT), List.forall_mem_cons.mpr ⟨(uT_in3 tb_1 159 rfl rfl : Cond.lays RX0 RX0 "leaks" "I" ∈ uT), List.forall_mem_cons.mpr ⟨(uT_in3 tb_1 161 rfl rfl : Cond.lays RX0 RX0 "side" "I" ∈ uT), List.forall_mem_cons.mpr ⟨(uT_in3 tb_1 163 rfl rfl : Cond.lays RX0 RX0 "costs" "I" ∈ uT), List.forall_mem_cons.mpr ⟨(uT_in3 tb_1 165 rfl rfl : Cond.lays RX0 RX0 "worth" "I" ∈ uT), List.forall_mem_cons.mpr ⟨(uT_in3 tb_1 167 rfl rfl : Cond.lays RX0 RX0 "breaks" "I" ∈ uT), List.forall_mem_cons.mpr ⟨(uT_in3 tb_1 169 rfl rfl : Cond.lays RX0 RX0 "filled" "I" ∈ uT), List.forall_mem_cons.mpr ⟨(uT_in3 tb_1 171 rfl rfl : Cond.lays RX0 RX0 "filledOn" "I" ∈ uT), List.forall_mem_cons.mpr ⟨(uT_in3 tb_1 173 rfl rfl : Cond.lays RX0 RX0 "sound" "I" ∈ uT), List.forall_mem_cons.mpr ⟨(uT_in3 tb_1 175 rfl rfl : Cond.lays RX0 RX0 "from" "I" ∈ uT), fun _ h => absurd h List.not_mem_nil⟩⟩⟩⟩⟩⟩⟩⟩⟩⟩
set_option maxRecDepth 20000 in
theorem iw_1 : ∀ w ∈ u_ws RX1 TX1 4, w ∈ uT := by
  rw [show u_ws RX1 TX1 4 = [Cond.laysFinal RX1 RX1 "firsts" "[I", Cond.laysFinal RX1 RX1 "seconds" "[I", Cond.laysFinal RX1 RX1 "gifts" "[I", Cond.lays RX1 RX1 "ruleCount" "I"] from rfl]
  exact List.forall_mem_cons.mpr ⟨(uT_in3 tb_2 4 rfl rfl : Cond.laysFinal RX1 RX1 "firsts" "[I" ∈ uT), List.forall_mem_cons.mpr ⟨(uT_in3 tb_2 6 rfl rfl : Cond.laysFinal RX1 RX1 "seconds" "[I" ∈ uT), List.forall_mem_cons.mpr ⟨(uT_in3 tb_2 8 rfl rfl : Cond.laysFinal RX1 RX1 "gifts" "[I" ∈ uT), List.forall_mem_cons.mpr ⟨(uT_in3 tb_2 10 rfl rfl : Cond.lays RX1 RX1 "ruleCount" "I" ∈ uT), fun _ h => absurd h List.not_mem_nil⟩⟩⟩⟩
set_option maxRecDepth 20000 in
theorem iw_2 : ∀ w ∈ u_ws RX2 TX2 1, w ∈ uT := by
  rw [show u_ws RX2 TX2 1 = [Cond.laysFinal RX2 RX2 "tape" "LEchoJars$Tape;"] from rfl]
  exact List.forall_mem_cons.mpr ⟨(uT_in3 tb_1 227 rfl rfl : Cond.laysFinal RX2 RX2 "tape" "LEchoJars$Tape;" ∈ uT), fun _ h => absurd h List.not_mem_nil⟩
set_option maxRecDepth 20000 in
theorem iw_3 : ∀ w ∈ u_ws RX3 TX3 3, w ∈ uT := by
  rw [show u_ws RX3 TX3 3 = [Cond.lays RX3 RX3 "stock" "LEchoJars$Shop;", Cond.lays RX3 RX3 "rules" "LEchoJars$Law;", Cond.lays RX3 RX3 "today" "I"] from rfl]
  exact List.forall_mem_cons.mpr ⟨(uT_in3 tb_2 25 rfl rfl : Cond.lays RX3 RX3 "stock" "LEchoJars$Shop;" ∈ uT), List.forall_mem_cons.mpr ⟨(uT_in3 tb_2 27 rfl rfl : Cond.lays RX3 RX3 "rules" "LEchoJars$Law;" ∈ uT), List.forall_mem_cons.mpr ⟨(uT_in3 tb_2 29 rfl rfl : Cond.lays RX3 RX3 "today" "I" ∈ uT), fun _ h => absurd h List.not_mem_nil⟩⟩⟩
set_option maxRecDepth 20000 in
theorem iw_4 : ∀ w ∈ u_ws RX4 TX4 9, w ∈ uT := by
  rw [show u_ws RX4 TX4 9 = [Cond.laysFinal RX4 RX4 "parts" "[LEchoJars$Row;", Cond.laysFinal RX4 RX4 "overlaps" "[I", Cond.laysFinal RX4 RX4 "rests" "[I", Cond.laysFinal RX4 RX4 "isOpen" "[Z", Cond.lays RX4 RX4 "open" "[I", Cond.lays RX4 RX4 "spare" "[I", Cond.lays RX4 RX4 "openCount" "I", Cond.lays RX4 RX4 "count" "I", Cond.laysFinal RX4 RX4 "best" "LEchoJars$Row;"] from rfl]
  exact List.forall_mem_cons.mpr ⟨(uT_in3 tb_2 52 rfl rfl : Cond.laysFinal RX4 RX4 "parts" "[LEchoJars$Row;" ∈ uT), List.forall_mem_cons.mpr ⟨(uT_in3 tb_2 54 rfl rfl : Cond.laysFinal RX4 RX4 "overlaps" "[I" ∈ uT), List.forall_mem_cons.mpr ⟨(uT_in3 tb_2 56 rfl rfl : Cond.laysFinal RX4 RX4 "rests" "[I" ∈ uT), List.forall_mem_cons.mpr ⟨(uT_in3 tb_2 58 rfl rfl : Cond.laysFinal RX4 RX4 "isOpen" "[Z" ∈ uT), List.forall_mem_cons.mpr ⟨(uT_in3 tb_2 60 rfl rfl : Cond.lays RX4 RX4 "open" "[I" ∈ uT), List.forall_mem_cons.mpr ⟨(uT_in3 tb_2 62 rfl rfl : Cond.lays RX4 RX4 "spare" "[I" ∈ uT), List.forall_mem_cons.mpr ⟨(uT_in3 tb_2 64 rfl rfl : Cond.lays RX4 RX4 "openCount" "I" ∈ uT), List.forall_mem_cons.mpr ⟨(uT_in3 tb_2 66 rfl rfl : Cond.lays RX4 RX4 "count" "I" ∈ uT), List.forall_mem_cons.mpr ⟨(uT_in3 tb_2 68 rfl rfl : Cond.laysFinal RX4 RX4 "best" "LEchoJars$Row;" ∈ uT), fun _ h => absurd h List.not_mem_nil⟩⟩⟩⟩⟩⟩⟩⟩⟩
set_option maxRecDepth 20000 in
theorem iw_5 : ∀ w ∈ u_ws RX5 TX5 5, w ∈ uT := by
  rw [show u_ws RX5 TX5 5 = [Cond.laysFinal RX5 RX5 "links" "[I", Cond.laysFinal RX5 RX5 "lengths" "[I", Cond.laysFinal RX5 RX5 "gains" "[I", Cond.laysFinal RX5 RX5 "chainOrder" "LEchoJars$Row;", Cond.laysFinal RX5 RX5 "shelfOrder" "LEchoJars$Row;"] from rfl]
  exact List.forall_mem_cons.mpr ⟨(uT_in3 tb_2 87 rfl rfl : Cond.laysFinal RX5 RX5 "links" "[I" ∈ uT), List.forall_mem_cons.mpr ⟨(uT_in3 tb_2 89 rfl rfl : Cond.laysFinal RX5 RX5 "lengths" "[I" ∈ uT), List.forall_mem_cons.mpr ⟨(uT_in3 tb_2 91 rfl rfl : Cond.laysFinal RX5 RX5 "gains" "[I" ∈ uT), List.forall_mem_cons.mpr ⟨(uT_in3 tb_2 93 rfl rfl : Cond.laysFinal RX5 RX5 "chainOrder" "LEchoJars$Row;" ∈ uT), List.forall_mem_cons.mpr ⟨(uT_in3 tb_2 95 rfl rfl : Cond.laysFinal RX5 RX5 "shelfOrder" "LEchoJars$Row;" ∈ uT), fun _ h => absurd h List.not_mem_nil⟩⟩⟩⟩⟩
set_option maxRecDepth 20000 in
theorem iw_6 : ∀ w ∈ u_ws RX6 TX6 3, w ∈ uT := by
  rw [show u_ws RX6 TX6 3 = [Cond.lays RX6 RX6 "numbers" "[I", Cond.lays RX6 RX6 "start" "I", Cond.lays RX6 RX6 "size" "I"] from rfl]
  exact List.forall_mem_cons.mpr ⟨(uT_in3 tb_1 117 rfl rfl : Cond.lays RX6 RX6 "numbers" "[I" ∈ uT), List.forall_mem_cons.mpr ⟨(uT_in3 tb_1 119 rfl rfl : Cond.lays RX6 RX6 "start" "I" ∈ uT), List.forall_mem_cons.mpr ⟨(uT_in3 tb_1 121 rfl rfl : Cond.lays RX6 RX6 "size" "I" ∈ uT), fun _ h => absurd h List.not_mem_nil⟩⟩⟩
set_option maxRecDepth 20000 in
theorem iw_7 : ∀ w ∈ u_ws RX7 TX7 4, w ∈ uT := by
  rw [show u_ws RX7 TX7 4 = [Cond.laysFinal RX7 RX7 "sounds" "[LEchoJars$Row;", Cond.laysFinal RX7 RX7 "jars" "[LEchoJars$Jar;", Cond.lays RX7 RX7 "soundCount" "I", Cond.lays RX7 RX7 "jarCount" "I"] from rfl]
  exact List.forall_mem_cons.mpr ⟨(uT_in3 tb_1 192 rfl rfl : Cond.laysFinal RX7 RX7 "sounds" "[LEchoJars$Row;" ∈ uT), List.forall_mem_cons.mpr ⟨(uT_in3 tb_1 194 rfl rfl : Cond.laysFinal RX7 RX7 "jars" "[LEchoJars$Jar;" ∈ uT), List.forall_mem_cons.mpr ⟨(uT_in3 tb_1 196 rfl rfl : Cond.lays RX7 RX7 "soundCount" "I" ∈ uT), List.forall_mem_cons.mpr ⟨(uT_in3 tb_1 198 rfl rfl : Cond.lays RX7 RX7 "jarCount" "I" ∈ uT), fun _ h => absurd h List.not_mem_nil⟩⟩⟩⟩
set_option maxRecDepth 20000 in
theorem iw_8 : ∀ w ∈ u_ws RX8 TX8 6, w ∈ uT := by
  rw [show u_ws RX8 TX8 6 = [Cond.laysFinal RX8 RX8 "tape" "LEchoJars$Tape;", Cond.laysFinal RX8 RX8 "soundNames" "[I", Cond.laysFinal RX8 RX8 "soundSizes" "[I", Cond.laysFinal RX8 RX8 "jarNames" "[I", Cond.laysFinal RX8 RX8 "jarSizes" "[I", Cond.lays RX8 RX8 "made" "LEchoJars$Shop;"] from rfl]
  exact List.forall_mem_cons.mpr ⟨(uT_in3 tb_1 207 rfl rfl : Cond.laysFinal RX8 RX8 "tape" "LEchoJars$Tape;" ∈ uT), List.forall_mem_cons.mpr ⟨(uT_in3 tb_1 209 rfl rfl : Cond.laysFinal RX8 RX8 "soundNames" "[I" ∈ uT), List.forall_mem_cons.mpr ⟨(uT_in3 tb_1 211 rfl rfl : Cond.laysFinal RX8 RX8 "soundSizes" "[I" ∈ uT), List.forall_mem_cons.mpr ⟨(uT_in3 tb_1 213 rfl rfl : Cond.laysFinal RX8 RX8 "jarNames" "[I" ∈ uT), List.forall_mem_cons.mpr ⟨(uT_in3 tb_1 215 rfl rfl : Cond.laysFinal RX8 RX8 "jarSizes" "[I" ∈ uT), List.forall_mem_cons.mpr ⟨(uT_in3 tb_1 217 rfl rfl : Cond.lays RX8 RX8 "made" "LEchoJars$Shop;" ∈ uT), fun _ h => absurd h List.not_mem_nil⟩⟩⟩⟩⟩⟩
set_option maxRecDepth 20000 in
theorem iw_9 : ∀ w ∈ u_ws RX9 TX9 8, w ∈ uT := by
  rw [show u_ws RX9 TX9 8 = [Cond.laysFinal RX9 RX9 "bytes" "[B", Cond.lays RX9 RX9 "used" "I", Cond.lays RX9 RX9 "fault" "I", Cond.lays RX9 RX9 "faultPlace" "I", Cond.lays RX9 RX9 "start" "I", Cond.lays RX9 RX9 "length" "I", Cond.lays RX9 RX9 "end" "I", Cond.lays RX9 RX9 "kind" "I"] from rfl]
  exact List.forall_mem_cons.mpr ⟨(uT_in3 tb_1 68 rfl rfl : Cond.laysFinal RX9 RX9 "bytes" "[B" ∈ uT), List.forall_mem_cons.mpr ⟨(uT_in3 tb_1 70 rfl rfl : Cond.lays RX9 RX9 "used" "I" ∈ uT), List.forall_mem_cons.mpr ⟨(uT_in3 tb_1 72 rfl rfl : Cond.lays RX9 RX9 "fault" "I" ∈ uT), List.forall_mem_cons.mpr ⟨(uT_in3 tb_1 74 rfl rfl : Cond.lays RX9 RX9 "faultPlace" "I" ∈ uT), List.forall_mem_cons.mpr ⟨(uT_in3 tb_1 76 rfl rfl : Cond.lays RX9 RX9 "start" "I" ∈ uT), List.forall_mem_cons.mpr ⟨(uT_in3 tb_1 78 rfl rfl : Cond.lays RX9 RX9 "length" "I" ∈ uT), List.forall_mem_cons.mpr ⟨(uT_in3 tb_1 80 rfl rfl : Cond.lays RX9 RX9 "end" "I" ∈ uT), List.forall_mem_cons.mpr ⟨(uT_in3 tb_1 82 rfl rfl : Cond.lays RX9 RX9 "kind" "I" ∈ uT), fun _ h => absurd h List.not_mem_nil⟩⟩⟩⟩⟩⟩⟩⟩
set_option maxRecDepth 20000 in
theorem iw_10 : ∀ w ∈ u_ws RX10 TX10 3, w ∈ uT := by
  rw [show u_ws RX10 TX10 3 = [Cond.laysFinal RX10 RX10 "numbers" "[J", Cond.lays RX10 RX10 "sort" "I", Cond.lays RX10 RX10 "size" "I"] from rfl]
  exact List.forall_mem_cons.mpr ⟨(uT_in3 tb_1 42 rfl rfl : Cond.laysFinal RX10 RX10 "numbers" "[J" ∈ uT), List.forall_mem_cons.mpr ⟨(uT_in3 tb_1 44 rfl rfl : Cond.lays RX10 RX10 "sort" "I" ∈ uT), List.forall_mem_cons.mpr ⟨(uT_in3 tb_1 46 rfl rfl : Cond.lays RX10 RX10 "size" "I" ∈ uT), fun _ h => absurd h List.not_mem_nil⟩⟩⟩
set_option maxRecDepth 20000 in
theorem iw_11 : ∀ w ∈ u_ws RX11 TX11 20, w ∈ uT := by
  rw [show u_ws RX11 TX11 20 = [Cond.laysFinal RX11 RX11 "trays" "[LEchoJars$Tray;", Cond.laysFinal RX11 RX11 "tape" "LEchoJars$Tape;", Cond.laysFinal RX11 RX11 "shopReader" "LEchoJars$ShopReader;", Cond.laysFinal RX11 RX11 "lawReader" "LEchoJars$LawReader;", Cond.laysFinal RX11 RX11 "marks" "[LEchoJars$Mark;", Cond.laysFinal RX11 RX11 "heardRows" "[LEchoJars$Row;", Cond.laysFinal RX11 RX11 "slice" "LEchoJars$Row;", Cond.laysFinal RX11 RX11 "mixed" "LEchoJars$Row;", Cond.laysFinal RX11 RX11 "counts" "[I", Cond.laysFinal RX11 RX11 "brokeDays" "[I", Cond.laysFinal RX11 RX11 "triedDays" "[I", Cond.laysFinal RX11 RX11 "merger" "LEchoJars$Merger;", Cond.laysFinal RX11 RX11 "planner" "LEchoJars$Planner;", Cond.lays RX11 RX11 "stock" "LEchoJars$Shop;", Cond.lays RX11 RX11 "rules" "LEchoJars$Law;", Cond.lays RX11 RX11 "today" "I", Cond.lays RX11 RX11 "markCount" "I", Cond.lays RX11 RX11 "state" "I", Cond.lays RX11 RX11 "fractionTop" "J", Cond.lays RX11 RX11 "fractionBottom" "J"] from rfl]
  exact List.forall_mem_cons.mpr ⟨(uT_in3 tb_2 118 rfl rfl : Cond.laysFinal RX11 RX11 "trays" "[LEchoJars$Tray;" ∈ uT), List.forall_mem_cons.mpr ⟨(uT_in3 tb_2 120 rfl rfl : Cond.laysFinal RX11 RX11 "tape" "LEchoJars$Tape;" ∈ uT), List.forall_mem_cons.mpr ⟨(uT_in3 tb_2 122 rfl rfl : Cond.laysFinal RX11 RX11 "shopReader" "LEchoJars$ShopReader;" ∈ uT), List.forall_mem_cons.mpr ⟨(uT_in3 tb_2 124 rfl rfl : Cond.laysFinal RX11 RX11 "lawReader" "LEchoJars$LawReader;" ∈ uT), List.forall_mem_cons.mpr ⟨(uT_in3 tb_2 126 rfl rfl : Cond.laysFinal RX11 RX11 "marks" "[LEchoJars$Mark;" ∈ uT), List.forall_mem_cons.mpr ⟨(uT_in3 tb_2 128 rfl rfl : Cond.laysFinal RX11 RX11 "heardRows" "[LEchoJars$Row;" ∈ uT), List.forall_mem_cons.mpr ⟨(uT_in3 tb_2 130 rfl rfl : Cond.laysFinal RX11 RX11 "slice" "LEchoJars$Row;" ∈ uT), List.forall_mem_cons.mpr ⟨(uT_in3 tb_2 132 rfl rfl : Cond.laysFinal RX11 RX11 "mixed" "LEchoJars$Row;" ∈ uT), List.forall_mem_cons.mpr ⟨(uT_in3 tb_2 134 rfl rfl : Cond.laysFinal RX11 RX11 "counts" "[I" ∈ uT), List.forall_mem_cons.mpr ⟨(uT_in3 tb_2 136 rfl rfl : Cond.laysFinal RX11 RX11 "brokeDays" "[I" ∈ uT), List.forall_mem_cons.mpr ⟨(uT_in3 tb_2 138 rfl rfl : Cond.laysFinal RX11 RX11 "triedDays" "[I" ∈ uT), List.forall_mem_cons.mpr ⟨(uT_in3 tb_2 140 rfl rfl : Cond.laysFinal RX11 RX11 "merger" "LEchoJars$Merger;" ∈ uT), List.forall_mem_cons.mpr ⟨(uT_in3 tb_2 142 rfl rfl : Cond.laysFinal RX11 RX11 "planner" "LEchoJars$Planner;" ∈ uT), List.forall_mem_cons.mpr ⟨(uT_in3 tb_2 144 rfl rfl : Cond.lays RX11 RX11 "stock" "LEchoJars$Shop;" ∈ uT), List.forall_mem_cons.mpr ⟨(uT_in3 tb_2 146 rfl rfl : Cond.lays RX11 RX11 "rules" "LEchoJars$Law;" ∈ uT), List.forall_mem_cons.mpr ⟨(uT_in3 tb_2 148 rfl rfl : Cond.lays RX11 RX11 "today" "I" ∈ uT), List.forall_mem_cons.mpr ⟨(uT_in3 tb_2 150 rfl rfl : Cond.lays RX11 RX11 "markCount" "I" ∈ uT), List.forall_mem_cons.mpr ⟨(uT_in3 tb_2 152 rfl rfl : Cond.lays RX11 RX11 "state" "I" ∈ uT), List.forall_mem_cons.mpr ⟨(uT_in3 tb_2 154 rfl rfl : Cond.lays RX11 RX11 "fractionTop" "J" ∈ uT), List.forall_mem_cons.mpr ⟨(uT_in3 tb_2 156 rfl rfl : Cond.lays RX11 RX11 "fractionBottom" "J" ∈ uT), fun _ h => absurd h List.not_mem_nil⟩⟩⟩⟩⟩⟩⟩⟩⟩⟩⟩⟩⟩⟩⟩⟩⟩⟩⟩⟩
set_option maxRecDepth 20000 in
theorem iw_12 : ∀ w ∈ u_ws RX12 TX12 48, w ∈ uT := by
  rw [show u_ws RX12 TX12 48 = [Cond.lays RX12 RX12 "status" "I", Cond.lays RX12 RX12 "thrown" "I", Cond.lays RX12 RX12 "above" "J", Cond.lays RX12 RX12 "under" "J", Cond.laysFinal RX12 RX12 "traySort" "[I", Cond.laysFinal RX12 RX12 "trayMany" "[I", Cond.laysFinal RX12 RX12 "numbers" "[J", Cond.laysFinal RX12 RX12 "tape" "[B", Cond.lays RX12 RX12 "taped" "I", Cond.lays RX12 RX12 "textEnd" "I", Cond.lays RX12 RX12 "faultKind" "I", Cond.lays RX12 RX12 "faultAt" "I", Cond.lays RX12 RX12 "bad" "I", Cond.lays RX12 RX12 "badAt" "I", Cond.lays RX12 RX12 "token" "I", Cond.lays RX12 RX12 "at" "I", Cond.lays RX12 RX12 "behind" "I", Cond.lays RX12 RX12 "number" "I", Cond.lays RX12 RX12 "letters" "I", Cond.lays RX12 RX12 "word" "J", Cond.laysFinal RX12 RX12 "c" "[I", Cond.laysFinal RX12 RX12 "words" "[J", Cond.lays RX12 RX12 "markMany" "I", Cond.laysFinal RX12 RX12 "rowA" "[I", Cond.laysFinal RX12 RX12 "rowB" "[I", Cond.laysFinal RX12 RX12 "rowC" "[I", Cond.lays RX12 RX12 "rulesRead" "I", Cond.laysFinal RX12 RX12 "dist" "[I", Cond.laysFinal RX12 RX12 "chained" "[I", Cond.laysFinal RX12 RX12 "chainBest" "[I", Cond.laysFinal RX12 RX12 "chainTold" "[I", Cond.lays RX12 RX12 "chainMany" "I", Cond.lays RX12 RX12 "chainToldMany" "I", Cond.laysFinal RX12 RX12 "mergeJars" "[I", Cond.laysFinal RX12 RX12 "mergeTold" "[I", Cond.laysFinal RX12 RX12 "mergeBest" "[I", Cond.lays RX12 RX12 "mergeMany" "I", Cond.lays RX12 RX12 "mergeLength" "I", Cond.lays RX12 RX12 "mergeToldLength" "I", Cond.laysFinal RX12 RX12 "rest" "[I", Cond.laysFinal RX12 RX12 "shelfTold" "[I", Cond.lays RX12 RX12 "shelfMany" "I", Cond.laysFinal RX12 RX12 "pieces" "[I", Cond.laysFinal RX12 RX12 "joins" "[I", Cond.lays RX12 RX12 "random" "I", Cond.lays RX12 RX12 "roadMany" "I", Cond.laysFinal RX12 RX12 "broke" "[I", Cond.laysFinal RX12 RX12 "roadTold" "[I"] from rfl]
  exact List.forall_mem_cons.mpr ⟨(uT_in3 tb_6 197 rfl rfl : Cond.lays RX12 RX12 "status" "I" ∈ uT), List.forall_mem_cons.mpr ⟨(uT_in3 tb_6 199 rfl rfl : Cond.lays RX12 RX12 "thrown" "I" ∈ uT), List.forall_mem_cons.mpr ⟨(uT_in3 tb_6 201 rfl rfl : Cond.lays RX12 RX12 "above" "J" ∈ uT), List.forall_mem_cons.mpr ⟨(uT_in3 tb_6 203 rfl rfl : Cond.lays RX12 RX12 "under" "J" ∈ uT), List.forall_mem_cons.mpr ⟨(uT_in3 tb_6 205 rfl rfl : Cond.laysFinal RX12 RX12 "traySort" "[I" ∈ uT), List.forall_mem_cons.mpr ⟨(uT_in3 tb_6 207 rfl rfl : Cond.laysFinal RX12 RX12 "trayMany" "[I" ∈ uT), List.forall_mem_cons.mpr ⟨(uT_in3 tb_6 209 rfl rfl : Cond.laysFinal RX12 RX12 "numbers" "[J" ∈ uT), List.forall_mem_cons.mpr ⟨(uT_in3 tb_6 211 rfl rfl : Cond.laysFinal RX12 RX12 "tape" "[B" ∈ uT), List.forall_mem_cons.mpr ⟨(uT_in3 tb_6 213 rfl rfl : Cond.lays RX12 RX12 "taped" "I" ∈ uT), List.forall_mem_cons.mpr ⟨(uT_in3 tb_6 215 rfl rfl : Cond.lays RX12 RX12 "textEnd" "I" ∈ uT), List.forall_mem_cons.mpr ⟨(uT_in3 tb_6 217 rfl rfl : Cond.lays RX12 RX12 "faultKind" "I" ∈ uT), List.forall_mem_cons.mpr ⟨(uT_in3 tb_6 219 rfl rfl : Cond.lays RX12 RX12 "faultAt" "I" ∈ uT), List.forall_mem_cons.mpr ⟨(uT_in3 tb_6 221 rfl rfl : Cond.lays RX12 RX12 "bad" "I" ∈ uT), List.forall_mem_cons.mpr ⟨(uT_in3 tb_6 223 rfl rfl : Cond.lays RX12 RX12 "badAt" "I" ∈ uT), List.forall_mem_cons.mpr ⟨(uT_in3 tb_6 225 rfl rfl : Cond.lays RX12 RX12 "token" "I" ∈ uT), List.forall_mem_cons.mpr ⟨(uT_in3 tb_6 227 rfl rfl : Cond.lays RX12 RX12 "at" "I" ∈ uT), List.forall_mem_cons.mpr ⟨(uT_in3 tb_6 229 rfl rfl : Cond.lays RX12 RX12 "behind" "I" ∈ uT), List.forall_mem_cons.mpr ⟨(uT_in3 tb_6 231 rfl rfl : Cond.lays RX12 RX12 "number" "I" ∈ uT), List.forall_mem_cons.mpr ⟨(uT_in3 tb_6 233 rfl rfl : Cond.lays RX12 RX12 "letters" "I" ∈ uT), List.forall_mem_cons.mpr ⟨(uT_in3 tb_6 235 rfl rfl : Cond.lays RX12 RX12 "word" "J" ∈ uT), List.forall_mem_cons.mpr ⟨(uT_in3 tb_6 237 rfl rfl : Cond.laysFinal RX12 RX12 "c" "[I" ∈ uT), List.forall_mem_cons.mpr ⟨(uT_in3 tb_6 239 rfl rfl : Cond.laysFinal RX12 RX12 "words" "[J" ∈ uT), List.forall_mem_cons.mpr ⟨(uT_in3 tb_7 1 rfl rfl : Cond.lays RX12 RX12 "markMany" "I" ∈ uT), List.forall_mem_cons.mpr ⟨(uT_in3 tb_7 3 rfl rfl : Cond.laysFinal RX12 RX12 "rowA" "[I" ∈ uT), List.forall_mem_cons.mpr ⟨(uT_in3 tb_7 5 rfl rfl : Cond.laysFinal RX12 RX12 "rowB" "[I" ∈ uT), List.forall_mem_cons.mpr ⟨(uT_in3 tb_7 7 rfl rfl : Cond.laysFinal RX12 RX12 "rowC" "[I" ∈ uT), List.forall_mem_cons.mpr ⟨(uT_in3 tb_7 9 rfl rfl : Cond.lays RX12 RX12 "rulesRead" "I" ∈ uT), List.forall_mem_cons.mpr ⟨(uT_in3 tb_7 11 rfl rfl : Cond.laysFinal RX12 RX12 "dist" "[I" ∈ uT), List.forall_mem_cons.mpr ⟨(uT_in3 tb_7 13 rfl rfl : Cond.laysFinal RX12 RX12 "chained" "[I" ∈ uT), List.forall_mem_cons.mpr ⟨(uT_in3 tb_7 15 rfl rfl : Cond.laysFinal RX12 RX12 "chainBest" "[I" ∈ uT), List.forall_mem_cons.mpr ⟨(uT_in3 tb_7 17 rfl rfl : Cond.laysFinal RX12 RX12 "chainTold" "[I" ∈ uT), List.forall_mem_cons.mpr ⟨(uT_in3 tb_7 19 rfl rfl : Cond.lays RX12 RX12 "chainMany" "I" ∈ uT), List.forall_mem_cons.mpr ⟨(uT_in3 tb_7 21 rfl rfl : Cond.lays RX12 RX12 "chainToldMany" "I" ∈ uT), List.forall_mem_cons.mpr ⟨(uT_in3 tb_7 23 rfl rfl : Cond.laysFinal RX12 RX12 "mergeJars" "[I" ∈ uT), List.forall_mem_cons.mpr ⟨(uT_in3 tb_7 25 rfl rfl : Cond.laysFinal RX12 RX12 "mergeTold" "[I" ∈ uT), List.forall_mem_cons.mpr ⟨(uT_in3 tb_7 27 rfl rfl : Cond.laysFinal RX12 RX12 "mergeBest" "[I" ∈ uT), List.forall_mem_cons.mpr ⟨(uT_in3 tb_7 29 rfl rfl : Cond.lays RX12 RX12 "mergeMany" "I" ∈ uT), List.forall_mem_cons.mpr ⟨(uT_in3 tb_7 31 rfl rfl : Cond.lays RX12 RX12 "mergeLength" "I" ∈ uT), List.forall_mem_cons.mpr ⟨(uT_in3 tb_7 33 rfl rfl : Cond.lays RX12 RX12 "mergeToldLength" "I" ∈ uT), List.forall_mem_cons.mpr ⟨(uT_in3 tb_7 35 rfl rfl : Cond.laysFinal RX12 RX12 "rest" "[I" ∈ uT), List.forall_mem_cons.mpr ⟨(uT_in3 tb_7 37 rfl rfl : Cond.laysFinal RX12 RX12 "shelfTold" "[I" ∈ uT), List.forall_mem_cons.mpr ⟨(uT_in3 tb_7 39 rfl rfl : Cond.lays RX12 RX12 "shelfMany" "I" ∈ uT), List.forall_mem_cons.mpr ⟨(uT_in3 tb_7 41 rfl rfl : Cond.laysFinal RX12 RX12 "pieces" "[I" ∈ uT), List.forall_mem_cons.mpr ⟨(uT_in3 tb_7 43 rfl rfl : Cond.laysFinal RX12 RX12 "joins" "[I" ∈ uT), List.forall_mem_cons.mpr ⟨(uT_in3 tb_7 45 rfl rfl : Cond.lays RX12 RX12 "random" "I" ∈ uT), List.forall_mem_cons.mpr ⟨(uT_in3 tb_7 47 rfl rfl : Cond.lays RX12 RX12 "roadMany" "I" ∈ uT), List.forall_mem_cons.mpr ⟨(uT_in3 tb_7 49 rfl rfl : Cond.laysFinal RX12 RX12 "broke" "[I" ∈ uT), List.forall_mem_cons.mpr ⟨(uT_in3 tb_7 51 rfl rfl : Cond.laysFinal RX12 RX12 "roadTold" "[I" ∈ uT), fun _ h => absurd h List.not_mem_nil⟩⟩⟩⟩⟩⟩⟩⟩⟩⟩⟩⟩⟩⟩⟩⟩⟩⟩⟩⟩⟩⟩⟩⟩⟩⟩⟩⟩⟩⟩⟩⟩⟩⟩⟩⟩⟩⟩⟩⟩⟩⟩⟩⟩⟩⟩⟩⟩
