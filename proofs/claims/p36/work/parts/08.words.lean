/-! printed by gen2.py: the words by their places in the tables; the packages of the methods; the rows of the fields -/
theorem fl_X0_11 : Cond.fieldLink RX0 11 "Monobuild$FileTable" "paths" "[LMonobuild$Text;" ∈ TsG := TsG_t (List.mem_of_getElem? (i := 53) (by decide +kernel)) (by decide +kernel)
theorem fl_X0_17 : Cond.fieldLink RX0 17 "Monobuild$FileTable" "contents" "[I" ∈ TsG := TsG_t (List.mem_of_getElem? (i := 54) (by decide +kernel)) (by decide +kernel)
theorem fl_X0_21 : Cond.fieldLink RX0 21 "Monobuild$FileTable" "markedContents" "[I" ∈ TsG := TsG_t (List.mem_of_getElem? (i := 55) (by decide +kernel)) (by decide +kernel)
theorem fl_X0_25 : Cond.fieldLink RX0 25 "Monobuild$FileTable" "count" "I" ∈ TsG := TsG_t (List.mem_of_getElem? (i := 56) (by decide +kernel)) (by decide +kernel)
theorem fl_X0_33 : Cond.fieldLink RX0 33 "Monobuild$FileTable" "there" "I" ∈ TsG := TsG_t (List.mem_of_getElem? (i := 57) (by decide +kernel)) (by decide +kernel)
theorem fl_X0_51 : Cond.fieldLink RX0 51 "Monobuild$FileTable" "markedThere" "I" ∈ TsG := TsG_t (List.mem_of_getElem? (i := 58) (by decide +kernel)) (by decide +kernel)
theorem fl_X1_15 : Cond.fieldLink RX1 15 "Monobuild$Globs" "most" "I" ∈ TsG := TsG_t (List.mem_of_getElem? (i := 93) (by decide +kernel)) (by decide +kernel)
theorem fl_X1_23 : Cond.fieldLink RX1 23 "Monobuild$Globs" "patterns" "[LMonobuild$Text;" ∈ TsG := TsG_t (List.mem_of_getElem? (i := 91) (by decide +kernel)) (by decide +kernel)
theorem fl_X1_27 : Cond.fieldLink RX1 27 "Monobuild$Globs" "coveredFiles" "[I" ∈ TsG := TsG_t (List.mem_of_getElem? (i := 92) (by decide +kernel)) (by decide +kernel)
theorem fl_X1_32 : Cond.fieldLink RX1 32 "Monobuild$Globs" "count" "I" ∈ TsG := TsG_t (List.mem_of_getElem? (i := 94) (by decide +kernel)) (by decide +kernel)
theorem fl_X2_9 : Cond.fieldLink RX2 9 "Monobuild$Graph" "costs" "[I" ∈ TsG := TsG_t (List.mem_of_getElem? (i := 104) (by decide +kernel)) (by decide +kernel)
theorem fl_X2_15 : Cond.fieldLink RX2 15 "Monobuild$Graph" "dependencies" "[I" ∈ TsG := TsG_t (List.mem_of_getElem? (i := 105) (by decide +kernel)) (by decide +kernel)
theorem fl_X2_20 : Cond.fieldLink RX2 20 "Monobuild$Graph" "globs" "[LMonobuild$Globs;" ∈ TsG := TsG_t (List.mem_of_getElem? (i := 106) (by decide +kernel)) (by decide +kernel)
theorem fl_X2_24 : Cond.fieldLink RX2 24 "Monobuild$Graph" "order" "[I" ∈ TsG := TsG_t (List.mem_of_getElem? (i := 107) (by decide +kernel)) (by decide +kernel)
theorem fl_X2_30 : Cond.fieldLink RX2 30 "Monobuild$Graph" "count" "I" ∈ TsG := TsG_t (List.mem_of_getElem? (i := 108) (by decide +kernel)) (by decide +kernel)
theorem fl_X3_13 : Cond.fieldLink RX3 13 "Monobuild$KeyBook" "rows" "[[I" ∈ TsG := TsG_t (List.mem_of_getElem? (i := 130) (by decide +kernel)) (by decide +kernel)
theorem fl_X3_16 : Cond.fieldLink RX3 16 "Monobuild$KeyBook" "holders" "[I" ∈ TsG := TsG_t (List.mem_of_getElem? (i := 131) (by decide +kernel)) (by decide +kernel)
theorem fl_X3_20 : Cond.fieldLink RX3 20 "Monobuild$KeyBook" "present" "[I" ∈ TsG := TsG_t (List.mem_of_getElem? (i := 132) (by decide +kernel)) (by decide +kernel)
theorem fl_X3_23 : Cond.fieldLink RX3 23 "Monobuild$KeyBook" "latest" "[I" ∈ TsG := TsG_t (List.mem_of_getElem? (i := 133) (by decide +kernel)) (by decide +kernel)
theorem fl_X3_26 : Cond.fieldLink RX3 26 "Monobuild$KeyBook" "row" "[I" ∈ TsG := TsG_t (List.mem_of_getElem? (i := 134) (by decide +kernel)) (by decide +kernel)
theorem fl_X3_29 : Cond.fieldLink RX3 29 "Monobuild$KeyBook" "tree" "LMonobuild$FileTable;" ∈ TsG := TsG_t (List.mem_of_getElem? (i := 128) (by decide +kernel)) (by decide +kernel)
theorem fl_X3_33 : Cond.fieldLink RX3 33 "Monobuild$KeyBook" "graph" "LMonobuild$Graph;" ∈ TsG := TsG_t (List.mem_of_getElem? (i := 129) (by decide +kernel)) (by decide +kernel)
theorem fl_X3_37 : Cond.fieldLink RX3 37 "Monobuild$KeyBook" "count" "I" ∈ TsG := TsG_t (List.mem_of_getElem? (i := 135) (by decide +kernel)) (by decide +kernel)
theorem fl_X4_14 : Cond.fieldLink RX4 14 "Monobuild$RuleBook" "globs" "LMonobuild$Globs;" ∈ TsG := TsG_t (List.mem_of_getElem? (i := 174) (by decide +kernel)) (by decide +kernel)
theorem fl_X4_20 : Cond.fieldLink RX4 20 "Monobuild$RuleBook" "owners" "[I" ∈ TsG := TsG_t (List.mem_of_getElem? (i := 175) (by decide +kernel)) (by decide +kernel)
theorem fl_X5_9 : Cond.fieldLink RX5 9 "Monobuild$Spread" "loads" "[I" ∈ TsG := TsG_t (List.mem_of_getElem? (i := 159) (by decide +kernel)) (by decide +kernel)
theorem fl_X5_15 : Cond.fieldLink RX5 15 "Monobuild$Spread" "places" "[I" ∈ TsG := TsG_t (List.mem_of_getElem? (i := 160) (by decide +kernel)) (by decide +kernel)
theorem fl_X6_9 : Cond.fieldLink RX6 9 "Monobuild$Text" "signs" "[C" ∈ TsG := TsG_t (List.mem_of_getElem? (i := 36) (by decide +kernel)) (by decide +kernel)
theorem fl_X6_15 : Cond.fieldLink RX6 15 "Monobuild$Text" "length" "I" ∈ TsG := TsG_t (List.mem_of_getElem? (i := 37) (by decide +kernel)) (by decide +kernel)
theorem fl_X7_10 : Cond.fieldLink RX7 10 "Monobuild" "text" "LMonobuild$Text;" ∈ TsG := TsG_t (List.mem_of_getElem? (i := 181) (by decide +kernel)) (by decide +kernel)
theorem fl_X7_19 : Cond.fieldLink RX7 19 "Monobuild" "tree" "LMonobuild$FileTable;" ∈ TsG := TsG_t (List.mem_of_getElem? (i := 182) (by decide +kernel)) (by decide +kernel)
theorem fl_X7_26 : Cond.fieldLink RX7 26 "Monobuild" "graph" "LMonobuild$Graph;" ∈ TsG := TsG_t (List.mem_of_getElem? (i := 183) (by decide +kernel)) (by decide +kernel)
theorem fl_X7_35 : Cond.fieldLink RX7 35 "Monobuild" "book" "LMonobuild$KeyBook;" ∈ TsG := TsG_t (List.mem_of_getElem? (i := 184) (by decide +kernel)) (by decide +kernel)
theorem fl_X7_42 : Cond.fieldLink RX7 42 "Monobuild" "spread" "LMonobuild$Spread;" ∈ TsG := TsG_t (List.mem_of_getElem? (i := 185) (by decide +kernel)) (by decide +kernel)
theorem fl_X7_49 : Cond.fieldLink RX7 49 "Monobuild" "rules" "LMonobuild$RuleBook;" ∈ TsG := TsG_t (List.mem_of_getElem? (i := 186) (by decide +kernel)) (by decide +kernel)
theorem ml_L_7 : Cond.methodLink RL 7 yX7_type ∈ TsG := TsG_t (List.mem_of_getElem? (i := 255) (by decide +kernel)) (by decide +kernel)
theorem ml_L_13 : Cond.methodLink RL 13 yX7_addFile ∈ TsG := TsG_t (List.mem_of_getElem? (i := 354) (by decide +kernel)) (by decide +kernel)
theorem ml_L_17 : Cond.methodLink RL 17 yX7_edit ∈ TsG := TsG_t (List.mem_of_getElem? (i := 435) (by decide +kernel)) (by decide +kernel)
theorem ml_L_21 : Cond.methodLink RL 21 yX7_delete ∈ TsG := TsG_t (List.mem_of_getElem? (i := 463) (by decide +kernel)) (by decide +kernel)
theorem ml_L_24 : Cond.methodLink RL 24 yX7_matches ∈ TsG := TsG_t (List.mem_of_getElem? (i := 471) (by decide +kernel)) (by decide +kernel)
theorem ml_L_28 : Cond.methodLink RL 28 yX7_addTarget ∈ TsG := TsG_t (List.mem_of_getElem? (i := 487) (by decide +kernel)) (by decide +kernel)
theorem ml_L_31 : Cond.methodLink RL 31 yX7_addGlob ∈ TsG := TsG_t (List.mem_of_getElem? (i := 501) (by decide +kernel)) (by decide +kernel)
theorem ml_L_34 : Cond.methodLink RL 34 yX7_depend ∈ TsG := TsG_t (List.mem_of_getElem? (i := 551) (by decide +kernel)) (by decide +kernel)
theorem ml_L_37 : Cond.methodLink RL 37 yX7_inputs ∈ TsG := TsG_t (List.mem_of_getElem? (i := 570) (by decide +kernel)) (by decide +kernel)
theorem ml_L_40 : Cond.methodLink RL 40 yX7_above ∈ TsG := TsG_t (List.mem_of_getElem? (i := 574) (by decide +kernel)) (by decide +kernel)
theorem ml_L_43 : Cond.methodLink RL 43 yX7_orderAt ∈ TsG := TsG_t (List.mem_of_getElem? (i := 578) (by decide +kernel)) (by decide +kernel)
theorem ml_L_46 : Cond.methodLink RL 46 yX7_affectedBy ∈ TsG := TsG_t (List.mem_of_getElem? (i := 604) (by decide +kernel)) (by decide +kernel)
theorem ml_L_49 : Cond.methodLink RL 49 yX7_affectedByGoingDown ∈ TsG := TsG_t (List.mem_of_getElem? (i := 613) (by decide +kernel)) (by decide +kernel)
theorem ml_L_52 : Cond.methodLink RL 52 yX7_keyOf ∈ TsG := TsG_t (List.mem_of_getElem? (i := 625) (by decide +kernel)) (by decide +kernel)
theorem ml_L_55 : Cond.methodLink RL 55 yX7_whyRun ∈ TsG := TsG_t (List.mem_of_getElem? (i := 670) (by decide +kernel)) (by decide +kernel)
theorem ml_L_58 : Cond.methodLink RL 58 yX7_run ∈ TsG := TsG_t (List.mem_of_getElem? (i := 682) (by decide +kernel)) (by decide +kernel)
theorem ml_L_61 : Cond.methodLink RL 61 yX7_runAll ∈ TsG := TsG_t (List.mem_of_getElem? (i := 704) (by decide +kernel)) (by decide +kernel)
theorem ml_L_65 : Cond.methodLink RL 65 yX7_shardOf ∈ TsG := TsG_t (List.mem_of_getElem? (i := 714) (by decide +kernel)) (by decide +kernel)
theorem ml_L_68 : Cond.methodLink RL 68 yX7_longestShard ∈ TsG := TsG_t (List.mem_of_getElem? (i := 749) (by decide +kernel)) (by decide +kernel)
theorem ml_L_71 : Cond.methodLink RL 71 yX7_shardsFor ∈ TsG := TsG_t (List.mem_of_getElem? (i := 758) (by decide +kernel)) (by decide +kernel)
theorem ml_L_74 : Cond.methodLink RL 74 yX7_addRule ∈ TsG := TsG_t (List.mem_of_getElem? (i := 763) (by decide +kernel)) (by decide +kernel)
theorem ml_L_77 : Cond.methodLink RL 77 yX7_ownerOf ∈ TsG := TsG_t (List.mem_of_getElem? (i := 787) (by decide +kernel)) (by decide +kernel)
theorem ml_L_86 : Cond.methodLink RL 86 yL_act ∈ TsG := TsG_t (List.mem_of_getElem? (i := 249) (by decide +kernel)) (by decide +kernel)
theorem ml_L_92 : Cond.methodLink RL 92 yX7_clearText ∈ TsG := TsG_t (List.mem_of_getElem? (i := 200) (by decide +kernel)) (by decide +kernel)
theorem ml_L_95 : Cond.methodLink RL 95 yL_add ∈ TsG := TsG_t (List.mem_of_getElem? (i := 246) (by decide +kernel)) (by decide +kernel)
theorem ml_L_99 : Cond.methodLink RL 99 yX7_files ∈ TsG := TsG_t (List.mem_of_getElem? (i := 804) (by decide +kernel)) (by decide +kernel)
theorem ml_L_102 : Cond.methodLink RL 102 yX7_targets ∈ TsG := TsG_t (List.mem_of_getElem? (i := 833) (by decide +kernel)) (by decide +kernel)
theorem ml_L_105 : Cond.methodLink RL 105 yX7_keys ∈ TsG := TsG_t (List.mem_of_getElem? (i := 826) (by decide +kernel)) (by decide +kernel)
theorem ml_L_109 : Cond.methodLink RL 109 yX7_isPath ∈ TsG := TsG_t (List.mem_of_getElem? (i := 215) (by decide +kernel)) (by decide +kernel)
theorem ml_L_113 : Cond.methodLink RL 113 yX7_isGlob ∈ TsG := TsG_t (List.mem_of_getElem? (i := 231) (by decide +kernel)) (by decide +kernel)
theorem ml_L_116 : Cond.methodLink RL 116 yX7_init ∈ TsG := TsG_t (List.mem_of_getElem? (i := 24) (by decide +kernel)) (by decide +kernel)
theorem ml_L_117 : Cond.methodLink RL 117 yL_kind ∈ TsG := TsG_t (List.mem_of_getElem? (i := 212) (by decide +kernel)) (by decide +kernel)
theorem ml_L_121 : Cond.methodLink RL 121 yL_text ∈ TsG := TsG_t (List.mem_of_getElem? (i := 243) (by decide +kernel)) (by decide +kernel)
theorem ml_L_125 : Cond.methodLink RL 125 yX7_findFile ∈ TsG := TsG_t (List.mem_of_getElem? (i := 800) (by decide +kernel)) (by decide +kernel)
theorem ml_L_128 : Cond.methodLink RL 128 yX7_changed ∈ TsG := TsG_t (List.mem_of_getElem? (i := 808) (by decide +kernel)) (by decide +kernel)
theorem ml_L_131 : Cond.methodLink RL 131 yL_matched ∈ TsG := TsG_t (List.mem_of_getElem? (i := 816) (by decide +kernel)) (by decide +kernel)
theorem ml_L_135 : Cond.methodLink RL 135 yX7_needed ∈ TsG := TsG_t (List.mem_of_getElem? (i := 822) (by decide +kernel)) (by decide +kernel)
theorem ml_L_138 : Cond.methodLink RL 138 yL_refuses ∈ TsG := TsG_t (List.mem_of_getElem? (i := 830) (by decide +kernel)) (by decide +kernel)
theorem ml_L_142 : Cond.methodLink RL 142 yX7_reviewers ∈ TsG := TsG_t (List.mem_of_getElem? (i := 838) (by decide +kernel)) (by decide +kernel)
theorem ml_L_145 : Cond.methodLink RL 145 yX7_mark ∈ TsG := TsG_t (List.mem_of_getElem? (i := 848) (by decide +kernel)) (by decide +kernel)
theorem ml_L_150 : Cond.methodLink RL 150 yL_globs ∈ TsG := TsG_t (List.mem_of_getElem? (i := 19) (by decide +kernel)) (by decide +kernel)
theorem ml_L_153 : Cond.methodLink RL 153 yL_runs ∈ TsG := TsG_t (List.mem_of_getElem? (i := 819) (by decide +kernel)) (by decide +kernel)
theorem ml_L_156 : Cond.methodLink RL 156 yL_bounds ∈ TsG := TsG_t (List.mem_of_getElem? (i := 857) (by decide +kernel)) (by decide +kernel)
theorem ml_X0_29 : Cond.methodLink RX0 29 yX0_has ∈ TsG := TsG_t (List.mem_of_getElem? (i := 376) (by decide +kernel)) (by decide +kernel)
theorem ml_X0_40 : Cond.methodLink RX0 40 yX6_isSameAs ∈ TsG := TsG_t (List.mem_of_getElem? (i := 368) (by decide +kernel)) (by decide +kernel)
theorem ml_X0_44 : Cond.methodLink RX0 44 yX6_copyFrom ∈ TsG := TsG_t (List.mem_of_getElem? (i := 397) (by decide +kernel)) (by decide +kernel)
theorem ml_X0_48 : Cond.methodLink RX0 48 yX6_covers ∈ TsG := TsG_t (List.mem_of_getElem? (i := 531) (by decide +kernel)) (by decide +kernel)
theorem ml_X1_9 : Cond.methodLink RX1 9 yJ9_max_7cf53 ∈ TsG := TsG_t (List.mem_of_getElem? (i := 86) (by decide +kernel)) (by decide +kernel)
theorem ml_X1_35 : Cond.methodLink RX1 35 yX6_copyFrom ∈ TsG := TsG_t (List.mem_of_getElem? (i := 536) (by decide +kernel)) (by decide +kernel)
theorem ml_X1_39 : Cond.methodLink RX1 39 yX6_covers ∈ TsG := TsG_t (List.mem_of_getElem? (i := 409) (by decide +kernel)) (by decide +kernel)
theorem ml_X2_27 : Cond.methodLink RX2 27 yX1_init ∈ TsG := TsG_t (List.mem_of_getElem? (i := 82) (by decide +kernel)) (by decide +kernel)
theorem ml_X2_34 : Cond.methodLink RX2 34 yX1_meetFile ∈ TsG := TsG_t (List.mem_of_getElem? (i := 405) (by decide +kernel)) (by decide +kernel)
theorem ml_X2_38 : Cond.methodLink RX2 38 yX1_covered ∈ TsG := TsG_t (List.mem_of_getElem? (i := 612) (by decide +kernel)) (by decide +kernel)
theorem ml_X2_46 : Cond.methodLink RX2 46 yX2_downFrom ∈ TsG := TsG_t (List.mem_of_getElem? (i := 621) (by decide +kernel)) (by decide +kernel)
theorem ml_X2_50 : Cond.methodLink RX2 50 yX2_nextBehind ∈ TsG := TsG_t (List.mem_of_getElem? (i := 591) (by decide +kernel)) (by decide +kernel)
theorem ml_X2_53 : Cond.methodLink RX2 53 yX2_isNext ∈ TsG := TsG_t (List.mem_of_getElem? (i := 595) (by decide +kernel)) (by decide +kernel)
theorem ml_X3_41 : Cond.methodLink RX3 41 yX2_makeOrder ∈ TsG := TsG_t (List.mem_of_getElem? (i := 633) (by decide +kernel)) (by decide +kernel)
theorem ml_X3_46 : Cond.methodLink RX3 46 yX2_size ∈ TsG := TsG_t (List.mem_of_getElem? (i := 634) (by decide +kernel)) (by decide +kernel)
theorem ml_X3_50 : Cond.methodLink RX3 50 yX2_atPlace ∈ TsG := TsG_t (List.mem_of_getElem? (i := 635) (by decide +kernel)) (by decide +kernel)
theorem ml_X3_54 : Cond.methodLink RX3 54 yX3_lookUp ∈ TsG := TsG_t (List.mem_of_getElem? (i := 636) (by decide +kernel)) (by decide +kernel)
theorem ml_X3_58 : Cond.methodLink RX3 58 yX3_fillRow ∈ TsG := TsG_t (List.mem_of_getElem? (i := 640) (by decide +kernel)) (by decide +kernel)
theorem ml_X3_61 : Cond.methodLink RX3 61 yX3_agrees ∈ TsG := TsG_t (List.mem_of_getElem? (i := 662) (by decide +kernel)) (by decide +kernel)
theorem ml_X3_65 : Cond.methodLink RX3 65 yX3_give ∈ TsG := TsG_t (List.mem_of_getElem? (i := 697) (by decide +kernel)) (by decide +kernel)
theorem ml_X3_68 : Cond.methodLink RX3 68 yX3_runOrFind ∈ TsG := TsG_t (List.mem_of_getElem? (i := 713) (by decide +kernel)) (by decide +kernel)
theorem ml_X3_71 : Cond.methodLink RX3 71 yX3_dependenciesHaveKeys ∈ TsG := TsG_t (List.mem_of_getElem? (i := 650) (by decide +kernel)) (by decide +kernel)
theorem ml_X3_75 : Cond.methodLink RX3 75 yX3_keyOfRow ∈ TsG := TsG_t (List.mem_of_getElem? (i := 658) (by decide +kernel)) (by decide +kernel)
theorem ml_X3_78 : Cond.methodLink RX3 78 yX2_dependenciesOf ∈ TsG := TsG_t (List.mem_of_getElem? (i := 649) (by decide +kernel)) (by decide +kernel)
theorem ml_X3_81 : Cond.methodLink RX3 81 yX3_withoutKey ∈ TsG := TsG_t (List.mem_of_getElem? (i := 654) (by decide +kernel)) (by decide +kernel)
theorem ml_X3_84 : Cond.methodLink RX3 84 yX2_globsOf ∈ TsG := TsG_t (List.mem_of_getElem? (i := 644) (by decide +kernel)) (by decide +kernel)
theorem ml_X3_88 : Cond.methodLink RX3 88 yX1_covered ∈ TsG := TsG_t (List.mem_of_getElem? (i := 645) (by decide +kernel)) (by decide +kernel)
theorem ml_X3_93 : Cond.methodLink RX3 93 yX0_present ∈ TsG := TsG_t (List.mem_of_getElem? (i := 646) (by decide +kernel)) (by decide +kernel)
theorem ml_X3_100 : Cond.methodLink RX3 100 yX0_contentOf ∈ TsG := TsG_t (List.mem_of_getElem? (i := 648) (by decide +kernel)) (by decide +kernel)
theorem ml_X4_11 : Cond.methodLink RX4 11 yX1_init ∈ TsG := TsG_t (List.mem_of_getElem? (i := 173) (by decide +kernel)) (by decide +kernel)
theorem ml_X4_24 : Cond.methodLink RX4 24 yX1_size ∈ TsG := TsG_t (List.mem_of_getElem? (i := 778) (by decide +kernel)) (by decide +kernel)
theorem ml_X4_28 : Cond.methodLink RX4 28 yX1_isFull ∈ TsG := TsG_t (List.mem_of_getElem? (i := 772) (by decide +kernel)) (by decide +kernel)
theorem ml_X4_32 : Cond.methodLink RX4 32 yX1_add ∈ TsG := TsG_t (List.mem_of_getElem? (i := 782) (by decide +kernel)) (by decide +kernel)
theorem ml_X4_36 : Cond.methodLink RX4 36 yX1_meetFile ∈ TsG := TsG_t (List.mem_of_getElem? (i := 430) (by decide +kernel)) (by decide +kernel)
theorem ml_X4_40 : Cond.methodLink RX4 40 yX1_latestCovering ∈ TsG := TsG_t (List.mem_of_getElem? (i := 795) (by decide +kernel)) (by decide +kernel)
theorem ml_X4_44 : Cond.methodLink RX4 44 yX4_latestOwner ∈ TsG := TsG_t (List.mem_of_getElem? (i := 846) (by decide +kernel)) (by decide +kernel)
theorem ml_X5_18 : Cond.methodLink RX5 18 yJ7_fill_53178 ∈ TsG := TsG_t (List.mem_of_getElem? (i := 727) (by decide +kernel)) (by decide +kernel)
theorem ml_X5_24 : Cond.methodLink RX5 24 yJ6_bitCount_0f7a4 ∈ TsG := TsG_t (List.mem_of_getElem? (i := 730) (by decide +kernel)) (by decide +kernel)
theorem ml_X5_30 : Cond.methodLink RX5 30 yX5_dearest ∈ TsG := TsG_t (List.mem_of_getElem? (i := 731) (by decide +kernel)) (by decide +kernel)
theorem ml_X5_34 : Cond.methodLink RX5 34 yX5_lightest ∈ TsG := TsG_t (List.mem_of_getElem? (i := 741) (by decide +kernel)) (by decide +kernel)
theorem ml_X5_37 : Cond.methodLink RX5 37 yX2_costOf ∈ TsG := TsG_t (List.mem_of_getElem? (i := 737) (by decide +kernel)) (by decide +kernel)
theorem ml_X5_42 : Cond.methodLink RX5 42 yJ9_max_7cf53 ∈ TsG := TsG_t (List.mem_of_getElem? (i := 757) (by decide +kernel)) (by decide +kernel)
theorem ml_X5_48 : Cond.methodLink RX5 48 yX2_size ∈ TsG := TsG_t (List.mem_of_getElem? (i := 735) (by decide +kernel)) (by decide +kernel)
theorem ml_X6_19 : Cond.methodLink RX6 19 yX6_hasEmptySegment ∈ TsG := TsG_t (List.mem_of_getElem? (i := 223) (by decide +kernel)) (by decide +kernel)
theorem ml_X6_23 : Cond.methodLink RX6 23 yX6_isDoubleStar ∈ TsG := TsG_t (List.mem_of_getElem? (i := 239) (by decide +kernel)) (by decide +kernel)
theorem ml_X6_27 : Cond.methodLink RX6 27 yX6_signAt ∈ TsG := TsG_t (List.mem_of_getElem? (i := 227) (by decide +kernel)) (by decide +kernel)
theorem ml_X6_31 : Cond.methodLink RX6 31 yX6_startsFrom ∈ TsG := TsG_t (List.mem_of_getElem? (i := 413) (by decide +kernel)) (by decide +kernel)
theorem ml_X6_35 : Cond.methodLink RX6 35 yX6_overLetters ∈ TsG := TsG_t (List.mem_of_getElem? (i := 418) (by decide +kernel)) (by decide +kernel)
theorem ml_X6_38 : Cond.methodLink RX6 38 yX6_overSign ∈ TsG := TsG_t (List.mem_of_getElem? (i := 422) (by decide +kernel)) (by decide +kernel)
theorem ml_X7_18 : Cond.methodLink RX7 18 yX0_init ∈ TsG := TsG_t (List.mem_of_getElem? (i := 46) (by decide +kernel)) (by decide +kernel)
theorem ml_X7_25 : Cond.methodLink RX7 25 yX2_init ∈ TsG := TsG_t (List.mem_of_getElem? (i := 75) (by decide +kernel)) (by decide +kernel)
theorem ml_X7_32 : Cond.methodLink RX7 32 yX3_init ∈ TsG := TsG_t (List.mem_of_getElem? (i := 122) (by decide +kernel)) (by decide +kernel)
theorem ml_X7_53 : Cond.methodLink RX7 53 yX7_isSign ∈ TsG := TsG_t (List.mem_of_getElem? (i := 259) (by decide +kernel)) (by decide +kernel)
theorem ml_X7_64 : Cond.methodLink RX7 64 yX6_isFull ∈ TsG := TsG_t (List.mem_of_getElem? (i := 330) (by decide +kernel)) (by decide +kernel)
theorem ml_X7_73 : Cond.methodLink RX7 73 yX6_append ∈ TsG := TsG_t (List.mem_of_getElem? (i := 350) (by decide +kernel)) (by decide +kernel)
theorem ml_X7_77 : Cond.methodLink RX7 77 yX6_size ∈ TsG := TsG_t (List.mem_of_getElem? (i := 204) (by decide +kernel)) (by decide +kernel)
theorem ml_X7_81 : Cond.methodLink RX7 81 yX6_empty ∈ TsG := TsG_t (List.mem_of_getElem? (i := 208) (by decide +kernel)) (by decide +kernel)
theorem ml_X7_84 : Cond.methodLink RX7 84 yX6_hasPathForm ∈ TsG := TsG_t (List.mem_of_getElem? (i := 219) (by decide +kernel)) (by decide +kernel)
theorem ml_X7_87 : Cond.methodLink RX7 87 yX6_hasGlobForm ∈ TsG := TsG_t (List.mem_of_getElem? (i := 235) (by decide +kernel)) (by decide +kernel)
theorem ml_X7_90 : Cond.methodLink RX7 90 yX7_requireContent ∈ TsG := TsG_t (List.mem_of_getElem? (i := 358) (by decide +kernel)) (by decide +kernel)
theorem ml_X7_96 : Cond.methodLink RX7 96 yX0_numberOf ∈ TsG := TsG_t (List.mem_of_getElem? (i := 364) (by decide +kernel)) (by decide +kernel)
theorem ml_X7_100 : Cond.methodLink RX7 100 yX0_isThere ∈ TsG := TsG_t (List.mem_of_getElem? (i := 372) (by decide +kernel)) (by decide +kernel)
theorem ml_X7_106 : Cond.methodLink RX7 106 yX0_isFull ∈ TsG := TsG_t (List.mem_of_getElem? (i := 384) (by decide +kernel)) (by decide +kernel)
theorem ml_X7_109 : Cond.methodLink RX7 109 yX7_numberNewPath ∈ TsG := TsG_t (List.mem_of_getElem? (i := 389) (by decide +kernel)) (by decide +kernel)
theorem ml_X7_112 : Cond.methodLink RX7 112 yX0_put ∈ TsG := TsG_t (List.mem_of_getElem? (i := 431) (by decide +kernel)) (by decide +kernel)
theorem ml_X7_116 : Cond.methodLink RX7 116 yX7_requireFileThere ∈ TsG := TsG_t (List.mem_of_getElem? (i := 439) (by decide +kernel)) (by decide +kernel)
theorem ml_X7_119 : Cond.methodLink RX7 119 yX0_contentOf ∈ TsG := TsG_t (List.mem_of_getElem? (i := 459) (by decide +kernel)) (by decide +kernel)
theorem ml_X7_123 : Cond.methodLink RX7 123 yX0_remove ∈ TsG := TsG_t (List.mem_of_getElem? (i := 467) (by decide +kernel)) (by decide +kernel)
theorem ml_X7_126 : Cond.methodLink RX7 126 yX0_present ∈ TsG := TsG_t (List.mem_of_getElem? (i := 541) (by decide +kernel)) (by decide +kernel)
theorem ml_X7_129 : Cond.methodLink RX7 129 yX7_requireFile ∈ TsG := TsG_t (List.mem_of_getElem? (i := 475) (by decide +kernel)) (by decide +kernel)
theorem ml_X7_134 : Cond.methodLink RX7 134 yX0_pathOf ∈ TsG := TsG_t (List.mem_of_getElem? (i := 482) (by decide +kernel)) (by decide +kernel)
theorem ml_X7_138 : Cond.methodLink RX7 138 yX6_covers ∈ TsG := TsG_t (List.mem_of_getElem? (i := 486) (by decide +kernel)) (by decide +kernel)
theorem ml_X7_144 : Cond.methodLink RX7 144 yX2_isFull ∈ TsG := TsG_t (List.mem_of_getElem? (i := 492) (by decide +kernel)) (by decide +kernel)
theorem ml_X7_147 : Cond.methodLink RX7 147 yX2_add ∈ TsG := TsG_t (List.mem_of_getElem? (i := 497) (by decide +kernel)) (by decide +kernel)
theorem ml_X7_150 : Cond.methodLink RX7 150 yX7_requireTarget ∈ TsG := TsG_t (List.mem_of_getElem? (i := 505) (by decide +kernel)) (by decide +kernel)
theorem ml_X7_153 : Cond.methodLink RX7 153 yX7_requireGlob ∈ TsG := TsG_t (List.mem_of_getElem? (i := 514) (by decide +kernel)) (by decide +kernel)
theorem ml_X7_156 : Cond.methodLink RX7 156 yX2_globsOf ∈ TsG := TsG_t (List.mem_of_getElem? (i := 518) (by decide +kernel)) (by decide +kernel)
theorem ml_X7_160 : Cond.methodLink RX7 160 yX1_isFull ∈ TsG := TsG_t (List.mem_of_getElem? (i := 522) (by decide +kernel)) (by decide +kernel)
theorem ml_X7_165 : Cond.methodLink RX7 165 yX0_coveredBy ∈ TsG := TsG_t (List.mem_of_getElem? (i := 527) (by decide +kernel)) (by decide +kernel)
theorem ml_X7_168 : Cond.methodLink RX7 168 yX1_add ∈ TsG := TsG_t (List.mem_of_getElem? (i := 532) (by decide +kernel)) (by decide +kernel)
theorem ml_X7_171 : Cond.methodLink RX7 171 yX1_covered ∈ TsG := TsG_t (List.mem_of_getElem? (i := 537) (by decide +kernel)) (by decide +kernel)
theorem ml_X7_174 : Cond.methodLink RX7 174 yJ6_bitCount_0f7a4 ∈ TsG := TsG_t (List.mem_of_getElem? (i := 545) (by decide +kernel)) (by decide +kernel)
theorem ml_X7_179 : Cond.methodLink RX7 179 yX2_dependenciesOf ∈ TsG := TsG_t (List.mem_of_getElem? (i := 555) (by decide +kernel)) (by decide +kernel)
theorem ml_X7_182 : Cond.methodLink RX7 182 yX7_holds ∈ TsG := TsG_t (List.mem_of_getElem? (i := 559) (by decide +kernel)) (by decide +kernel)
theorem ml_X7_188 : Cond.methodLink RX7 188 yX2_upFrom ∈ TsG := TsG_t (List.mem_of_getElem? (i := 561) (by decide +kernel)) (by decide +kernel)
theorem ml_X7_193 : Cond.methodLink RX7 193 yX2_addDependency ∈ TsG := TsG_t (List.mem_of_getElem? (i := 566) (by decide +kernel)) (by decide +kernel)
theorem ml_X7_196 : Cond.methodLink RX7 196 yX2_size ∈ TsG := TsG_t (List.mem_of_getElem? (i := 582) (by decide +kernel)) (by decide +kernel)
theorem ml_X7_202 : Cond.methodLink RX7 202 yX2_makeOrder ∈ TsG := TsG_t (List.mem_of_getElem? (i := 587) (by decide +kernel)) (by decide +kernel)
theorem ml_X7_205 : Cond.methodLink RX7 205 yX2_atPlace ∈ TsG := TsG_t (List.mem_of_getElem? (i := 600) (by decide +kernel)) (by decide +kernel)
theorem ml_X7_208 : Cond.methodLink RX7 208 yX2_covering ∈ TsG := TsG_t (List.mem_of_getElem? (i := 608) (by decide +kernel)) (by decide +kernel)
theorem ml_X7_211 : Cond.methodLink RX7 211 yX2_reachingDown ∈ TsG := TsG_t (List.mem_of_getElem? (i := 617) (by decide +kernel)) (by decide +kernel)
theorem ml_X7_214 : Cond.methodLink RX7 214 yX3_lookUpAll ∈ TsG := TsG_t (List.mem_of_getElem? (i := 629) (by decide +kernel)) (by decide +kernel)
theorem ml_X7_217 : Cond.methodLink RX7 217 yX3_keyNow ∈ TsG := TsG_t (List.mem_of_getElem? (i := 666) (by decide +kernel)) (by decide +kernel)
theorem ml_X7_220 : Cond.methodLink RX7 220 yX3_withoutKey ∈ TsG := TsG_t (List.mem_of_getElem? (i := 686) (by decide +kernel)) (by decide +kernel)
theorem ml_X7_223 : Cond.methodLink RX7 223 yX3_hasRun ∈ TsG := TsG_t (List.mem_of_getElem? (i := 674) (by decide +kernel)) (by decide +kernel)
theorem ml_X7_226 : Cond.methodLink RX7 226 yX3_hasLatestInputs ∈ TsG := TsG_t (List.mem_of_getElem? (i := 678) (by decide +kernel)) (by decide +kernel)
theorem ml_X7_231 : Cond.methodLink RX7 231 yX3_given ∈ TsG := TsG_t (List.mem_of_getElem? (i := 688) (by decide +kernel)) (by decide +kernel)
theorem ml_X7_236 : Cond.methodLink RX7 236 yX3_runOrFind ∈ TsG := TsG_t (List.mem_of_getElem? (i := 693) (by decide +kernel)) (by decide +kernel)
theorem ml_X7_241 : Cond.methodLink RX7 241 yX3_runOrFindAll ∈ TsG := TsG_t (List.mem_of_getElem? (i := 709) (by decide +kernel)) (by decide +kernel)
theorem ml_X7_244 : Cond.methodLink RX7 244 yX7_requireShards ∈ TsG := TsG_t (List.mem_of_getElem? (i := 718) (by decide +kernel)) (by decide +kernel)
theorem ml_X7_247 : Cond.methodLink RX7 247 yX5_over ∈ TsG := TsG_t (List.mem_of_getElem? (i := 723) (by decide +kernel)) (by decide +kernel)
theorem ml_X7_251 : Cond.methodLink RX7 251 yX5_placeOf ∈ TsG := TsG_t (List.mem_of_getElem? (i := 745) (by decide +kernel)) (by decide +kernel)
theorem ml_X7_254 : Cond.methodLink RX7 254 yX5_greatestLoad ∈ TsG := TsG_t (List.mem_of_getElem? (i := 753) (by decide +kernel)) (by decide +kernel)
theorem ml_X7_261 : Cond.methodLink RX7 261 yX4_isFull ∈ TsG := TsG_t (List.mem_of_getElem? (i := 768) (by decide +kernel)) (by decide +kernel)
theorem ml_X7_264 : Cond.methodLink RX7 264 yX4_add ∈ TsG := TsG_t (List.mem_of_getElem? (i := 774) (by decide +kernel)) (by decide +kernel)
theorem ml_X7_267 : Cond.methodLink RX7 267 yX4_size ∈ TsG := TsG_t (List.mem_of_getElem? (i := 783) (by decide +kernel)) (by decide +kernel)
theorem ml_X7_268 : Cond.methodLink RX7 268 yX4_latestOwner ∈ TsG := TsG_t (List.mem_of_getElem? (i := 791) (by decide +kernel)) (by decide +kernel)
theorem ml_X7_271 : Cond.methodLink RX7 271 yX0_keepMark ∈ TsG := TsG_t (List.mem_of_getElem? (i := 852) (by decide +kernel)) (by decide +kernel)
theorem ml_X7_274 : Cond.methodLink RX7 274 yX0_sinceMark ∈ TsG := TsG_t (List.mem_of_getElem? (i := 812) (by decide +kernel)) (by decide +kernel)
theorem ml_X7_277 : Cond.methodLink RX7 277 yX4_ownersOfAll ∈ TsG := TsG_t (List.mem_of_getElem? (i := 842) (by decide +kernel)) (by decide +kernel)
theorem ml_X7_282 : Cond.methodLink RX7 282 yX0_has ∈ TsG := TsG_t (List.mem_of_getElem? (i := 479) (by decide +kernel)) (by decide +kernel)
theorem ml_X7_289 : Cond.methodLink RX7 289 yX2_has ∈ TsG := TsG_t (List.mem_of_getElem? (i := 509) (by decide +kernel)) (by decide +kernel)
theorem ml_X7_294 : Cond.methodLink RX7 294 yX0_addPath ∈ TsG := TsG_t (List.mem_of_getElem? (i := 393) (by decide +kernel)) (by decide +kernel)
theorem ml_X7_297 : Cond.methodLink RX7 297 yX2_meetFile ∈ TsG := TsG_t (List.mem_of_getElem? (i := 401) (by decide +kernel)) (by decide +kernel)
theorem ml_X7_301 : Cond.methodLink RX7 301 yX4_meetFile ∈ TsG := TsG_t (List.mem_of_getElem? (i := 426) (by decide +kernel)) (by decide +kernel)
theorem ml_X0_54 : Cond.methodLink RX0 54 arraycopyName ∈ TsG := TsG_t (List.mem_of_getElem? (i := 856) (by decide +kernel)) (by decide +kernel)
theorem mx_X1_9 : Cond.methodLink RX1 9 Lib.Math.max.name ∈ TsG := TsG_t (List.mem_of_getElem? (i := 86) (by decide +kernel)) (by decide +kernel)
theorem ml_X3_103 : Cond.methodLink RX3 103 arraycopyName ∈ TsG := TsG_t (List.mem_of_getElem? (i := 701) (by decide +kernel)) (by decide +kernel)
theorem mx_X5_42 : Cond.methodLink RX5 42 Lib.Math.max.name ∈ TsG := TsG_t (List.mem_of_getElem? (i := 757) (by decide +kernel)) (by decide +kernel)
theorem ac_nat : Cond.native arraycopyName ∈ TsG := TsG_t (List.mem_of_getElem? (i := 703) (by decide +kernel)) (by decide +kernel)
theorem ac_stat : Cond.static arraycopyName ∈ TsG := TsG_t (List.mem_of_getElem? (i := 702) (by decide +kernel)) (by decide +kernel)
theorem ac_ini : Cond.initialized "java/lang/System" ∈ TsG := TsG_t (List.mem_of_getElem? (i := 17) (by decide +kernel)) (by decide +kernel)
theorem mx_stat : Cond.static Lib.Math.max.name ∈ TsG := TsG_t (List.mem_of_getElem? (i := 87) (by decide +kernel)) (by decide +kernel)
theorem mx_ini : Cond.initialized "java/lang/Math" ∈ TsG := TsG_t (List.mem_of_getElem? (i := 6) (by decide +kernel)) (by decide +kernel)
theorem mx_code : Cond.code Lib.Math.max.name Lib.Math.max.code 2 (some .int) ∈ TsG := TsG_t (List.mem_of_getElem? (i := 88) (by decide +kernel)) (by decide +kernel)
theorem ct_J6_265 : Cond.constant RJ6 265 (1431655765) ∈ TsG := TsG_t (List.mem_of_getElem? (i := 548) (by decide +kernel)) (by decide +kernel)
theorem ct_J6_266 : Cond.constant RJ6 266 (858993459) ∈ TsG := TsG_t (List.mem_of_getElem? (i := 549) (by decide +kernel)) (by decide +kernel)
theorem ct_J6_267 : Cond.constant RJ6 267 (252645135) ∈ TsG := TsG_t (List.mem_of_getElem? (i := 550) (by decide +kernel)) (by decide +kernel)
theorem ct_L_108 : Cond.constant RL 108 (2147483647) ∈ TsG := TsG_t (List.mem_of_getElem? (i := 837) (by decide +kernel)) (by decide +kernel)
theorem ct_L_148 : Cond.constant RL 148 (16777215) ∈ TsG := TsG_t (List.mem_of_getElem? (i := 860) (by decide +kernel)) (by decide +kernel)
theorem ct_L_149 : Cond.constant RL 149 (65534) ∈ TsG := TsG_t (List.mem_of_getElem? (i := 861) (by decide +kernel)) (by decide +kernel)
theorem cl_L_8 : Cond.classLink RL 8 "Monobuild" ∈ TsG := TsG_t (List.mem_of_getElem? (i := 22) (by decide +kernel)) (by decide +kernel)
theorem cl_L_80 : Cond.classLink RL 80 "java/lang/IndexOutOfBoundsException" ∈ TsG := TsG_t (List.mem_of_getElem? (i := 252) (by decide +kernel)) (by decide +kernel)
theorem cl_L_82 : Cond.classLink RL 82 "java/lang/IllegalArgumentException" ∈ TsG := TsG_t (List.mem_of_getElem? (i := 253) (by decide +kernel)) (by decide +kernel)
theorem cl_L_84 : Cond.classLink RL 84 "java/lang/IllegalStateException" ∈ TsG := TsG_t (List.mem_of_getElem? (i := 254) (by decide +kernel)) (by decide +kernel)
theorem cl_X0_9 : Cond.classLink RX0 9 "Monobuild$Text" ∈ TsG := TsG_t (List.mem_of_getElem? (i := 50) (by decide +kernel)) (by decide +kernel)
theorem cl_X1_21 : Cond.classLink RX1 21 "Monobuild$Text" ∈ TsG := TsG_t (List.mem_of_getElem? (i := 89) (by decide +kernel)) (by decide +kernel)
theorem cl_X2_18 : Cond.classLink RX2 18 "Monobuild$Globs" ∈ TsG := TsG_t (List.mem_of_getElem? (i := 79) (by decide +kernel)) (by decide +kernel)
theorem cl_X3_11 : Cond.classLink RX3 11 "[[I" ∈ TsG := TsG_t (List.mem_of_getElem? (i := 126) (by decide +kernel)) (by decide +kernel)
theorem cl_X4_9 : Cond.classLink RX4 9 "Monobuild$Globs" ∈ TsG := TsG_t (List.mem_of_getElem? (i := 172) (by decide +kernel)) (by decide +kernel)
theorem cl_X7_7 : Cond.classLink RX7 7 "Monobuild$Text" ∈ TsG := TsG_t (List.mem_of_getElem? (i := 30) (by decide +kernel)) (by decide +kernel)
theorem cl_X7_16 : Cond.classLink RX7 16 "Monobuild$FileTable" ∈ TsG := TsG_t (List.mem_of_getElem? (i := 44) (by decide +kernel)) (by decide +kernel)
theorem cl_X7_23 : Cond.classLink RX7 23 "Monobuild$Graph" ∈ TsG := TsG_t (List.mem_of_getElem? (i := 73) (by decide +kernel)) (by decide +kernel)
theorem cl_X7_30 : Cond.classLink RX7 30 "Monobuild$KeyBook" ∈ TsG := TsG_t (List.mem_of_getElem? (i := 120) (by decide +kernel)) (by decide +kernel)
theorem cl_X7_39 : Cond.classLink RX7 39 "Monobuild$Spread" ∈ TsG := TsG_t (List.mem_of_getElem? (i := 153) (by decide +kernel)) (by decide +kernel)
theorem cl_X7_46 : Cond.classLink RX7 46 "Monobuild$RuleBook" ∈ TsG := TsG_t (List.mem_of_getElem? (i := 166) (by decide +kernel)) (by decide +kernel)
theorem cl_X7_57 : Cond.classLink RX7 57 "java/lang/IllegalArgumentException" ∈ TsG := TsG_t (List.mem_of_getElem? (i := 262) (by decide +kernel)) (by decide +kernel)
theorem cl_X7_68 : Cond.classLink RX7 68 "java/lang/IllegalStateException" ∈ TsG := TsG_t (List.mem_of_getElem? (i := 334) (by decide +kernel)) (by decide +kernel)
theorem cl_X7_197 : Cond.classLink RX7 197 "java/lang/IndexOutOfBoundsException" ∈ TsG := TsG_t (List.mem_of_getElem? (i := 443) (by decide +kernel)) (by decide +kernel)
theorem nl_X0_24 : (RX0, 24, yX6_init) ∈ gx_nst := List.mem_of_getElem? (i := 1) rfl
theorem nl_X0_36 : (RX0, 36, yX7_holds) ∈ gx_nst := List.mem_of_getElem? (i := 5) rfl
theorem nl_X1_31 : (RX1, 31, yX6_init) ∈ gx_nst := List.mem_of_getElem? (i := 2) rfl
theorem nl_X1_43 : (RX1, 43, yX7_holds) ∈ gx_nst := List.mem_of_getElem? (i := 10) rfl
theorem nl_X2_42 : (RX2, 42, yX7_holds) ∈ gx_nst := List.mem_of_getElem? (i := 7) rfl
theorem nl_X3_97 : (RX3, 97, yX7_holds) ∈ gx_nst := List.mem_of_getElem? (i := 8) rfl
theorem nl_X4_47 : (RX4, 47, yX7_holds) ∈ gx_nst := List.mem_of_getElem? (i := 11) rfl
theorem nl_X5_52 : (RX5, 52, yX7_holds) ∈ gx_nst := List.mem_of_getElem? (i := 9) rfl
theorem nl_X6_42 : (RX6, 42, yX7_holds) ∈ gx_nst := List.mem_of_getElem? (i := 6) rfl
theorem nl_X7_9 : (RX7, 9, yX6_init) ∈ gx_nst := List.mem_of_getElem? (i := 0) rfl
theorem nl_X7_41 : (RX7, 41, yX5_init) ∈ gx_nst := List.mem_of_getElem? (i := 3) rfl
theorem nl_X7_48 : (RX7, 48, yX4_init) ∈ gx_nst := List.mem_of_getElem? (i := 4) rfl
theorem in_J10 : Cond.initialized RJ10 ∈ TsG := TsG_t (List.mem_of_getElem? (i := 17) (by decide +kernel)) (by decide +kernel)
theorem in_J6 : Cond.initialized RJ6 ∈ TsG := TsG_t (List.mem_of_getElem? (i := 16) (by decide +kernel)) (by decide +kernel)
theorem in_J7 : Cond.initialized RJ7 ∈ TsG := TsG_t (List.mem_of_getElem? (i := 18) (by decide +kernel)) (by decide +kernel)
theorem in_J9 : Cond.initialized RJ9 ∈ TsG := TsG_t (List.mem_of_getElem? (i := 6) (by decide +kernel)) (by decide +kernel)
theorem in_L : Cond.initialized RL ∈ TsG := TsG_t (List.mem_of_getElem? (i := 0) (by decide +kernel)) (by decide +kernel)
theorem in_X0 : Cond.initialized RX0 ∈ TsG := TsG_t (List.mem_of_getElem? (i := 3) (by decide +kernel)) (by decide +kernel)
theorem in_X1 : Cond.initialized RX1 ∈ TsG := TsG_t (List.mem_of_getElem? (i := 5) (by decide +kernel)) (by decide +kernel)
theorem in_X2 : Cond.initialized RX2 ∈ TsG := TsG_t (List.mem_of_getElem? (i := 4) (by decide +kernel)) (by decide +kernel)
theorem in_X3 : Cond.initialized RX3 ∈ TsG := TsG_t (List.mem_of_getElem? (i := 7) (by decide +kernel)) (by decide +kernel)
theorem in_X4 : Cond.initialized RX4 ∈ TsG := TsG_t (List.mem_of_getElem? (i := 9) (by decide +kernel)) (by decide +kernel)
theorem in_X5 : Cond.initialized RX5 ∈ TsG := TsG_t (List.mem_of_getElem? (i := 8) (by decide +kernel)) (by decide +kernel)
theorem in_X6 : Cond.initialized RX6 ∈ TsG := TsG_t (List.mem_of_getElem? (i := 2) (by decide +kernel)) (by decide +kernel)
theorem in_X7 : Cond.initialized RX7 ∈ TsG := TsG_t (List.mem_of_getElem? (i := 1) (by decide +kernel)) (by decide +kernel)
theorem in_E1 : Cond.initialized "java/lang/IllegalArgumentException" ∈ TsG := TsG_t (List.mem_of_getElem? (i := 13) (by decide +kernel)) (by decide +kernel)
theorem in_E2 : Cond.initialized "java/lang/IllegalStateException" ∈ TsG := TsG_t (List.mem_of_getElem? (i := 14) (by decide +kernel)) (by decide +kernel)
theorem in_E3 : Cond.initialized "java/lang/IndexOutOfBoundsException" ∈ TsG := TsG_t (List.mem_of_getElem? (i := 15) (by decide +kernel)) (by decide +kernel)
theorem pk_J6_bitCount_0f7a4 : PkS yJ6_bitCount_0f7a4 cJ6_bitCount_0f7a4 1 (some .int) 1 := ⟨⟨TsG_t (List.mem_of_getElem? (i := 547) (by decide +kernel)) (by decide +kernel), in_J6, by decide +kernel, by decide +kernel, by decide +kernel⟩, TsG_t (List.mem_of_getElem? (i := 546) (by decide +kernel)) (by decide +kernel)⟩
theorem pk_J7_fill_53178 : PkS yJ7_fill_53178 cJ7_fill_53178 4 none 2 := ⟨⟨TsG_t (List.mem_of_getElem? (i := 729) (by decide +kernel)) (by decide +kernel), in_J7, by decide +kernel, by decide +kernel, by decide +kernel⟩, TsG_t (List.mem_of_getElem? (i := 728) (by decide +kernel)) (by decide +kernel)⟩
set_option maxRecDepth 100000 in
theorem pk_L_add : PkS yL_add cL_add 2 (some .boolean) 2 := ⟨⟨TsG_t (show _ ∈ tables_1 from (List.mem_append_right _ (List.mem_append_left _ (List.mem_of_getElem? (i := 8) rfl)))) rfl, in_L, by decide +kernel, by decide +kernel, by decide +kernel⟩, TsG_t (List.mem_of_getElem? (i := 247) (by decide +kernel)) (by decide +kernel)⟩
set_option maxRecDepth 100000 in
theorem pk_L_bounds : PkS yL_bounds cL_bounds 3 (some .boolean) 1 := ⟨⟨TsG_t (show _ ∈ tables_1 from (List.mem_append_right _ (List.mem_append_right _ (List.mem_append_right _ (List.mem_of_getElem? (i := 139) rfl))))) rfl, in_L, by decide +kernel, by decide +kernel, by decide +kernel⟩, TsG_t (List.mem_of_getElem? (i := 858) (by decide +kernel)) (by decide +kernel)⟩
set_option maxRecDepth 100000 in
theorem pk_L_globs : PkS yL_globs cL_globs 2 (some .boolean) 0 := ⟨⟨TsG_t (show _ ∈ tables_1 from (List.mem_append_left _ (List.mem_of_getElem? (i := 21) rfl))) rfl, in_L, by decide +kernel, by decide +kernel, by decide +kernel⟩, TsG_t (List.mem_of_getElem? (i := 20) (by decide +kernel)) (by decide +kernel)⟩
set_option maxRecDepth 100000 in
theorem pk_L_kind : PkS yL_kind cL_kind 1 (some .int) 1 := ⟨⟨TsG_t (show _ ∈ tables_1 from (List.mem_append_left _ (List.mem_of_getElem? (i := 214) rfl))) rfl, in_L, by decide +kernel, by decide +kernel, by decide +kernel⟩, TsG_t (List.mem_of_getElem? (i := 213) (by decide +kernel)) (by decide +kernel)⟩
set_option maxRecDepth 100000 in
theorem pk_L_matched : PkS yL_matched cL_matched 4 (some .int) 2 := ⟨⟨TsG_t (show _ ∈ tables_1 from (List.mem_append_right _ (List.mem_append_right _ (List.mem_append_right _ (List.mem_of_getElem? (i := 98) rfl))))) rfl, in_L, by decide +kernel, by decide +kernel, by decide +kernel⟩, TsG_t (List.mem_of_getElem? (i := 817) (by decide +kernel)) (by decide +kernel)⟩
set_option maxRecDepth 100000 in
theorem pk_L_refuses : PkS yL_refuses cL_refuses 14 (some .boolean) 2 := ⟨⟨TsG_t (show _ ∈ tables_1 from (List.mem_append_right _ (List.mem_append_right _ (List.mem_append_right _ (List.mem_of_getElem? (i := 112) rfl))))) rfl, in_L, by decide +kernel, by decide +kernel, by decide +kernel⟩, TsG_t (List.mem_of_getElem? (i := 831) (by decide +kernel)) (by decide +kernel)⟩
set_option maxRecDepth 100000 in
theorem pk_L_runs : PkS yL_runs cL_runs 2 (some .boolean) 0 := ⟨⟨TsG_t (show _ ∈ tables_1 from (List.mem_append_right _ (List.mem_append_right _ (List.mem_append_right _ (List.mem_of_getElem? (i := 101) rfl))))) rfl, in_L, by decide +kernel, by decide +kernel, by decide +kernel⟩, TsG_t (List.mem_of_getElem? (i := 820) (by decide +kernel)) (by decide +kernel)⟩
set_option maxRecDepth 100000 in
theorem pk_L_text : PkS yL_text cL_text 9 (some .boolean) 9 := ⟨⟨TsG_t (show _ ∈ tables_1 from (List.mem_append_right _ (List.mem_append_left _ (List.mem_of_getElem? (i := 5) rfl)))) rfl, in_L, by decide +kernel, by decide +kernel, by decide +kernel⟩, TsG_t (List.mem_of_getElem? (i := 244) (by decide +kernel)) (by decide +kernel)⟩
theorem pk_X0_addPath : PkV yX0_addPath cX0_addPath 3 (some .int) 1 := ⟨⟨TsG_t (List.mem_of_getElem? (i := 396) (by decide +kernel)) (by decide +kernel), in_X0, by decide +kernel, by decide +kernel, by decide +kernel⟩, TsG_t (List.mem_of_getElem? (i := 394) (by decide +kernel)) (by decide +kernel), TsG_t (List.mem_of_getElem? (i := 395) (by decide +kernel)) (by decide +kernel)⟩
theorem pk_X0_contentOf : PkV yX0_contentOf cX0_contentOf 2 (some .int) 1 := ⟨⟨TsG_t (List.mem_of_getElem? (i := 462) (by decide +kernel)) (by decide +kernel), in_X0, by decide +kernel, by decide +kernel, by decide +kernel⟩, TsG_t (List.mem_of_getElem? (i := 460) (by decide +kernel)) (by decide +kernel), TsG_t (List.mem_of_getElem? (i := 461) (by decide +kernel)) (by decide +kernel)⟩
theorem pk_X0_coveredBy : PkV yX0_coveredBy cX0_coveredBy 4 (some .int) 1 := ⟨⟨TsG_t (List.mem_of_getElem? (i := 530) (by decide +kernel)) (by decide +kernel), in_X0, by decide +kernel, by decide +kernel, by decide +kernel⟩, TsG_t (List.mem_of_getElem? (i := 528) (by decide +kernel)) (by decide +kernel), TsG_t (List.mem_of_getElem? (i := 529) (by decide +kernel)) (by decide +kernel)⟩
theorem pk_X0_has : PkV yX0_has cX0_has 2 (some .boolean) 1 := ⟨⟨TsG_t (List.mem_of_getElem? (i := 379) (by decide +kernel)) (by decide +kernel), in_X0, by decide +kernel, by decide +kernel, by decide +kernel⟩, TsG_t (List.mem_of_getElem? (i := 377) (by decide +kernel)) (by decide +kernel), TsG_t (List.mem_of_getElem? (i := 378) (by decide +kernel)) (by decide +kernel)⟩
theorem pk_X0_init : Pk yX0_init cX0_init 2 none 0 ∧ Cond.instanceMethod yX0_init ∈ TsG := ⟨⟨TsG_t (List.mem_of_getElem? (i := 48) (by decide +kernel)) (by decide +kernel), in_X0, by decide +kernel, by decide +kernel, by decide +kernel⟩, TsG_t (List.mem_of_getElem? (i := 47) (by decide +kernel)) (by decide +kernel)⟩
theorem pk_X0_isFull : PkV yX0_isFull cX0_isFull 1 (some .boolean) 0 := ⟨⟨TsG_t (List.mem_of_getElem? (i := 387) (by decide +kernel)) (by decide +kernel), in_X0, by decide +kernel, by decide +kernel, by decide +kernel⟩, TsG_t (List.mem_of_getElem? (i := 385) (by decide +kernel)) (by decide +kernel), TsG_t (List.mem_of_getElem? (i := 386) (by decide +kernel)) (by decide +kernel)⟩
theorem pk_X0_isThere : PkV yX0_isThere cX0_isThere 2 (some .boolean) 1 := ⟨⟨TsG_t (List.mem_of_getElem? (i := 375) (by decide +kernel)) (by decide +kernel), in_X0, by decide +kernel, by decide +kernel, by decide +kernel⟩, TsG_t (List.mem_of_getElem? (i := 373) (by decide +kernel)) (by decide +kernel), TsG_t (List.mem_of_getElem? (i := 374) (by decide +kernel)) (by decide +kernel)⟩
theorem pk_X0_keepMark : PkV yX0_keepMark cX0_keepMark 1 none 0 := ⟨⟨TsG_t (List.mem_of_getElem? (i := 855) (by decide +kernel)) (by decide +kernel), in_X0, by decide +kernel, by decide +kernel, by decide +kernel⟩, TsG_t (List.mem_of_getElem? (i := 853) (by decide +kernel)) (by decide +kernel), TsG_t (List.mem_of_getElem? (i := 854) (by decide +kernel)) (by decide +kernel)⟩
theorem pk_X0_numberOf : PkV yX0_numberOf cX0_numberOf 3 (some .int) 1 := ⟨⟨TsG_t (List.mem_of_getElem? (i := 367) (by decide +kernel)) (by decide +kernel), in_X0, by decide +kernel, by decide +kernel, by decide +kernel⟩, TsG_t (List.mem_of_getElem? (i := 365) (by decide +kernel)) (by decide +kernel), TsG_t (List.mem_of_getElem? (i := 366) (by decide +kernel)) (by decide +kernel)⟩
theorem pk_X0_pathOf : PkV yX0_pathOf cX0_pathOf 2 (some (.object "Monobuild$Text")) 1 := ⟨⟨TsG_t (List.mem_of_getElem? (i := 485) (by decide +kernel)) (by decide +kernel), in_X0, by decide +kernel, by decide +kernel, by decide +kernel⟩, TsG_t (List.mem_of_getElem? (i := 483) (by decide +kernel)) (by decide +kernel), TsG_t (List.mem_of_getElem? (i := 484) (by decide +kernel)) (by decide +kernel)⟩
theorem pk_X0_present : PkV yX0_present cX0_present 1 (some .int) 0 := ⟨⟨TsG_t (List.mem_of_getElem? (i := 544) (by decide +kernel)) (by decide +kernel), in_X0, by decide +kernel, by decide +kernel, by decide +kernel⟩, TsG_t (List.mem_of_getElem? (i := 542) (by decide +kernel)) (by decide +kernel), TsG_t (List.mem_of_getElem? (i := 543) (by decide +kernel)) (by decide +kernel)⟩
theorem pk_X0_put : PkV yX0_put cX0_put 3 none 2 := ⟨⟨TsG_t (List.mem_of_getElem? (i := 434) (by decide +kernel)) (by decide +kernel), in_X0, by decide +kernel, by decide +kernel, by decide +kernel⟩, TsG_t (List.mem_of_getElem? (i := 432) (by decide +kernel)) (by decide +kernel), TsG_t (List.mem_of_getElem? (i := 433) (by decide +kernel)) (by decide +kernel)⟩
theorem pk_X0_remove : PkV yX0_remove cX0_remove 2 none 1 := ⟨⟨TsG_t (List.mem_of_getElem? (i := 470) (by decide +kernel)) (by decide +kernel), in_X0, by decide +kernel, by decide +kernel, by decide +kernel⟩, TsG_t (List.mem_of_getElem? (i := 468) (by decide +kernel)) (by decide +kernel), TsG_t (List.mem_of_getElem? (i := 469) (by decide +kernel)) (by decide +kernel)⟩
theorem pk_X0_sinceMark : PkV yX0_sinceMark cX0_sinceMark 3 (some .int) 0 := ⟨⟨TsG_t (List.mem_of_getElem? (i := 815) (by decide +kernel)) (by decide +kernel), in_X0, by decide +kernel, by decide +kernel, by decide +kernel⟩, TsG_t (List.mem_of_getElem? (i := 813) (by decide +kernel)) (by decide +kernel), TsG_t (List.mem_of_getElem? (i := 814) (by decide +kernel)) (by decide +kernel)⟩
theorem pk_X1_add : PkV yX1_add cX1_add 3 none 2 := ⟨⟨TsG_t (List.mem_of_getElem? (i := 535) (by decide +kernel)) (by decide +kernel), in_X1, by decide +kernel, by decide +kernel, by decide +kernel⟩, TsG_t (List.mem_of_getElem? (i := 533) (by decide +kernel)) (by decide +kernel), TsG_t (List.mem_of_getElem? (i := 534) (by decide +kernel)) (by decide +kernel)⟩
theorem pk_X1_covered : PkV yX1_covered cX1_covered 3 (some .int) 0 := ⟨⟨TsG_t (List.mem_of_getElem? (i := 540) (by decide +kernel)) (by decide +kernel), in_X1, by decide +kernel, by decide +kernel, by decide +kernel⟩, TsG_t (List.mem_of_getElem? (i := 538) (by decide +kernel)) (by decide +kernel), TsG_t (List.mem_of_getElem? (i := 539) (by decide +kernel)) (by decide +kernel)⟩
theorem pk_X1_init : Pk yX1_init cX1_init 3 none 1 ∧ Cond.instanceMethod yX1_init ∈ TsG := ⟨⟨TsG_t (List.mem_of_getElem? (i := 84) (by decide +kernel)) (by decide +kernel), in_X1, by decide +kernel, by decide +kernel, by decide +kernel⟩, TsG_t (List.mem_of_getElem? (i := 83) (by decide +kernel)) (by decide +kernel)⟩
theorem pk_X1_isFull : PkV yX1_isFull cX1_isFull 1 (some .boolean) 0 := ⟨⟨TsG_t (List.mem_of_getElem? (i := 525) (by decide +kernel)) (by decide +kernel), in_X1, by decide +kernel, by decide +kernel, by decide +kernel⟩, TsG_t (List.mem_of_getElem? (i := 523) (by decide +kernel)) (by decide +kernel), TsG_t (List.mem_of_getElem? (i := 524) (by decide +kernel)) (by decide +kernel)⟩
theorem pk_X1_latestCovering : PkV yX1_latestCovering cX1_latestCovering 3 (some .int) 1 := ⟨⟨TsG_t (List.mem_of_getElem? (i := 798) (by decide +kernel)) (by decide +kernel), in_X1, by decide +kernel, by decide +kernel, by decide +kernel⟩, TsG_t (List.mem_of_getElem? (i := 796) (by decide +kernel)) (by decide +kernel), TsG_t (List.mem_of_getElem? (i := 797) (by decide +kernel)) (by decide +kernel)⟩
theorem pk_X1_meetFile : PkV yX1_meetFile cX1_meetFile 4 none 2 := ⟨⟨TsG_t (List.mem_of_getElem? (i := 408) (by decide +kernel)) (by decide +kernel), in_X1, by decide +kernel, by decide +kernel, by decide +kernel⟩, TsG_t (List.mem_of_getElem? (i := 406) (by decide +kernel)) (by decide +kernel), TsG_t (List.mem_of_getElem? (i := 407) (by decide +kernel)) (by decide +kernel)⟩
theorem pk_X1_size : PkV yX1_size cX1_size 1 (some .int) 0 := ⟨⟨TsG_t (List.mem_of_getElem? (i := 781) (by decide +kernel)) (by decide +kernel), in_X1, by decide +kernel, by decide +kernel, by decide +kernel⟩, TsG_t (List.mem_of_getElem? (i := 779) (by decide +kernel)) (by decide +kernel), TsG_t (List.mem_of_getElem? (i := 780) (by decide +kernel)) (by decide +kernel)⟩
theorem pk_X2_add : PkV yX2_add cX2_add 3 (some .int) 1 := ⟨⟨TsG_t (List.mem_of_getElem? (i := 500) (by decide +kernel)) (by decide +kernel), in_X2, by decide +kernel, by decide +kernel, by decide +kernel⟩, TsG_t (List.mem_of_getElem? (i := 498) (by decide +kernel)) (by decide +kernel), TsG_t (List.mem_of_getElem? (i := 499) (by decide +kernel)) (by decide +kernel)⟩
theorem pk_X2_addDependency : PkV yX2_addDependency cX2_addDependency 3 none 2 := ⟨⟨TsG_t (List.mem_of_getElem? (i := 569) (by decide +kernel)) (by decide +kernel), in_X2, by decide +kernel, by decide +kernel, by decide +kernel⟩, TsG_t (List.mem_of_getElem? (i := 567) (by decide +kernel)) (by decide +kernel), TsG_t (List.mem_of_getElem? (i := 568) (by decide +kernel)) (by decide +kernel)⟩
theorem pk_X2_atPlace : PkV yX2_atPlace cX2_atPlace 2 (some .int) 1 := ⟨⟨TsG_t (List.mem_of_getElem? (i := 603) (by decide +kernel)) (by decide +kernel), in_X2, by decide +kernel, by decide +kernel, by decide +kernel⟩, TsG_t (List.mem_of_getElem? (i := 601) (by decide +kernel)) (by decide +kernel), TsG_t (List.mem_of_getElem? (i := 602) (by decide +kernel)) (by decide +kernel)⟩
theorem pk_X2_costOf : PkV yX2_costOf cX2_costOf 2 (some .int) 1 := ⟨⟨TsG_t (List.mem_of_getElem? (i := 740) (by decide +kernel)) (by decide +kernel), in_X2, by decide +kernel, by decide +kernel, by decide +kernel⟩, TsG_t (List.mem_of_getElem? (i := 738) (by decide +kernel)) (by decide +kernel), TsG_t (List.mem_of_getElem? (i := 739) (by decide +kernel)) (by decide +kernel)⟩
theorem pk_X2_covering : PkV yX2_covering cX2_covering 4 (some .int) 1 := ⟨⟨TsG_t (List.mem_of_getElem? (i := 611) (by decide +kernel)) (by decide +kernel), in_X2, by decide +kernel, by decide +kernel, by decide +kernel⟩, TsG_t (List.mem_of_getElem? (i := 609) (by decide +kernel)) (by decide +kernel), TsG_t (List.mem_of_getElem? (i := 610) (by decide +kernel)) (by decide +kernel)⟩
theorem pk_X2_dependenciesOf : PkV yX2_dependenciesOf cX2_dependenciesOf 2 (some .int) 1 := ⟨⟨TsG_t (List.mem_of_getElem? (i := 558) (by decide +kernel)) (by decide +kernel), in_X2, by decide +kernel, by decide +kernel, by decide +kernel⟩, TsG_t (List.mem_of_getElem? (i := 556) (by decide +kernel)) (by decide +kernel), TsG_t (List.mem_of_getElem? (i := 557) (by decide +kernel)) (by decide +kernel)⟩
theorem pk_X2_downFrom : PkV yX2_downFrom cX2_downFrom 5 (some .int) 1 := ⟨⟨TsG_t (List.mem_of_getElem? (i := 624) (by decide +kernel)) (by decide +kernel), in_X2, by decide +kernel, by decide +kernel, by decide +kernel⟩, TsG_t (List.mem_of_getElem? (i := 623) (by decide +kernel)) (by decide +kernel), TsG_s (q := (yX2_downFrom, 5)) (List.mem_of_getElem? (i := 15) (by decide +kernel))⟩
theorem pk_X2_globsOf : PkV yX2_globsOf cX2_globsOf 2 (some (.object "Monobuild$Globs")) 1 := ⟨⟨TsG_t (List.mem_of_getElem? (i := 521) (by decide +kernel)) (by decide +kernel), in_X2, by decide +kernel, by decide +kernel, by decide +kernel⟩, TsG_t (List.mem_of_getElem? (i := 519) (by decide +kernel)) (by decide +kernel), TsG_t (List.mem_of_getElem? (i := 520) (by decide +kernel)) (by decide +kernel)⟩
theorem pk_X2_has : PkV yX2_has cX2_has 2 (some .boolean) 1 := ⟨⟨TsG_t (List.mem_of_getElem? (i := 512) (by decide +kernel)) (by decide +kernel), in_X2, by decide +kernel, by decide +kernel, by decide +kernel⟩, TsG_t (List.mem_of_getElem? (i := 510) (by decide +kernel)) (by decide +kernel), TsG_t (List.mem_of_getElem? (i := 511) (by decide +kernel)) (by decide +kernel)⟩
theorem pk_X2_init : Pk yX2_init cX2_init 2 none 0 ∧ Cond.instanceMethod yX2_init ∈ TsG := ⟨⟨TsG_t (List.mem_of_getElem? (i := 77) (by decide +kernel)) (by decide +kernel), in_X2, by decide +kernel, by decide +kernel, by decide +kernel⟩, TsG_t (List.mem_of_getElem? (i := 76) (by decide +kernel)) (by decide +kernel)⟩
theorem pk_X2_isFull : PkV yX2_isFull cX2_isFull 1 (some .boolean) 0 := ⟨⟨TsG_t (List.mem_of_getElem? (i := 495) (by decide +kernel)) (by decide +kernel), in_X2, by decide +kernel, by decide +kernel, by decide +kernel⟩, TsG_t (List.mem_of_getElem? (i := 493) (by decide +kernel)) (by decide +kernel), TsG_t (List.mem_of_getElem? (i := 494) (by decide +kernel)) (by decide +kernel)⟩
theorem pk_X2_isNext : PkV yX2_isNext cX2_isNext 3 (some .boolean) 2 := ⟨⟨TsG_t (List.mem_of_getElem? (i := 598) (by decide +kernel)) (by decide +kernel), in_X2, by decide +kernel, by decide +kernel, by decide +kernel⟩, TsG_t (List.mem_of_getElem? (i := 597) (by decide +kernel)) (by decide +kernel), TsG_s (q := (yX2_isNext, 5)) (List.mem_of_getElem? (i := 14) (by decide +kernel))⟩
theorem pk_X2_makeOrder : PkV yX2_makeOrder cX2_makeOrder 4 none 0 := ⟨⟨TsG_t (List.mem_of_getElem? (i := 590) (by decide +kernel)) (by decide +kernel), in_X2, by decide +kernel, by decide +kernel, by decide +kernel⟩, TsG_t (List.mem_of_getElem? (i := 588) (by decide +kernel)) (by decide +kernel), TsG_t (List.mem_of_getElem? (i := 589) (by decide +kernel)) (by decide +kernel)⟩
theorem pk_X2_meetFile : PkV yX2_meetFile cX2_meetFile 4 none 2 := ⟨⟨TsG_t (List.mem_of_getElem? (i := 404) (by decide +kernel)) (by decide +kernel), in_X2, by decide +kernel, by decide +kernel, by decide +kernel⟩, TsG_t (List.mem_of_getElem? (i := 402) (by decide +kernel)) (by decide +kernel), TsG_t (List.mem_of_getElem? (i := 403) (by decide +kernel)) (by decide +kernel)⟩
theorem pk_X2_nextBehind : PkV yX2_nextBehind cX2_nextBehind 3 (some .int) 1 := ⟨⟨TsG_t (List.mem_of_getElem? (i := 594) (by decide +kernel)) (by decide +kernel), in_X2, by decide +kernel, by decide +kernel, by decide +kernel⟩, TsG_t (List.mem_of_getElem? (i := 593) (by decide +kernel)) (by decide +kernel), TsG_s (q := (yX2_nextBehind, 5)) (List.mem_of_getElem? (i := 13) (by decide +kernel))⟩
theorem pk_X2_reachingDown : PkV yX2_reachingDown cX2_reachingDown 4 (some .int) 1 := ⟨⟨TsG_t (List.mem_of_getElem? (i := 620) (by decide +kernel)) (by decide +kernel), in_X2, by decide +kernel, by decide +kernel, by decide +kernel⟩, TsG_t (List.mem_of_getElem? (i := 618) (by decide +kernel)) (by decide +kernel), TsG_t (List.mem_of_getElem? (i := 619) (by decide +kernel)) (by decide +kernel)⟩
theorem pk_X2_size : PkV yX2_size cX2_size 1 (some .int) 0 := ⟨⟨TsG_t (List.mem_of_getElem? (i := 585) (by decide +kernel)) (by decide +kernel), in_X2, by decide +kernel, by decide +kernel, by decide +kernel⟩, TsG_t (List.mem_of_getElem? (i := 583) (by decide +kernel)) (by decide +kernel), TsG_t (List.mem_of_getElem? (i := 584) (by decide +kernel)) (by decide +kernel)⟩
theorem pk_X2_upFrom : PkV yX2_upFrom cX2_upFrom 5 (some .int) 1 := ⟨⟨TsG_t (List.mem_of_getElem? (i := 564) (by decide +kernel)) (by decide +kernel), in_X2, by decide +kernel, by decide +kernel, by decide +kernel⟩, TsG_t (List.mem_of_getElem? (i := 562) (by decide +kernel)) (by decide +kernel), TsG_t (List.mem_of_getElem? (i := 563) (by decide +kernel)) (by decide +kernel)⟩
theorem pk_X3_agrees : PkV yX3_agrees cX3_agrees 4 (some .boolean) 2 := ⟨⟨TsG_t (List.mem_of_getElem? (i := 665) (by decide +kernel)) (by decide +kernel), in_X3, by decide +kernel, by decide +kernel, by decide +kernel⟩, TsG_t (List.mem_of_getElem? (i := 664) (by decide +kernel)) (by decide +kernel), TsG_s (q := (yX3_agrees, 8)) (List.mem_of_getElem? (i := 20) (by decide +kernel))⟩
theorem pk_X3_dependenciesHaveKeys : PkV yX3_dependenciesHaveKeys cX3_dependenciesHaveKeys 2 (some .boolean) 1 := ⟨⟨TsG_t (List.mem_of_getElem? (i := 653) (by decide +kernel)) (by decide +kernel), in_X3, by decide +kernel, by decide +kernel, by decide +kernel⟩, TsG_t (List.mem_of_getElem? (i := 652) (by decide +kernel)) (by decide +kernel), TsG_s (q := (yX3_dependenciesHaveKeys, 8)) (List.mem_of_getElem? (i := 18) (by decide +kernel))⟩
theorem pk_X3_fillRow : PkV yX3_fillRow cX3_fillRow 5 none 1 := ⟨⟨TsG_t (List.mem_of_getElem? (i := 643) (by decide +kernel)) (by decide +kernel), in_X3, by decide +kernel, by decide +kernel, by decide +kernel⟩, TsG_t (List.mem_of_getElem? (i := 642) (by decide +kernel)) (by decide +kernel), TsG_s (q := (yX3_fillRow, 8)) (List.mem_of_getElem? (i := 17) (by decide +kernel))⟩
theorem pk_X3_give : PkV yX3_give cX3_give 2 (some .int) 1 := ⟨⟨TsG_t (List.mem_of_getElem? (i := 700) (by decide +kernel)) (by decide +kernel), in_X3, by decide +kernel, by decide +kernel, by decide +kernel⟩, TsG_t (List.mem_of_getElem? (i := 699) (by decide +kernel)) (by decide +kernel), TsG_s (q := (yX3_give, 8)) (List.mem_of_getElem? (i := 21) (by decide +kernel))⟩
theorem pk_X3_given : PkV yX3_given cX3_given 1 (some .int) 0 := ⟨⟨TsG_t (List.mem_of_getElem? (i := 691) (by decide +kernel)) (by decide +kernel), in_X3, by decide +kernel, by decide +kernel, by decide +kernel⟩, TsG_t (List.mem_of_getElem? (i := 689) (by decide +kernel)) (by decide +kernel), TsG_t (List.mem_of_getElem? (i := 690) (by decide +kernel)) (by decide +kernel)⟩
theorem pk_X3_hasLatestInputs : PkV yX3_hasLatestInputs cX3_hasLatestInputs 2 (some .boolean) 1 := ⟨⟨TsG_t (List.mem_of_getElem? (i := 681) (by decide +kernel)) (by decide +kernel), in_X3, by decide +kernel, by decide +kernel, by decide +kernel⟩, TsG_t (List.mem_of_getElem? (i := 679) (by decide +kernel)) (by decide +kernel), TsG_t (List.mem_of_getElem? (i := 680) (by decide +kernel)) (by decide +kernel)⟩
theorem pk_X3_hasRun : PkV yX3_hasRun cX3_hasRun 2 (some .boolean) 1 := ⟨⟨TsG_t (List.mem_of_getElem? (i := 677) (by decide +kernel)) (by decide +kernel), in_X3, by decide +kernel, by decide +kernel, by decide +kernel⟩, TsG_t (List.mem_of_getElem? (i := 675) (by decide +kernel)) (by decide +kernel), TsG_t (List.mem_of_getElem? (i := 676) (by decide +kernel)) (by decide +kernel)⟩
theorem pk_X3_init : Pk yX3_init cX3_init 3 none 2 ∧ Cond.instanceMethod yX3_init ∈ TsG := ⟨⟨TsG_t (List.mem_of_getElem? (i := 124) (by decide +kernel)) (by decide +kernel), in_X3, by decide +kernel, by decide +kernel, by decide +kernel⟩, TsG_t (List.mem_of_getElem? (i := 123) (by decide +kernel)) (by decide +kernel)⟩
theorem pk_X3_keyNow : PkV yX3_keyNow cX3_keyNow 2 (some .int) 1 := ⟨⟨TsG_t (List.mem_of_getElem? (i := 669) (by decide +kernel)) (by decide +kernel), in_X3, by decide +kernel, by decide +kernel, by decide +kernel⟩, TsG_t (List.mem_of_getElem? (i := 667) (by decide +kernel)) (by decide +kernel), TsG_t (List.mem_of_getElem? (i := 668) (by decide +kernel)) (by decide +kernel)⟩
theorem pk_X3_keyOfRow : PkV yX3_keyOfRow cX3_keyOfRow 3 (some .int) 1 := ⟨⟨TsG_t (List.mem_of_getElem? (i := 661) (by decide +kernel)) (by decide +kernel), in_X3, by decide +kernel, by decide +kernel, by decide +kernel⟩, TsG_t (List.mem_of_getElem? (i := 660) (by decide +kernel)) (by decide +kernel), TsG_s (q := (yX3_keyOfRow, 8)) (List.mem_of_getElem? (i := 19) (by decide +kernel))⟩
theorem pk_X3_lookUp : PkV yX3_lookUp cX3_lookUp 2 none 1 := ⟨⟨TsG_t (List.mem_of_getElem? (i := 639) (by decide +kernel)) (by decide +kernel), in_X3, by decide +kernel, by decide +kernel, by decide +kernel⟩, TsG_t (List.mem_of_getElem? (i := 638) (by decide +kernel)) (by decide +kernel), TsG_s (q := (yX3_lookUp, 8)) (List.mem_of_getElem? (i := 16) (by decide +kernel))⟩
theorem pk_X3_lookUpAll : PkV yX3_lookUpAll cX3_lookUpAll 2 none 0 := ⟨⟨TsG_t (List.mem_of_getElem? (i := 632) (by decide +kernel)) (by decide +kernel), in_X3, by decide +kernel, by decide +kernel, by decide +kernel⟩, TsG_t (List.mem_of_getElem? (i := 630) (by decide +kernel)) (by decide +kernel), TsG_t (List.mem_of_getElem? (i := 631) (by decide +kernel)) (by decide +kernel)⟩
theorem pk_X3_runOrFind : PkV yX3_runOrFind cX3_runOrFind 2 (some .int) 1 := ⟨⟨TsG_t (List.mem_of_getElem? (i := 696) (by decide +kernel)) (by decide +kernel), in_X3, by decide +kernel, by decide +kernel, by decide +kernel⟩, TsG_t (List.mem_of_getElem? (i := 694) (by decide +kernel)) (by decide +kernel), TsG_t (List.mem_of_getElem? (i := 695) (by decide +kernel)) (by decide +kernel)⟩
theorem pk_X3_runOrFindAll : PkV yX3_runOrFindAll cX3_runOrFindAll 2 none 0 := ⟨⟨TsG_t (List.mem_of_getElem? (i := 712) (by decide +kernel)) (by decide +kernel), in_X3, by decide +kernel, by decide +kernel, by decide +kernel⟩, TsG_t (List.mem_of_getElem? (i := 710) (by decide +kernel)) (by decide +kernel), TsG_t (List.mem_of_getElem? (i := 711) (by decide +kernel)) (by decide +kernel)⟩
theorem pk_X3_withoutKey : PkV yX3_withoutKey cX3_withoutKey 3 (some .int) 0 := ⟨⟨TsG_t (List.mem_of_getElem? (i := 657) (by decide +kernel)) (by decide +kernel), in_X3, by decide +kernel, by decide +kernel, by decide +kernel⟩, TsG_t (List.mem_of_getElem? (i := 655) (by decide +kernel)) (by decide +kernel), TsG_t (List.mem_of_getElem? (i := 656) (by decide +kernel)) (by decide +kernel)⟩
theorem pk_X4_add : PkV yX4_add cX4_add 4 none 3 := ⟨⟨TsG_t (List.mem_of_getElem? (i := 777) (by decide +kernel)) (by decide +kernel), in_X4, by decide +kernel, by decide +kernel, by decide +kernel⟩, TsG_t (List.mem_of_getElem? (i := 775) (by decide +kernel)) (by decide +kernel), TsG_t (List.mem_of_getElem? (i := 776) (by decide +kernel)) (by decide +kernel)⟩
theorem pk_X4_init : Pk yX4_init cX4_init 1 none 0 ∧ Cond.instanceMethod yX4_init ∈ TsG := ⟨⟨TsG_t (List.mem_of_getElem? (i := 170) (by decide +kernel)) (by decide +kernel), in_X4, by decide +kernel, by decide +kernel, by decide +kernel⟩, TsG_t (List.mem_of_getElem? (i := 169) (by decide +kernel)) (by decide +kernel)⟩
theorem pk_X4_isFull : PkV yX4_isFull cX4_isFull 1 (some .boolean) 0 := ⟨⟨TsG_t (List.mem_of_getElem? (i := 771) (by decide +kernel)) (by decide +kernel), in_X4, by decide +kernel, by decide +kernel, by decide +kernel⟩, TsG_t (List.mem_of_getElem? (i := 769) (by decide +kernel)) (by decide +kernel), TsG_t (List.mem_of_getElem? (i := 770) (by decide +kernel)) (by decide +kernel)⟩
theorem pk_X4_latestOwner : PkV yX4_latestOwner cX4_latestOwner 3 (some .int) 1 := ⟨⟨TsG_t (List.mem_of_getElem? (i := 794) (by decide +kernel)) (by decide +kernel), in_X4, by decide +kernel, by decide +kernel, by decide +kernel⟩, TsG_t (List.mem_of_getElem? (i := 792) (by decide +kernel)) (by decide +kernel), TsG_t (List.mem_of_getElem? (i := 793) (by decide +kernel)) (by decide +kernel)⟩
theorem pk_X4_meetFile : PkV yX4_meetFile cX4_meetFile 3 none 2 := ⟨⟨TsG_t (List.mem_of_getElem? (i := 429) (by decide +kernel)) (by decide +kernel), in_X4, by decide +kernel, by decide +kernel, by decide +kernel⟩, TsG_t (List.mem_of_getElem? (i := 427) (by decide +kernel)) (by decide +kernel), TsG_t (List.mem_of_getElem? (i := 428) (by decide +kernel)) (by decide +kernel)⟩
theorem pk_X4_ownersOfAll : PkV yX4_ownersOfAll cX4_ownersOfAll 5 (some .int) 1 := ⟨⟨TsG_t (List.mem_of_getElem? (i := 845) (by decide +kernel)) (by decide +kernel), in_X4, by decide +kernel, by decide +kernel, by decide +kernel⟩, TsG_t (List.mem_of_getElem? (i := 843) (by decide +kernel)) (by decide +kernel), TsG_t (List.mem_of_getElem? (i := 844) (by decide +kernel)) (by decide +kernel)⟩
theorem pk_X4_size : PkV yX4_size cX4_size 1 (some .int) 0 := ⟨⟨TsG_t (List.mem_of_getElem? (i := 786) (by decide +kernel)) (by decide +kernel), in_X4, by decide +kernel, by decide +kernel, by decide +kernel⟩, TsG_t (List.mem_of_getElem? (i := 784) (by decide +kernel)) (by decide +kernel), TsG_t (List.mem_of_getElem? (i := 785) (by decide +kernel)) (by decide +kernel)⟩
theorem pk_X5_dearest : PkV yX5_dearest cX5_dearest 6 (some .int) 2 := ⟨⟨TsG_t (List.mem_of_getElem? (i := 734) (by decide +kernel)) (by decide +kernel), in_X5, by decide +kernel, by decide +kernel, by decide +kernel⟩, TsG_t (List.mem_of_getElem? (i := 733) (by decide +kernel)) (by decide +kernel), TsG_s (q := (yX5_dearest, 2)) (List.mem_of_getElem? (i := 23) (by decide +kernel))⟩
theorem pk_X5_greatestLoad : PkV yX5_greatestLoad cX5_greatestLoad 3 (some .int) 0 := ⟨⟨TsG_t (List.mem_of_getElem? (i := 756) (by decide +kernel)) (by decide +kernel), in_X5, by decide +kernel, by decide +kernel, by decide +kernel⟩, TsG_t (List.mem_of_getElem? (i := 754) (by decide +kernel)) (by decide +kernel), TsG_t (List.mem_of_getElem? (i := 755) (by decide +kernel)) (by decide +kernel)⟩
theorem pk_X5_init : Pk yX5_init cX5_init 1 none 0 ∧ Cond.instanceMethod yX5_init ∈ TsG := ⟨⟨TsG_t (List.mem_of_getElem? (i := 157) (by decide +kernel)) (by decide +kernel), in_X5, by decide +kernel, by decide +kernel, by decide +kernel⟩, TsG_t (List.mem_of_getElem? (i := 156) (by decide +kernel)) (by decide +kernel)⟩
theorem pk_X5_lightest : PkV yX5_lightest cX5_lightest 4 (some .int) 1 := ⟨⟨TsG_t (List.mem_of_getElem? (i := 744) (by decide +kernel)) (by decide +kernel), in_X5, by decide +kernel, by decide +kernel, by decide +kernel⟩, TsG_t (List.mem_of_getElem? (i := 743) (by decide +kernel)) (by decide +kernel), TsG_s (q := (yX5_lightest, 2)) (List.mem_of_getElem? (i := 24) (by decide +kernel))⟩
theorem pk_X5_over : PkV yX5_over cX5_over 8 none 3 := ⟨⟨TsG_t (List.mem_of_getElem? (i := 726) (by decide +kernel)) (by decide +kernel), in_X5, by decide +kernel, by decide +kernel, by decide +kernel⟩, TsG_t (List.mem_of_getElem? (i := 724) (by decide +kernel)) (by decide +kernel), TsG_t (List.mem_of_getElem? (i := 725) (by decide +kernel)) (by decide +kernel)⟩
theorem pk_X5_placeOf : PkV yX5_placeOf cX5_placeOf 2 (some .int) 1 := ⟨⟨TsG_t (List.mem_of_getElem? (i := 748) (by decide +kernel)) (by decide +kernel), in_X5, by decide +kernel, by decide +kernel, by decide +kernel⟩, TsG_t (List.mem_of_getElem? (i := 746) (by decide +kernel)) (by decide +kernel), TsG_t (List.mem_of_getElem? (i := 747) (by decide +kernel)) (by decide +kernel)⟩
theorem pk_X6_append : PkV yX6_append cX6_append 2 none 1 := ⟨⟨TsG_t (List.mem_of_getElem? (i := 353) (by decide +kernel)) (by decide +kernel), in_X6, by decide +kernel, by decide +kernel, by decide +kernel⟩, TsG_t (List.mem_of_getElem? (i := 351) (by decide +kernel)) (by decide +kernel), TsG_t (List.mem_of_getElem? (i := 352) (by decide +kernel)) (by decide +kernel)⟩
theorem pk_X6_copyFrom : PkV yX6_copyFrom cX6_copyFrom 3 none 1 := ⟨⟨TsG_t (List.mem_of_getElem? (i := 400) (by decide +kernel)) (by decide +kernel), in_X6, by decide +kernel, by decide +kernel, by decide +kernel⟩, TsG_t (List.mem_of_getElem? (i := 398) (by decide +kernel)) (by decide +kernel), TsG_t (List.mem_of_getElem? (i := 399) (by decide +kernel)) (by decide +kernel)⟩
theorem pk_X6_covers : PkV yX6_covers cX6_covers 5 (some .boolean) 1 := ⟨⟨TsG_t (List.mem_of_getElem? (i := 412) (by decide +kernel)) (by decide +kernel), in_X6, by decide +kernel, by decide +kernel, by decide +kernel⟩, TsG_t (List.mem_of_getElem? (i := 410) (by decide +kernel)) (by decide +kernel), TsG_t (List.mem_of_getElem? (i := 411) (by decide +kernel)) (by decide +kernel)⟩
theorem pk_X6_empty : PkV yX6_empty cX6_empty 1 none 0 := ⟨⟨TsG_t (List.mem_of_getElem? (i := 211) (by decide +kernel)) (by decide +kernel), in_X6, by decide +kernel, by decide +kernel, by decide +kernel⟩, TsG_t (List.mem_of_getElem? (i := 209) (by decide +kernel)) (by decide +kernel), TsG_t (List.mem_of_getElem? (i := 210) (by decide +kernel)) (by decide +kernel)⟩
theorem pk_X6_hasEmptySegment : PkV yX6_hasEmptySegment cX6_hasEmptySegment 2 (some .boolean) 0 := ⟨⟨TsG_t (List.mem_of_getElem? (i := 226) (by decide +kernel)) (by decide +kernel), in_X6, by decide +kernel, by decide +kernel, by decide +kernel⟩, TsG_t (List.mem_of_getElem? (i := 225) (by decide +kernel)) (by decide +kernel), TsG_s (q := (yX6_hasEmptySegment, 2)) (List.mem_of_getElem? (i := 0) (by decide +kernel))⟩
theorem pk_X6_hasGlobForm : PkV yX6_hasGlobForm cX6_hasGlobForm 2 (some .boolean) 0 := ⟨⟨TsG_t (List.mem_of_getElem? (i := 238) (by decide +kernel)) (by decide +kernel), in_X6, by decide +kernel, by decide +kernel, by decide +kernel⟩, TsG_t (List.mem_of_getElem? (i := 236) (by decide +kernel)) (by decide +kernel), TsG_t (List.mem_of_getElem? (i := 237) (by decide +kernel)) (by decide +kernel)⟩
theorem pk_X6_hasPathForm : PkV yX6_hasPathForm cX6_hasPathForm 2 (some .boolean) 0 := ⟨⟨TsG_t (List.mem_of_getElem? (i := 222) (by decide +kernel)) (by decide +kernel), in_X6, by decide +kernel, by decide +kernel, by decide +kernel⟩, TsG_t (List.mem_of_getElem? (i := 220) (by decide +kernel)) (by decide +kernel), TsG_t (List.mem_of_getElem? (i := 221) (by decide +kernel)) (by decide +kernel)⟩
theorem pk_X6_init : Pk yX6_init cX6_init 1 none 0 ∧ Cond.instanceMethod yX6_init ∈ TsG := ⟨⟨TsG_t (List.mem_of_getElem? (i := 34) (by decide +kernel)) (by decide +kernel), in_X6, by decide +kernel, by decide +kernel, by decide +kernel⟩, TsG_t (List.mem_of_getElem? (i := 33) (by decide +kernel)) (by decide +kernel)⟩
theorem pk_X6_isDoubleStar : PkV yX6_isDoubleStar cX6_isDoubleStar 2 (some .boolean) 1 := ⟨⟨TsG_t (List.mem_of_getElem? (i := 242) (by decide +kernel)) (by decide +kernel), in_X6, by decide +kernel, by decide +kernel, by decide +kernel⟩, TsG_t (List.mem_of_getElem? (i := 241) (by decide +kernel)) (by decide +kernel), TsG_s (q := (yX6_isDoubleStar, 2)) (List.mem_of_getElem? (i := 2) (by decide +kernel))⟩
theorem pk_X6_isFull : PkV yX6_isFull cX6_isFull 1 (some .boolean) 0 := ⟨⟨TsG_t (List.mem_of_getElem? (i := 333) (by decide +kernel)) (by decide +kernel), in_X6, by decide +kernel, by decide +kernel, by decide +kernel⟩, TsG_t (List.mem_of_getElem? (i := 331) (by decide +kernel)) (by decide +kernel), TsG_t (List.mem_of_getElem? (i := 332) (by decide +kernel)) (by decide +kernel)⟩
theorem pk_X6_isSameAs : PkV yX6_isSameAs cX6_isSameAs 3 (some .boolean) 1 := ⟨⟨TsG_t (List.mem_of_getElem? (i := 371) (by decide +kernel)) (by decide +kernel), in_X6, by decide +kernel, by decide +kernel, by decide +kernel⟩, TsG_t (List.mem_of_getElem? (i := 369) (by decide +kernel)) (by decide +kernel), TsG_t (List.mem_of_getElem? (i := 370) (by decide +kernel)) (by decide +kernel)⟩
theorem pk_X6_overLetters : PkV yX6_overLetters cX6_overLetters 4 (some .int) 1 := ⟨⟨TsG_t (List.mem_of_getElem? (i := 421) (by decide +kernel)) (by decide +kernel), in_X6, by decide +kernel, by decide +kernel, by decide +kernel⟩, TsG_t (List.mem_of_getElem? (i := 420) (by decide +kernel)) (by decide +kernel), TsG_s (q := (yX6_overLetters, 2)) (List.mem_of_getElem? (i := 7) (by decide +kernel))⟩
theorem pk_X6_overSign : PkV yX6_overSign cX6_overSign 6 (some .int) 2 := ⟨⟨TsG_t (List.mem_of_getElem? (i := 425) (by decide +kernel)) (by decide +kernel), in_X6, by decide +kernel, by decide +kernel, by decide +kernel⟩, TsG_t (List.mem_of_getElem? (i := 424) (by decide +kernel)) (by decide +kernel), TsG_s (q := (yX6_overSign, 2)) (List.mem_of_getElem? (i := 8) (by decide +kernel))⟩
theorem pk_X6_signAt : PkV yX6_signAt cX6_signAt 2 (some .char) 1 := ⟨⟨TsG_t (List.mem_of_getElem? (i := 230) (by decide +kernel)) (by decide +kernel), in_X6, by decide +kernel, by decide +kernel, by decide +kernel⟩, TsG_t (List.mem_of_getElem? (i := 229) (by decide +kernel)) (by decide +kernel), TsG_s (q := (yX6_signAt, 2)) (List.mem_of_getElem? (i := 1) (by decide +kernel))⟩
theorem pk_X6_size : PkV yX6_size cX6_size 1 (some .int) 0 := ⟨⟨TsG_t (List.mem_of_getElem? (i := 207) (by decide +kernel)) (by decide +kernel), in_X6, by decide +kernel, by decide +kernel, by decide +kernel⟩, TsG_t (List.mem_of_getElem? (i := 205) (by decide +kernel)) (by decide +kernel), TsG_t (List.mem_of_getElem? (i := 206) (by decide +kernel)) (by decide +kernel)⟩
theorem pk_X6_startsFrom : PkV yX6_startsFrom cX6_startsFrom 5 (some .int) 1 := ⟨⟨TsG_t (List.mem_of_getElem? (i := 416) (by decide +kernel)) (by decide +kernel), in_X6, by decide +kernel, by decide +kernel, by decide +kernel⟩, TsG_t (List.mem_of_getElem? (i := 415) (by decide +kernel)) (by decide +kernel), TsG_s (q := (yX6_startsFrom, 2)) (List.mem_of_getElem? (i := 6) (by decide +kernel))⟩
theorem pk_X7_above : PkV yX7_above cX7_above 3 (some .int) 1 := ⟨⟨TsG_t (List.mem_of_getElem? (i := 577) (by decide +kernel)) (by decide +kernel), in_X7, by decide +kernel, by decide +kernel, by decide +kernel⟩, TsG_t (List.mem_of_getElem? (i := 575) (by decide +kernel)) (by decide +kernel), TsG_t (List.mem_of_getElem? (i := 576) (by decide +kernel)) (by decide +kernel)⟩
theorem pk_X7_addFile : PkV yX7_addFile cX7_addFile 3 (some .int) 1 := ⟨⟨TsG_t (List.mem_of_getElem? (i := 357) (by decide +kernel)) (by decide +kernel), in_X7, by decide +kernel, by decide +kernel, by decide +kernel⟩, TsG_t (List.mem_of_getElem? (i := 355) (by decide +kernel)) (by decide +kernel), TsG_t (List.mem_of_getElem? (i := 356) (by decide +kernel)) (by decide +kernel)⟩
theorem pk_X7_addGlob : PkV yX7_addGlob cX7_addGlob 3 (some .int) 1 := ⟨⟨TsG_t (List.mem_of_getElem? (i := 504) (by decide +kernel)) (by decide +kernel), in_X7, by decide +kernel, by decide +kernel, by decide +kernel⟩, TsG_t (List.mem_of_getElem? (i := 502) (by decide +kernel)) (by decide +kernel), TsG_t (List.mem_of_getElem? (i := 503) (by decide +kernel)) (by decide +kernel)⟩
theorem pk_X7_addRule : PkV yX7_addRule cX7_addRule 2 (some .int) 1 := ⟨⟨TsG_t (List.mem_of_getElem? (i := 766) (by decide +kernel)) (by decide +kernel), in_X7, by decide +kernel, by decide +kernel, by decide +kernel⟩, TsG_t (List.mem_of_getElem? (i := 764) (by decide +kernel)) (by decide +kernel), TsG_t (List.mem_of_getElem? (i := 765) (by decide +kernel)) (by decide +kernel)⟩
theorem pk_X7_addTarget : PkV yX7_addTarget cX7_addTarget 2 (some .int) 1 := ⟨⟨TsG_t (List.mem_of_getElem? (i := 490) (by decide +kernel)) (by decide +kernel), in_X7, by decide +kernel, by decide +kernel, by decide +kernel⟩, TsG_t (List.mem_of_getElem? (i := 488) (by decide +kernel)) (by decide +kernel), TsG_t (List.mem_of_getElem? (i := 489) (by decide +kernel)) (by decide +kernel)⟩
theorem pk_X7_affectedBy : PkV yX7_affectedBy cX7_affectedBy 2 (some .int) 1 := ⟨⟨TsG_t (List.mem_of_getElem? (i := 607) (by decide +kernel)) (by decide +kernel), in_X7, by decide +kernel, by decide +kernel, by decide +kernel⟩, TsG_t (List.mem_of_getElem? (i := 605) (by decide +kernel)) (by decide +kernel), TsG_t (List.mem_of_getElem? (i := 606) (by decide +kernel)) (by decide +kernel)⟩
theorem pk_X7_affectedByGoingDown : PkV yX7_affectedByGoingDown cX7_affectedByGoingDown 2 (some .int) 1 := ⟨⟨TsG_t (List.mem_of_getElem? (i := 616) (by decide +kernel)) (by decide +kernel), in_X7, by decide +kernel, by decide +kernel, by decide +kernel⟩, TsG_t (List.mem_of_getElem? (i := 614) (by decide +kernel)) (by decide +kernel), TsG_t (List.mem_of_getElem? (i := 615) (by decide +kernel)) (by decide +kernel)⟩
theorem pk_X7_changed : PkV yX7_changed cX7_changed 1 (some .int) 0 := ⟨⟨TsG_t (List.mem_of_getElem? (i := 811) (by decide +kernel)) (by decide +kernel), in_X7, by decide +kernel, by decide +kernel, by decide +kernel⟩, TsG_t (List.mem_of_getElem? (i := 809) (by decide +kernel)) (by decide +kernel), TsG_t (List.mem_of_getElem? (i := 810) (by decide +kernel)) (by decide +kernel)⟩
theorem pk_X7_clearText : PkV yX7_clearText cX7_clearText 2 (some .int) 0 := ⟨⟨TsG_t (List.mem_of_getElem? (i := 203) (by decide +kernel)) (by decide +kernel), in_X7, by decide +kernel, by decide +kernel, by decide +kernel⟩, TsG_t (List.mem_of_getElem? (i := 201) (by decide +kernel)) (by decide +kernel), TsG_t (List.mem_of_getElem? (i := 202) (by decide +kernel)) (by decide +kernel)⟩
theorem pk_X7_delete : PkV yX7_delete cX7_delete 2 (some .int) 1 := ⟨⟨TsG_t (List.mem_of_getElem? (i := 466) (by decide +kernel)) (by decide +kernel), in_X7, by decide +kernel, by decide +kernel, by decide +kernel⟩, TsG_t (List.mem_of_getElem? (i := 464) (by decide +kernel)) (by decide +kernel), TsG_t (List.mem_of_getElem? (i := 465) (by decide +kernel)) (by decide +kernel)⟩
theorem pk_X7_depend : PkV yX7_depend cX7_depend 3 (some .int) 2 := ⟨⟨TsG_t (List.mem_of_getElem? (i := 554) (by decide +kernel)) (by decide +kernel), in_X7, by decide +kernel, by decide +kernel, by decide +kernel⟩, TsG_t (List.mem_of_getElem? (i := 552) (by decide +kernel)) (by decide +kernel), TsG_t (List.mem_of_getElem? (i := 553) (by decide +kernel)) (by decide +kernel)⟩
theorem pk_X7_edit : PkV yX7_edit cX7_edit 4 (some .int) 2 := ⟨⟨TsG_t (List.mem_of_getElem? (i := 438) (by decide +kernel)) (by decide +kernel), in_X7, by decide +kernel, by decide +kernel, by decide +kernel⟩, TsG_t (List.mem_of_getElem? (i := 436) (by decide +kernel)) (by decide +kernel), TsG_t (List.mem_of_getElem? (i := 437) (by decide +kernel)) (by decide +kernel)⟩
theorem pk_X7_files : PkV yX7_files cX7_files 1 (some .int) 0 := ⟨⟨TsG_t (List.mem_of_getElem? (i := 807) (by decide +kernel)) (by decide +kernel), in_X7, by decide +kernel, by decide +kernel, by decide +kernel⟩, TsG_t (List.mem_of_getElem? (i := 805) (by decide +kernel)) (by decide +kernel), TsG_t (List.mem_of_getElem? (i := 806) (by decide +kernel)) (by decide +kernel)⟩
theorem pk_X7_findFile : PkV yX7_findFile cX7_findFile 1 (some .int) 0 := ⟨⟨TsG_t (List.mem_of_getElem? (i := 803) (by decide +kernel)) (by decide +kernel), in_X7, by decide +kernel, by decide +kernel, by decide +kernel⟩, TsG_t (List.mem_of_getElem? (i := 801) (by decide +kernel)) (by decide +kernel), TsG_t (List.mem_of_getElem? (i := 802) (by decide +kernel)) (by decide +kernel)⟩
theorem pk_X7_holds : PkS yX7_holds cX7_holds 2 (some .boolean) 2 := ⟨⟨TsG_t (List.mem_of_getElem? (i := 382) (by decide +kernel)) (by decide +kernel), in_X7, by decide +kernel, by decide +kernel, by decide +kernel⟩, TsG_t (List.mem_of_getElem? (i := 381) (by decide +kernel)) (by decide +kernel)⟩
theorem pk_X7_init : Pk yX7_init cX7_init 1 none 0 ∧ Cond.instanceMethod yX7_init ∈ TsG := ⟨⟨TsG_t (List.mem_of_getElem? (i := 26) (by decide +kernel)) (by decide +kernel), in_X7, by decide +kernel, by decide +kernel, by decide +kernel⟩, TsG_t (List.mem_of_getElem? (i := 25) (by decide +kernel)) (by decide +kernel)⟩
theorem pk_X7_inputs : PkV yX7_inputs cX7_inputs 2 (some .int) 1 := ⟨⟨TsG_t (List.mem_of_getElem? (i := 573) (by decide +kernel)) (by decide +kernel), in_X7, by decide +kernel, by decide +kernel, by decide +kernel⟩, TsG_t (List.mem_of_getElem? (i := 571) (by decide +kernel)) (by decide +kernel), TsG_t (List.mem_of_getElem? (i := 572) (by decide +kernel)) (by decide +kernel)⟩
theorem pk_X7_isGlob : PkV yX7_isGlob cX7_isGlob 1 (some .boolean) 0 := ⟨⟨TsG_t (List.mem_of_getElem? (i := 234) (by decide +kernel)) (by decide +kernel), in_X7, by decide +kernel, by decide +kernel, by decide +kernel⟩, TsG_t (List.mem_of_getElem? (i := 232) (by decide +kernel)) (by decide +kernel), TsG_t (List.mem_of_getElem? (i := 233) (by decide +kernel)) (by decide +kernel)⟩
theorem pk_X7_isPath : PkV yX7_isPath cX7_isPath 1 (some .boolean) 0 := ⟨⟨TsG_t (List.mem_of_getElem? (i := 218) (by decide +kernel)) (by decide +kernel), in_X7, by decide +kernel, by decide +kernel, by decide +kernel⟩, TsG_t (List.mem_of_getElem? (i := 216) (by decide +kernel)) (by decide +kernel), TsG_t (List.mem_of_getElem? (i := 217) (by decide +kernel)) (by decide +kernel)⟩
theorem pk_X7_isSign : PkS yX7_isSign cX7_isSign 1 (some .boolean) 1 := ⟨⟨TsG_t (List.mem_of_getElem? (i := 261) (by decide +kernel)) (by decide +kernel), in_X7, by decide +kernel, by decide +kernel, by decide +kernel⟩, TsG_t (List.mem_of_getElem? (i := 260) (by decide +kernel)) (by decide +kernel)⟩
theorem pk_X7_keyOf : PkV yX7_keyOf cX7_keyOf 2 (some .int) 1 := ⟨⟨TsG_t (List.mem_of_getElem? (i := 628) (by decide +kernel)) (by decide +kernel), in_X7, by decide +kernel, by decide +kernel, by decide +kernel⟩, TsG_t (List.mem_of_getElem? (i := 626) (by decide +kernel)) (by decide +kernel), TsG_t (List.mem_of_getElem? (i := 627) (by decide +kernel)) (by decide +kernel)⟩
theorem pk_X7_keys : PkV yX7_keys cX7_keys 1 (some .int) 0 := ⟨⟨TsG_t (List.mem_of_getElem? (i := 829) (by decide +kernel)) (by decide +kernel), in_X7, by decide +kernel, by decide +kernel, by decide +kernel⟩, TsG_t (List.mem_of_getElem? (i := 827) (by decide +kernel)) (by decide +kernel), TsG_t (List.mem_of_getElem? (i := 828) (by decide +kernel)) (by decide +kernel)⟩
theorem pk_X7_longestShard : PkV yX7_longestShard cX7_longestShard 2 (some .int) 1 := ⟨⟨TsG_t (List.mem_of_getElem? (i := 752) (by decide +kernel)) (by decide +kernel), in_X7, by decide +kernel, by decide +kernel, by decide +kernel⟩, TsG_t (List.mem_of_getElem? (i := 750) (by decide +kernel)) (by decide +kernel), TsG_t (List.mem_of_getElem? (i := 751) (by decide +kernel)) (by decide +kernel)⟩
theorem pk_X7_mark : PkV yX7_mark cX7_mark 1 (some .int) 0 := ⟨⟨TsG_t (List.mem_of_getElem? (i := 851) (by decide +kernel)) (by decide +kernel), in_X7, by decide +kernel, by decide +kernel, by decide +kernel⟩, TsG_t (List.mem_of_getElem? (i := 849) (by decide +kernel)) (by decide +kernel), TsG_t (List.mem_of_getElem? (i := 850) (by decide +kernel)) (by decide +kernel)⟩
theorem pk_X7_matches : PkV yX7_matches cX7_matches 2 (some .boolean) 1 := ⟨⟨TsG_t (List.mem_of_getElem? (i := 474) (by decide +kernel)) (by decide +kernel), in_X7, by decide +kernel, by decide +kernel, by decide +kernel⟩, TsG_t (List.mem_of_getElem? (i := 472) (by decide +kernel)) (by decide +kernel), TsG_t (List.mem_of_getElem? (i := 473) (by decide +kernel)) (by decide +kernel)⟩
theorem pk_X7_needed : PkV yX7_needed cX7_needed 1 (some .int) 0 := ⟨⟨TsG_t (List.mem_of_getElem? (i := 825) (by decide +kernel)) (by decide +kernel), in_X7, by decide +kernel, by decide +kernel, by decide +kernel⟩, TsG_t (List.mem_of_getElem? (i := 823) (by decide +kernel)) (by decide +kernel), TsG_t (List.mem_of_getElem? (i := 824) (by decide +kernel)) (by decide +kernel)⟩
theorem pk_X7_numberNewPath : PkV yX7_numberNewPath cX7_numberNewPath 2 (some .int) 0 := ⟨⟨TsG_t (List.mem_of_getElem? (i := 392) (by decide +kernel)) (by decide +kernel), in_X7, by decide +kernel, by decide +kernel, by decide +kernel⟩, TsG_t (List.mem_of_getElem? (i := 391) (by decide +kernel)) (by decide +kernel), TsG_s (q := (yX7_numberNewPath, 6)) (List.mem_of_getElem? (i := 5) (by decide +kernel))⟩
theorem pk_X7_orderAt : PkV yX7_orderAt cX7_orderAt 2 (some .int) 1 := ⟨⟨TsG_t (List.mem_of_getElem? (i := 581) (by decide +kernel)) (by decide +kernel), in_X7, by decide +kernel, by decide +kernel, by decide +kernel⟩, TsG_t (List.mem_of_getElem? (i := 579) (by decide +kernel)) (by decide +kernel), TsG_t (List.mem_of_getElem? (i := 580) (by decide +kernel)) (by decide +kernel)⟩
theorem pk_X7_ownerOf : PkV yX7_ownerOf cX7_ownerOf 2 (some .int) 1 := ⟨⟨TsG_t (List.mem_of_getElem? (i := 790) (by decide +kernel)) (by decide +kernel), in_X7, by decide +kernel, by decide +kernel, by decide +kernel⟩, TsG_t (List.mem_of_getElem? (i := 788) (by decide +kernel)) (by decide +kernel), TsG_t (List.mem_of_getElem? (i := 789) (by decide +kernel)) (by decide +kernel)⟩
theorem pk_X7_requireContent : PkV yX7_requireContent cX7_requireContent 2 none 1 := ⟨⟨TsG_t (List.mem_of_getElem? (i := 361) (by decide +kernel)) (by decide +kernel), in_X7, by decide +kernel, by decide +kernel, by decide +kernel⟩, TsG_t (List.mem_of_getElem? (i := 360) (by decide +kernel)) (by decide +kernel), TsG_s (q := (yX7_requireContent, 6)) (List.mem_of_getElem? (i := 4) (by decide +kernel))⟩
theorem pk_X7_requireFile : PkV yX7_requireFile cX7_requireFile 2 none 1 := ⟨⟨TsG_t (List.mem_of_getElem? (i := 478) (by decide +kernel)) (by decide +kernel), in_X7, by decide +kernel, by decide +kernel, by decide +kernel⟩, TsG_t (List.mem_of_getElem? (i := 477) (by decide +kernel)) (by decide +kernel), TsG_s (q := (yX7_requireFile, 6)) (List.mem_of_getElem? (i := 10) (by decide +kernel))⟩
theorem pk_X7_requireFileThere : PkV yX7_requireFileThere cX7_requireFileThere 2 none 1 := ⟨⟨TsG_t (List.mem_of_getElem? (i := 442) (by decide +kernel)) (by decide +kernel), in_X7, by decide +kernel, by decide +kernel, by decide +kernel⟩, TsG_t (List.mem_of_getElem? (i := 441) (by decide +kernel)) (by decide +kernel), TsG_s (q := (yX7_requireFileThere, 6)) (List.mem_of_getElem? (i := 9) (by decide +kernel))⟩
theorem pk_X7_requireGlob : PkV yX7_requireGlob cX7_requireGlob 1 none 0 := ⟨⟨TsG_t (List.mem_of_getElem? (i := 517) (by decide +kernel)) (by decide +kernel), in_X7, by decide +kernel, by decide +kernel, by decide +kernel⟩, TsG_t (List.mem_of_getElem? (i := 516) (by decide +kernel)) (by decide +kernel), TsG_s (q := (yX7_requireGlob, 6)) (List.mem_of_getElem? (i := 12) (by decide +kernel))⟩
theorem pk_X7_requireShards : PkV yX7_requireShards cX7_requireShards 2 none 1 := ⟨⟨TsG_t (List.mem_of_getElem? (i := 721) (by decide +kernel)) (by decide +kernel), in_X7, by decide +kernel, by decide +kernel, by decide +kernel⟩, TsG_t (List.mem_of_getElem? (i := 720) (by decide +kernel)) (by decide +kernel), TsG_s (q := (yX7_requireShards, 6)) (List.mem_of_getElem? (i := 22) (by decide +kernel))⟩
theorem pk_X7_requireTarget : PkV yX7_requireTarget cX7_requireTarget 2 none 1 := ⟨⟨TsG_t (List.mem_of_getElem? (i := 508) (by decide +kernel)) (by decide +kernel), in_X7, by decide +kernel, by decide +kernel, by decide +kernel⟩, TsG_t (List.mem_of_getElem? (i := 507) (by decide +kernel)) (by decide +kernel), TsG_s (q := (yX7_requireTarget, 6)) (List.mem_of_getElem? (i := 11) (by decide +kernel))⟩
theorem pk_X7_reviewers : PkV yX7_reviewers cX7_reviewers 1 (some .int) 0 := ⟨⟨TsG_t (List.mem_of_getElem? (i := 841) (by decide +kernel)) (by decide +kernel), in_X7, by decide +kernel, by decide +kernel, by decide +kernel⟩, TsG_t (List.mem_of_getElem? (i := 839) (by decide +kernel)) (by decide +kernel), TsG_t (List.mem_of_getElem? (i := 840) (by decide +kernel)) (by decide +kernel)⟩
theorem pk_X7_run : PkV yX7_run cX7_run 2 (some .int) 1 := ⟨⟨TsG_t (List.mem_of_getElem? (i := 685) (by decide +kernel)) (by decide +kernel), in_X7, by decide +kernel, by decide +kernel, by decide +kernel⟩, TsG_t (List.mem_of_getElem? (i := 683) (by decide +kernel)) (by decide +kernel), TsG_t (List.mem_of_getElem? (i := 684) (by decide +kernel)) (by decide +kernel)⟩
theorem pk_X7_runAll : PkV yX7_runAll cX7_runAll 2 (some .int) 0 := ⟨⟨TsG_t (List.mem_of_getElem? (i := 707) (by decide +kernel)) (by decide +kernel), in_X7, by decide +kernel, by decide +kernel, by decide +kernel⟩, TsG_t (List.mem_of_getElem? (i := 705) (by decide +kernel)) (by decide +kernel), TsG_t (List.mem_of_getElem? (i := 706) (by decide +kernel)) (by decide +kernel)⟩
theorem pk_X7_shardOf : PkV yX7_shardOf cX7_shardOf 3 (some .int) 2 := ⟨⟨TsG_t (List.mem_of_getElem? (i := 717) (by decide +kernel)) (by decide +kernel), in_X7, by decide +kernel, by decide +kernel, by decide +kernel⟩, TsG_t (List.mem_of_getElem? (i := 715) (by decide +kernel)) (by decide +kernel), TsG_t (List.mem_of_getElem? (i := 716) (by decide +kernel)) (by decide +kernel)⟩
theorem pk_X7_shardsFor : PkV yX7_shardsFor cX7_shardsFor 3 (some .int) 1 := ⟨⟨TsG_t (List.mem_of_getElem? (i := 761) (by decide +kernel)) (by decide +kernel), in_X7, by decide +kernel, by decide +kernel, by decide +kernel⟩, TsG_t (List.mem_of_getElem? (i := 759) (by decide +kernel)) (by decide +kernel), TsG_t (List.mem_of_getElem? (i := 760) (by decide +kernel)) (by decide +kernel)⟩
theorem pk_X7_targets : PkV yX7_targets cX7_targets 1 (some .int) 0 := ⟨⟨TsG_t (List.mem_of_getElem? (i := 836) (by decide +kernel)) (by decide +kernel), in_X7, by decide +kernel, by decide +kernel, by decide +kernel⟩, TsG_t (List.mem_of_getElem? (i := 834) (by decide +kernel)) (by decide +kernel), TsG_t (List.mem_of_getElem? (i := 835) (by decide +kernel)) (by decide +kernel)⟩
theorem pk_X7_type : PkV yX7_type cX7_type 2 (some .int) 1 := ⟨⟨TsG_t (List.mem_of_getElem? (i := 258) (by decide +kernel)) (by decide +kernel), in_X7, by decide +kernel, by decide +kernel, by decide +kernel⟩, TsG_t (List.mem_of_getElem? (i := 256) (by decide +kernel)) (by decide +kernel), TsG_t (List.mem_of_getElem? (i := 257) (by decide +kernel)) (by decide +kernel)⟩
theorem pk_X7_whyRun : PkV yX7_whyRun cX7_whyRun 2 (some .int) 1 := ⟨⟨TsG_t (List.mem_of_getElem? (i := 673) (by decide +kernel)) (by decide +kernel), in_X7, by decide +kernel, by decide +kernel, by decide +kernel⟩, TsG_t (List.mem_of_getElem? (i := 671) (by decide +kernel)) (by decide +kernel), TsG_t (List.mem_of_getElem? (i := 672) (by decide +kernel)) (by decide +kernel)⟩
theorem shk_4 : shp 4 = 6 := by decide +kernel
theorem lnk_4 : ln 4 = 24 := by decide +kernel
theorem shk_5 : shp 5 = 3 := by decide +kernel
theorem lnk_5 : ln 5 = 24 := by decide +kernel
theorem shk_6 : shp 6 = 3 := by decide +kernel
theorem lnk_6 : ln 6 = 24 := by decide +kernel
theorem shk_56 : shp 56 = 3 := by decide +kernel
theorem lnk_56 : ln 56 = 16 := by decide +kernel
theorem shk_57 : shp 57 = 3 := by decide +kernel
theorem lnk_57 : ln 57 = 16 := by decide +kernel
theorem shk_58 : shp 58 = 8 := by decide +kernel
theorem lnk_58 : ln 58 = 16 := by decide +kernel
theorem shk_59 : shp 59 = 3 := by decide +kernel
theorem lnk_59 : ln 59 = 16 := by decide +kernel
theorem shk_237 : shp 237 = 12 := by decide +kernel
theorem lnk_237 : ln 237 = 201 := by decide +kernel
theorem shk_439 : shp 439 = 3 := by decide +kernel
theorem lnk_439 : ln 439 = 201 := by decide +kernel
theorem shk_440 : shp 440 = 3 := by decide +kernel
theorem lnk_440 : ln 440 = 16 := by decide +kernel
theorem shk_441 : shp 441 = 3 := by decide +kernel
theorem lnk_441 : ln 441 = 16 := by decide +kernel
theorem shk_442 : shp 442 = 3 := by decide +kernel
theorem lnk_442 : ln 442 = 40 := by decide +kernel
theorem shk_444 : shp 444 = 3 := by decide +kernel
theorem lnk_444 : ln 444 = 8 := by decide +kernel
theorem shk_445 : shp 445 = 3 := by decide +kernel
theorem lnk_445 : ln 445 = 16 := by decide +kernel
theorem shk_474 : shp 474 = 3 := by decide +kernel
theorem lnk_474 : ln 474 = 12 := by decide +kernel
theorem shk_1 : shp 1 = 1 := by decide +kernel
theorem shk_447 : shp 447 = 9 := by decide +kernel
theorem shk_0 : shp 0 = 4 := by decide +kernel
theorem shk_3 : shp 3 = 5 := by decide +kernel
theorem shk_55 : shp 55 = 7 := by decide +kernel
theorem shk_236 : shp 236 = 11 := by decide +kernel
theorem shk_443 : shp 443 = 13 := by decide +kernel
theorem shk_446 : shp 446 = 14 := by decide +kernel
theorem iw_X0 : ∀ w ∈ u_ws RX0 TX0 6, w ∈ TsG := by
  intro w hw
  exact TsG_of ((by decide +kernel : ∀ w ∈ u_ws RX0 TX0 6, w ∈ lw_tbl) w hw) ((by decide +kernel : ∀ w ∈ u_ws RX0 TX0 6, goodWord w = true) w hw)
theorem iw_X1 : ∀ w ∈ u_ws RX1 TX1 4, w ∈ TsG := by
  intro w hw
  exact TsG_of ((by decide +kernel : ∀ w ∈ u_ws RX1 TX1 4, w ∈ lw_tbl) w hw) ((by decide +kernel : ∀ w ∈ u_ws RX1 TX1 4, goodWord w = true) w hw)
theorem iw_X2 : ∀ w ∈ u_ws RX2 TX2 5, w ∈ TsG := by
  intro w hw
  exact TsG_of ((by decide +kernel : ∀ w ∈ u_ws RX2 TX2 5, w ∈ lw_tbl) w hw) ((by decide +kernel : ∀ w ∈ u_ws RX2 TX2 5, goodWord w = true) w hw)
theorem iw_X3 : ∀ w ∈ u_ws RX3 TX3 8, w ∈ TsG := by
  intro w hw
  exact TsG_of ((by decide +kernel : ∀ w ∈ u_ws RX3 TX3 8, w ∈ lw_tbl) w hw) ((by decide +kernel : ∀ w ∈ u_ws RX3 TX3 8, goodWord w = true) w hw)
theorem iw_X4 : ∀ w ∈ u_ws RX4 TX4 2, w ∈ TsG := by
  intro w hw
  exact TsG_of ((by decide +kernel : ∀ w ∈ u_ws RX4 TX4 2, w ∈ lw_tbl) w hw) ((by decide +kernel : ∀ w ∈ u_ws RX4 TX4 2, goodWord w = true) w hw)
theorem iw_X5 : ∀ w ∈ u_ws RX5 TX5 2, w ∈ TsG := by
  intro w hw
  exact TsG_of ((by decide +kernel : ∀ w ∈ u_ws RX5 TX5 2, w ∈ lw_tbl) w hw) ((by decide +kernel : ∀ w ∈ u_ws RX5 TX5 2, goodWord w = true) w hw)
theorem iw_X6 : ∀ w ∈ u_ws RX6 TX6 2, w ∈ TsG := by
  intro w hw
  exact TsG_of ((by decide +kernel : ∀ w ∈ u_ws RX6 TX6 2, w ∈ lw_tbl) w hw) ((by decide +kernel : ∀ w ∈ u_ws RX6 TX6 2, goodWord w = true) w hw)
theorem iw_X7 : ∀ w ∈ u_ws RX7 TX7 6, w ∈ TsG := by
  intro w hw
  exact TsG_of ((by decide +kernel : ∀ w ∈ u_ws RX7 TX7 6, w ∈ lw_tbl) w hw) ((by decide +kernel : ∀ w ∈ u_ws RX7 TX7 6, goodWord w = true) w hw)
