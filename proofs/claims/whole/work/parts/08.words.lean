/-! printed by gen2.py: the words by their places in the tables; the packages of the methods; the rows of the fields -/
theorem fl_X0_11 : Cond.fieldLink RX0 11 "Monobuild$FileTable" "paths" "[LMonobuild$Text;" ∈ TsG := TsG_t (List.mem_of_getElem? (i := 51) (by decide +kernel)) (by decide +kernel)
theorem fl_X0_17 : Cond.fieldLink RX0 17 "Monobuild$FileTable" "contents" "[I" ∈ TsG := TsG_t (List.mem_of_getElem? (i := 52) (by decide +kernel)) (by decide +kernel)
theorem fl_X0_21 : Cond.fieldLink RX0 21 "Monobuild$FileTable" "markedContents" "[I" ∈ TsG := TsG_t (List.mem_of_getElem? (i := 53) (by decide +kernel)) (by decide +kernel)
theorem fl_X0_25 : Cond.fieldLink RX0 25 "Monobuild$FileTable" "count" "I" ∈ TsG := TsG_t (List.mem_of_getElem? (i := 54) (by decide +kernel)) (by decide +kernel)
theorem fl_X0_33 : Cond.fieldLink RX0 33 "Monobuild$FileTable" "there" "I" ∈ TsG := TsG_t (List.mem_of_getElem? (i := 55) (by decide +kernel)) (by decide +kernel)
theorem fl_X0_51 : Cond.fieldLink RX0 51 "Monobuild$FileTable" "markedThere" "I" ∈ TsG := TsG_t (List.mem_of_getElem? (i := 56) (by decide +kernel)) (by decide +kernel)
theorem fl_X1_15 : Cond.fieldLink RX1 15 "Monobuild$Globs" "most" "I" ∈ TsG := TsG_t (List.mem_of_getElem? (i := 91) (by decide +kernel)) (by decide +kernel)
theorem fl_X1_23 : Cond.fieldLink RX1 23 "Monobuild$Globs" "patterns" "[LMonobuild$Text;" ∈ TsG := TsG_t (List.mem_of_getElem? (i := 89) (by decide +kernel)) (by decide +kernel)
theorem fl_X1_27 : Cond.fieldLink RX1 27 "Monobuild$Globs" "coveredFiles" "[I" ∈ TsG := TsG_t (List.mem_of_getElem? (i := 90) (by decide +kernel)) (by decide +kernel)
theorem fl_X1_32 : Cond.fieldLink RX1 32 "Monobuild$Globs" "count" "I" ∈ TsG := TsG_t (List.mem_of_getElem? (i := 92) (by decide +kernel)) (by decide +kernel)
theorem fl_X2_9 : Cond.fieldLink RX2 9 "Monobuild$Graph" "costs" "[I" ∈ TsG := TsG_t (List.mem_of_getElem? (i := 102) (by decide +kernel)) (by decide +kernel)
theorem fl_X2_15 : Cond.fieldLink RX2 15 "Monobuild$Graph" "dependencies" "[I" ∈ TsG := TsG_t (List.mem_of_getElem? (i := 103) (by decide +kernel)) (by decide +kernel)
theorem fl_X2_20 : Cond.fieldLink RX2 20 "Monobuild$Graph" "globs" "[LMonobuild$Globs;" ∈ TsG := TsG_t (List.mem_of_getElem? (i := 104) (by decide +kernel)) (by decide +kernel)
theorem fl_X2_24 : Cond.fieldLink RX2 24 "Monobuild$Graph" "order" "[I" ∈ TsG := TsG_t (List.mem_of_getElem? (i := 105) (by decide +kernel)) (by decide +kernel)
theorem fl_X2_30 : Cond.fieldLink RX2 30 "Monobuild$Graph" "count" "I" ∈ TsG := TsG_t (List.mem_of_getElem? (i := 106) (by decide +kernel)) (by decide +kernel)
theorem fl_X3_13 : Cond.fieldLink RX3 13 "Monobuild$KeyBook" "rows" "[[I" ∈ TsG := TsG_t (List.mem_of_getElem? (i := 128) (by decide +kernel)) (by decide +kernel)
theorem fl_X3_16 : Cond.fieldLink RX3 16 "Monobuild$KeyBook" "holders" "[I" ∈ TsG := TsG_t (List.mem_of_getElem? (i := 129) (by decide +kernel)) (by decide +kernel)
theorem fl_X3_20 : Cond.fieldLink RX3 20 "Monobuild$KeyBook" "present" "[I" ∈ TsG := TsG_t (List.mem_of_getElem? (i := 130) (by decide +kernel)) (by decide +kernel)
theorem fl_X3_23 : Cond.fieldLink RX3 23 "Monobuild$KeyBook" "latest" "[I" ∈ TsG := TsG_t (List.mem_of_getElem? (i := 131) (by decide +kernel)) (by decide +kernel)
theorem fl_X3_26 : Cond.fieldLink RX3 26 "Monobuild$KeyBook" "row" "[I" ∈ TsG := TsG_t (List.mem_of_getElem? (i := 132) (by decide +kernel)) (by decide +kernel)
theorem fl_X3_29 : Cond.fieldLink RX3 29 "Monobuild$KeyBook" "tree" "LMonobuild$FileTable;" ∈ TsG := TsG_t (List.mem_of_getElem? (i := 126) (by decide +kernel)) (by decide +kernel)
theorem fl_X3_33 : Cond.fieldLink RX3 33 "Monobuild$KeyBook" "graph" "LMonobuild$Graph;" ∈ TsG := TsG_t (List.mem_of_getElem? (i := 127) (by decide +kernel)) (by decide +kernel)
theorem fl_X3_37 : Cond.fieldLink RX3 37 "Monobuild$KeyBook" "count" "I" ∈ TsG := TsG_t (List.mem_of_getElem? (i := 133) (by decide +kernel)) (by decide +kernel)
theorem fl_X4_14 : Cond.fieldLink RX4 14 "Monobuild$RuleBook" "globs" "LMonobuild$Globs;" ∈ TsG := TsG_t (List.mem_of_getElem? (i := 172) (by decide +kernel)) (by decide +kernel)
theorem fl_X4_20 : Cond.fieldLink RX4 20 "Monobuild$RuleBook" "owners" "[I" ∈ TsG := TsG_t (List.mem_of_getElem? (i := 173) (by decide +kernel)) (by decide +kernel)
theorem fl_X5_9 : Cond.fieldLink RX5 9 "Monobuild$Spread" "loads" "[I" ∈ TsG := TsG_t (List.mem_of_getElem? (i := 157) (by decide +kernel)) (by decide +kernel)
theorem fl_X5_15 : Cond.fieldLink RX5 15 "Monobuild$Spread" "places" "[I" ∈ TsG := TsG_t (List.mem_of_getElem? (i := 158) (by decide +kernel)) (by decide +kernel)
theorem fl_X6_9 : Cond.fieldLink RX6 9 "Monobuild$Text" "signs" "[C" ∈ TsG := TsG_t (List.mem_of_getElem? (i := 34) (by decide +kernel)) (by decide +kernel)
theorem fl_X6_15 : Cond.fieldLink RX6 15 "Monobuild$Text" "length" "I" ∈ TsG := TsG_t (List.mem_of_getElem? (i := 35) (by decide +kernel)) (by decide +kernel)
theorem fl_X7_10 : Cond.fieldLink RX7 10 "Monobuild" "text" "LMonobuild$Text;" ∈ TsG := TsG_t (List.mem_of_getElem? (i := 179) (by decide +kernel)) (by decide +kernel)
theorem fl_X7_19 : Cond.fieldLink RX7 19 "Monobuild" "tree" "LMonobuild$FileTable;" ∈ TsG := TsG_t (List.mem_of_getElem? (i := 180) (by decide +kernel)) (by decide +kernel)
theorem fl_X7_26 : Cond.fieldLink RX7 26 "Monobuild" "graph" "LMonobuild$Graph;" ∈ TsG := TsG_t (List.mem_of_getElem? (i := 181) (by decide +kernel)) (by decide +kernel)
theorem fl_X7_35 : Cond.fieldLink RX7 35 "Monobuild" "book" "LMonobuild$KeyBook;" ∈ TsG := TsG_t (List.mem_of_getElem? (i := 182) (by decide +kernel)) (by decide +kernel)
theorem fl_X7_42 : Cond.fieldLink RX7 42 "Monobuild" "spread" "LMonobuild$Spread;" ∈ TsG := TsG_t (List.mem_of_getElem? (i := 183) (by decide +kernel)) (by decide +kernel)
theorem fl_X7_49 : Cond.fieldLink RX7 49 "Monobuild" "rules" "LMonobuild$RuleBook;" ∈ TsG := TsG_t (List.mem_of_getElem? (i := 184) (by decide +kernel)) (by decide +kernel)
theorem fl_X8_7 : Cond.fieldLink RX8 7 "MonobuildModel" "glob" "[I" ∈ TsG := TsG_t (List.mem_of_getElem? (i := 905) (by decide +kernel)) (by decide +kernel)
theorem fl_X8_13 : Cond.fieldLink RX8 13 "MonobuildModel" "length" "[I" ∈ TsG := TsG_t (List.mem_of_getElem? (i := 906) (by decide +kernel)) (by decide +kernel)
theorem fl_X8_16 : Cond.fieldLink RX8 16 "MonobuildModel" "path" "[I" ∈ TsG := TsG_t (List.mem_of_getElem? (i := 908) (by decide +kernel)) (by decide +kernel)
theorem fl_X8_19 : Cond.fieldLink RX8 19 "MonobuildModel" "far" "[I" ∈ TsG := TsG_t (List.mem_of_getElem? (i := 909) (by decide +kernel)) (by decide +kernel)
theorem fl_X8_22 : Cond.fieldLink RX8 22 "MonobuildModel" "there" "[Z" ∈ TsG := TsG_t (List.mem_of_getElem? (i := 910) (by decide +kernel)) (by decide +kernel)
theorem fl_X8_26 : Cond.fieldLink RX8 26 "MonobuildModel" "content" "[I" ∈ TsG := TsG_t (List.mem_of_getElem? (i := 911) (by decide +kernel)) (by decide +kernel)
theorem fl_X8_29 : Cond.fieldLink RX8 29 "MonobuildModel" "marked" "[Z" ∈ TsG := TsG_t (List.mem_of_getElem? (i := 912) (by decide +kernel)) (by decide +kernel)
theorem fl_X8_32 : Cond.fieldLink RX8 32 "MonobuildModel" "markedContent" "[I" ∈ TsG := TsG_t (List.mem_of_getElem? (i := 913) (by decide +kernel)) (by decide +kernel)
theorem fl_X8_35 : Cond.fieldLink RX8 35 "MonobuildModel" "cost" "[I" ∈ TsG := TsG_t (List.mem_of_getElem? (i := 915) (by decide +kernel)) (by decide +kernel)
theorem fl_X8_38 : Cond.fieldLink RX8 38 "MonobuildModel" "globs" "[I" ∈ TsG := TsG_t (List.mem_of_getElem? (i := 916) (by decide +kernel)) (by decide +kernel)
theorem fl_X8_41 : Cond.fieldLink RX8 41 "MonobuildModel" "needs" "[I" ∈ TsG := TsG_t (List.mem_of_getElem? (i := 917) (by decide +kernel)) (by decide +kernel)
theorem fl_X8_44 : Cond.fieldLink RX8 44 "MonobuildModel" "last" "[I" ∈ TsG := TsG_t (List.mem_of_getElem? (i := 918) (by decide +kernel)) (by decide +kernel)
theorem fl_X8_47 : Cond.fieldLink RX8 47 "MonobuildModel" "owner" "[I" ∈ TsG := TsG_t (List.mem_of_getElem? (i := 920) (by decide +kernel)) (by decide +kernel)
theorem fl_X8_50 : Cond.fieldLink RX8 50 "MonobuildModel" "whose" "[I" ∈ TsG := TsG_t (List.mem_of_getElem? (i := 922) (by decide +kernel)) (by decide +kernel)
theorem fl_X8_53 : Cond.fieldLink RX8 53 "MonobuildModel" "had" "[I" ∈ TsG := TsG_t (List.mem_of_getElem? (i := 923) (by decide +kernel)) (by decide +kernel)
theorem fl_X8_56 : Cond.fieldLink RX8 56 "MonobuildModel" "leant" "[I" ∈ TsG := TsG_t (List.mem_of_getElem? (i := 924) (by decide +kernel)) (by decide +kernel)
theorem fl_X8_59 : Cond.fieldLink RX8 59 "MonobuildModel" "contents" "[I" ∈ TsG := TsG_t (List.mem_of_getElem? (i := 925) (by decide +kernel)) (by decide +kernel)
theorem fl_X8_62 : Cond.fieldLink RX8 62 "MonobuildModel" "below" "[I" ∈ TsG := TsG_t (List.mem_of_getElem? (i := 926) (by decide +kernel)) (by decide +kernel)
theorem fl_X8_65 : Cond.fieldLink RX8 65 "MonobuildModel" "order" "[I" ∈ TsG := TsG_t (List.mem_of_getElem? (i := 927) (by decide +kernel)) (by decide +kernel)
theorem fl_X8_68 : Cond.fieldLink RX8 68 "MonobuildModel" "now" "[I" ∈ TsG := TsG_t (List.mem_of_getElem? (i := 928) (by decide +kernel)) (by decide +kernel)
theorem fl_X8_71 : Cond.fieldLink RX8 71 "MonobuildModel" "load" "[I" ∈ TsG := TsG_t (List.mem_of_getElem? (i := 929) (by decide +kernel)) (by decide +kernel)
theorem fl_X8_74 : Cond.fieldLink RX8 74 "MonobuildModel" "goes" "[I" ∈ TsG := TsG_t (List.mem_of_getElem? (i := 930) (by decide +kernel)) (by decide +kernel)
theorem fl_X8_77 : Cond.fieldLink RX8 77 "MonobuildModel" "thrown" "I" ∈ TsG := TsG_t (List.mem_of_getElem? (i := 931) (by decide +kernel)) (by decide +kernel)
theorem fl_X8_108 : Cond.fieldLink RX8 108 "MonobuildModel" "files" "I" ∈ TsG := TsG_t (List.mem_of_getElem? (i := 907) (by decide +kernel)) (by decide +kernel)
theorem fl_X8_127 : Cond.fieldLink RX8 127 "MonobuildModel" "targets" "I" ∈ TsG := TsG_t (List.mem_of_getElem? (i := 914) (by decide +kernel)) (by decide +kernel)
theorem fl_X8_159 : Cond.fieldLink RX8 159 "MonobuildModel" "keys" "I" ∈ TsG := TsG_t (List.mem_of_getElem? (i := 921) (by decide +kernel)) (by decide +kernel)
theorem fl_X8_180 : Cond.fieldLink RX8 180 "MonobuildModel" "rules" "I" ∈ TsG := TsG_t (List.mem_of_getElem? (i := 919) (by decide +kernel)) (by decide +kernel)
theorem ml_L_7 : Cond.methodLink RL 7 yX7_type ∈ TsG := TsG_t (List.mem_of_getElem? (i := 394) (by decide +kernel)) (by decide +kernel)
theorem ml_L_17 : Cond.methodLink RL 17 yX7_addFile ∈ TsG := TsG_t (List.mem_of_getElem? (i := 496) (by decide +kernel)) (by decide +kernel)
theorem ml_L_21 : Cond.methodLink RL 21 yX7_edit ∈ TsG := TsG_t (List.mem_of_getElem? (i := 570) (by decide +kernel)) (by decide +kernel)
theorem ml_L_27 : Cond.methodLink RL 27 yX7_delete ∈ TsG := TsG_t (List.mem_of_getElem? (i := 598) (by decide +kernel)) (by decide +kernel)
theorem ml_L_30 : Cond.methodLink RL 30 yX7_matches ∈ TsG := TsG_t (List.mem_of_getElem? (i := 609) (by decide +kernel)) (by decide +kernel)
theorem ml_L_34 : Cond.methodLink RL 34 yX7_addTarget ∈ TsG := TsG_t (List.mem_of_getElem? (i := 628) (by decide +kernel)) (by decide +kernel)
theorem ml_L_37 : Cond.methodLink RL 37 yX7_addGlob ∈ TsG := TsG_t (List.mem_of_getElem? (i := 645) (by decide +kernel)) (by decide +kernel)
theorem ml_L_40 : Cond.methodLink RL 40 yX7_depend ∈ TsG := TsG_t (List.mem_of_getElem? (i := 682) (by decide +kernel)) (by decide +kernel)
theorem ml_L_43 : Cond.methodLink RL 43 yX7_inputs ∈ TsG := TsG_t (List.mem_of_getElem? (i := 701) (by decide +kernel)) (by decide +kernel)
theorem ml_L_46 : Cond.methodLink RL 46 yX7_above ∈ TsG := TsG_t (List.mem_of_getElem? (i := 708) (by decide +kernel)) (by decide +kernel)
theorem ml_L_49 : Cond.methodLink RL 49 yX7_orderAt ∈ TsG := TsG_t (List.mem_of_getElem? (i := 715) (by decide +kernel)) (by decide +kernel)
theorem ml_L_52 : Cond.methodLink RL 52 yX7_affectedBy ∈ TsG := TsG_t (List.mem_of_getElem? (i := 725) (by decide +kernel)) (by decide +kernel)
theorem ml_L_55 : Cond.methodLink RL 55 yX7_affectedByGoingDown ∈ TsG := TsG_t (List.mem_of_getElem? (i := 737) (by decide +kernel)) (by decide +kernel)
theorem ml_L_58 : Cond.methodLink RL 58 yX7_keyOf ∈ TsG := TsG_t (List.mem_of_getElem? (i := 752) (by decide +kernel)) (by decide +kernel)
theorem ml_L_61 : Cond.methodLink RL 61 yX7_whyRun ∈ TsG := TsG_t (List.mem_of_getElem? (i := 763) (by decide +kernel)) (by decide +kernel)
theorem ml_L_64 : Cond.methodLink RL 64 yX7_run ∈ TsG := TsG_t (List.mem_of_getElem? (i := 778) (by decide +kernel)) (by decide +kernel)
theorem ml_L_67 : Cond.methodLink RL 67 yX7_runAll ∈ TsG := TsG_t (List.mem_of_getElem? (i := 796) (by decide +kernel)) (by decide +kernel)
theorem ml_L_71 : Cond.methodLink RL 71 yX7_shardOf ∈ TsG := TsG_t (List.mem_of_getElem? (i := 809) (by decide +kernel)) (by decide +kernel)
theorem ml_L_74 : Cond.methodLink RL 74 yX7_longestShard ∈ TsG := TsG_t (List.mem_of_getElem? (i := 847) (by decide +kernel)) (by decide +kernel)
theorem ml_L_77 : Cond.methodLink RL 77 yX7_shardsFor ∈ TsG := TsG_t (List.mem_of_getElem? (i := 859) (by decide +kernel)) (by decide +kernel)
theorem ml_L_80 : Cond.methodLink RL 80 yX7_addRule ∈ TsG := TsG_t (List.mem_of_getElem? (i := 867) (by decide +kernel)) (by decide +kernel)
theorem ml_L_83 : Cond.methodLink RL 83 yX7_ownerOf ∈ TsG := TsG_t (List.mem_of_getElem? (i := 894) (by decide +kernel)) (by decide +kernel)
theorem ml_L_86 : Cond.methodLink RL 86 yX7_init ∈ TsG := TsG_t (List.mem_of_getElem? (i := 22) (by decide +kernel)) (by decide +kernel)
theorem ml_L_89 : Cond.methodLink RL 89 yX8_init ∈ TsG := TsG_t (List.mem_of_getElem? (i := 901) (by decide +kernel)) (by decide +kernel)
theorem ml_L_90 : Cond.methodLink RL 90 yL_type ∈ TsG := TsG_t (List.mem_of_getElem? (i := 389) (by decide +kernel)) (by decide +kernel)
theorem ml_L_95 : Cond.methodLink RL 95 yX8_type ∈ TsG := TsG_t (List.mem_of_getElem? (i := 992) (by decide +kernel)) (by decide +kernel)
theorem ml_L_96 : Cond.methodLink RL 96 yX8_thrown ∈ TsG := TsG_t (List.mem_of_getElem? (i := 988) (by decide +kernel)) (by decide +kernel)
theorem ml_L_99 : Cond.methodLink RL 99 yX7_clearText ∈ TsG := TsG_t (List.mem_of_getElem? (i := 198) (by decide +kernel)) (by decide +kernel)
theorem ml_L_102 : Cond.methodLink RL 102 yX8_clearText ∈ TsG := TsG_t (List.mem_of_getElem? (i := 996) (by decide +kernel)) (by decide +kernel)
theorem ml_L_103 : Cond.methodLink RL 103 yX7_isPath ∈ TsG := TsG_t (List.mem_of_getElem? (i := 210) (by decide +kernel)) (by decide +kernel)
theorem ml_L_107 : Cond.methodLink RL 107 yX8_isPath ∈ TsG := TsG_t (List.mem_of_getElem? (i := 1000) (by decide +kernel)) (by decide +kernel)
theorem ml_L_108 : Cond.methodLink RL 108 yX7_isGlob ∈ TsG := TsG_t (List.mem_of_getElem? (i := 226) (by decide +kernel)) (by decide +kernel)
theorem ml_L_111 : Cond.methodLink RL 111 yX8_isGlob ∈ TsG := TsG_t (List.mem_of_getElem? (i := 1016) (by decide +kernel)) (by decide +kernel)
theorem ml_L_112 : Cond.methodLink RL 112 yL_addFile ∈ TsG := TsG_t (List.mem_of_getElem? (i := 493) (by decide +kernel)) (by decide +kernel)
theorem ml_L_115 : Cond.methodLink RL 115 yX8_addFile ∈ TsG := TsG_t (List.mem_of_getElem? (i := 1024) (by decide +kernel)) (by decide +kernel)
theorem ml_L_116 : Cond.methodLink RL 116 yX7_findFile ∈ TsG := TsG_t (List.mem_of_getElem? (i := 238) (by decide +kernel)) (by decide +kernel)
theorem ml_L_119 : Cond.methodLink RL 119 yX8_findFile ∈ TsG := TsG_t (List.mem_of_getElem? (i := 1035) (by decide +kernel)) (by decide +kernel)
theorem ml_L_120 : Cond.methodLink RL 120 yL_edit ∈ TsG := TsG_t (List.mem_of_getElem? (i := 566) (by decide +kernel)) (by decide +kernel)
theorem ml_L_123 : Cond.methodLink RL 123 yX8_edit ∈ TsG := TsG_t (List.mem_of_getElem? (i := 1039) (by decide +kernel)) (by decide +kernel)
theorem ml_L_124 : Cond.methodLink RL 124 yL_delete ∈ TsG := TsG_t (List.mem_of_getElem? (i := 595) (by decide +kernel)) (by decide +kernel)
theorem ml_L_126 : Cond.methodLink RL 126 yX8_delete ∈ TsG := TsG_t (List.mem_of_getElem? (i := 1047) (by decide +kernel)) (by decide +kernel)
theorem ml_L_127 : Cond.methodLink RL 127 yX7_files ∈ TsG := TsG_t (List.mem_of_getElem? (i := 250) (by decide +kernel)) (by decide +kernel)
theorem ml_L_130 : Cond.methodLink RL 130 yX8_files ∈ TsG := TsG_t (List.mem_of_getElem? (i := 1051) (by decide +kernel)) (by decide +kernel)
theorem ml_L_131 : Cond.methodLink RL 131 yL_matches ∈ TsG := TsG_t (List.mem_of_getElem? (i := 606) (by decide +kernel)) (by decide +kernel)
theorem ml_L_133 : Cond.methodLink RL 133 yX8_matches ∈ TsG := TsG_t (List.mem_of_getElem? (i := 1055) (by decide +kernel)) (by decide +kernel)
theorem ml_L_134 : Cond.methodLink RL 134 yL_addTarget ∈ TsG := TsG_t (List.mem_of_getElem? (i := 625) (by decide +kernel)) (by decide +kernel)
theorem ml_L_136 : Cond.methodLink RL 136 yX8_addTarget ∈ TsG := TsG_t (List.mem_of_getElem? (i := 1079) (by decide +kernel)) (by decide +kernel)
theorem ml_L_137 : Cond.methodLink RL 137 yL_addGlob ∈ TsG := TsG_t (List.mem_of_getElem? (i := 642) (by decide +kernel)) (by decide +kernel)
theorem ml_L_139 : Cond.methodLink RL 139 yX8_addGlob ∈ TsG := TsG_t (List.mem_of_getElem? (i := 1083) (by decide +kernel)) (by decide +kernel)
theorem ml_L_140 : Cond.methodLink RL 140 yL_depend ∈ TsG := TsG_t (List.mem_of_getElem? (i := 679) (by decide +kernel)) (by decide +kernel)
theorem ml_L_142 : Cond.methodLink RL 142 yX8_depend ∈ TsG := TsG_t (List.mem_of_getElem? (i := 1106) (by decide +kernel)) (by decide +kernel)
theorem ml_L_143 : Cond.methodLink RL 143 yX7_targets ∈ TsG := TsG_t (List.mem_of_getElem? (i := 258) (by decide +kernel)) (by decide +kernel)
theorem ml_L_146 : Cond.methodLink RL 146 yX8_targets ∈ TsG := TsG_t (List.mem_of_getElem? (i := 1118) (by decide +kernel)) (by decide +kernel)
theorem ml_L_147 : Cond.methodLink RL 147 yL_inputs ∈ TsG := TsG_t (List.mem_of_getElem? (i := 698) (by decide +kernel)) (by decide +kernel)
theorem ml_L_149 : Cond.methodLink RL 149 yX8_inputs ∈ TsG := TsG_t (List.mem_of_getElem? (i := 1122) (by decide +kernel)) (by decide +kernel)
theorem ml_L_150 : Cond.methodLink RL 150 yL_above ∈ TsG := TsG_t (List.mem_of_getElem? (i := 705) (by decide +kernel)) (by decide +kernel)
theorem ml_L_152 : Cond.methodLink RL 152 yX8_above ∈ TsG := TsG_t (List.mem_of_getElem? (i := 1126) (by decide +kernel)) (by decide +kernel)
theorem ml_L_153 : Cond.methodLink RL 153 yL_orderAt ∈ TsG := TsG_t (List.mem_of_getElem? (i := 712) (by decide +kernel)) (by decide +kernel)
theorem ml_L_155 : Cond.methodLink RL 155 yX8_orderAt ∈ TsG := TsG_t (List.mem_of_getElem? (i := 1130) (by decide +kernel)) (by decide +kernel)
theorem ml_L_156 : Cond.methodLink RL 156 yL_affectedBy ∈ TsG := TsG_t (List.mem_of_getElem? (i := 722) (by decide +kernel)) (by decide +kernel)
theorem ml_L_158 : Cond.methodLink RL 158 yX8_affectedBy ∈ TsG := TsG_t (List.mem_of_getElem? (i := 1138) (by decide +kernel)) (by decide +kernel)
theorem ml_L_159 : Cond.methodLink RL 159 yL_affectedByGoingDown ∈ TsG := TsG_t (List.mem_of_getElem? (i := 734) (by decide +kernel)) (by decide +kernel)
theorem ml_L_161 : Cond.methodLink RL 161 yX8_affectedByGoingDown ∈ TsG := TsG_t (List.mem_of_getElem? (i := 1146) (by decide +kernel)) (by decide +kernel)
theorem ml_L_162 : Cond.methodLink RL 162 yL_keyOf ∈ TsG := TsG_t (List.mem_of_getElem? (i := 749) (by decide +kernel)) (by decide +kernel)
theorem ml_L_164 : Cond.methodLink RL 164 yX8_keyOf ∈ TsG := TsG_t (List.mem_of_getElem? (i := 1150) (by decide +kernel)) (by decide +kernel)
theorem ml_L_165 : Cond.methodLink RL 165 yX7_needed ∈ TsG := TsG_t (List.mem_of_getElem? (i := 266) (by decide +kernel)) (by decide +kernel)
theorem ml_L_168 : Cond.methodLink RL 168 yX8_needed ∈ TsG := TsG_t (List.mem_of_getElem? (i := 1166) (by decide +kernel)) (by decide +kernel)
theorem ml_L_169 : Cond.methodLink RL 169 yL_whyRun ∈ TsG := TsG_t (List.mem_of_getElem? (i := 760) (by decide +kernel)) (by decide +kernel)
theorem ml_L_171 : Cond.methodLink RL 171 yX8_whyRun ∈ TsG := TsG_t (List.mem_of_getElem? (i := 1174) (by decide +kernel)) (by decide +kernel)
theorem ml_L_172 : Cond.methodLink RL 172 yL_run ∈ TsG := TsG_t (List.mem_of_getElem? (i := 775) (by decide +kernel)) (by decide +kernel)
theorem ml_L_174 : Cond.methodLink RL 174 yX8_run ∈ TsG := TsG_t (List.mem_of_getElem? (i := 1178) (by decide +kernel)) (by decide +kernel)
theorem ml_L_175 : Cond.methodLink RL 175 yL_runAll ∈ TsG := TsG_t (List.mem_of_getElem? (i := 793) (by decide +kernel)) (by decide +kernel)
theorem ml_L_178 : Cond.methodLink RL 178 yX8_runAll ∈ TsG := TsG_t (List.mem_of_getElem? (i := 1186) (by decide +kernel)) (by decide +kernel)
theorem ml_L_179 : Cond.methodLink RL 179 yX7_keys ∈ TsG := TsG_t (List.mem_of_getElem? (i := 337) (by decide +kernel)) (by decide +kernel)
theorem ml_L_182 : Cond.methodLink RL 182 yX8_keys ∈ TsG := TsG_t (List.mem_of_getElem? (i := 1190) (by decide +kernel)) (by decide +kernel)
theorem ml_L_183 : Cond.methodLink RL 183 yL_shardOf ∈ TsG := TsG_t (List.mem_of_getElem? (i := 806) (by decide +kernel)) (by decide +kernel)
theorem ml_L_185 : Cond.methodLink RL 185 yX8_shardOf ∈ TsG := TsG_t (List.mem_of_getElem? (i := 1194) (by decide +kernel)) (by decide +kernel)
theorem ml_L_186 : Cond.methodLink RL 186 yL_longestShard ∈ TsG := TsG_t (List.mem_of_getElem? (i := 844) (by decide +kernel)) (by decide +kernel)
theorem ml_L_188 : Cond.methodLink RL 188 yX8_longestShard ∈ TsG := TsG_t (List.mem_of_getElem? (i := 1202) (by decide +kernel)) (by decide +kernel)
theorem ml_L_189 : Cond.methodLink RL 189 yL_shardsFor ∈ TsG := TsG_t (List.mem_of_getElem? (i := 856) (by decide +kernel)) (by decide +kernel)
theorem ml_L_191 : Cond.methodLink RL 191 yX8_shardsFor ∈ TsG := TsG_t (List.mem_of_getElem? (i := 1206) (by decide +kernel)) (by decide +kernel)
theorem ml_L_192 : Cond.methodLink RL 192 yL_addRule ∈ TsG := TsG_t (List.mem_of_getElem? (i := 864) (by decide +kernel)) (by decide +kernel)
theorem ml_L_194 : Cond.methodLink RL 194 yX8_addRule ∈ TsG := TsG_t (List.mem_of_getElem? (i := 1210) (by decide +kernel)) (by decide +kernel)
theorem ml_L_195 : Cond.methodLink RL 195 yL_ownerOf ∈ TsG := TsG_t (List.mem_of_getElem? (i := 891) (by decide +kernel)) (by decide +kernel)
theorem ml_L_197 : Cond.methodLink RL 197 yX8_ownerOf ∈ TsG := TsG_t (List.mem_of_getElem? (i := 1214) (by decide +kernel)) (by decide +kernel)
theorem ml_L_198 : Cond.methodLink RL 198 yX7_mark ∈ TsG := TsG_t (List.mem_of_getElem? (i := 345) (by decide +kernel)) (by decide +kernel)
theorem ml_L_201 : Cond.methodLink RL 201 yX8_mark ∈ TsG := TsG_t (List.mem_of_getElem? (i := 1222) (by decide +kernel)) (by decide +kernel)
theorem ml_L_202 : Cond.methodLink RL 202 yX7_changed ∈ TsG := TsG_t (List.mem_of_getElem? (i := 362) (by decide +kernel)) (by decide +kernel)
theorem ml_L_205 : Cond.methodLink RL 205 yX8_changed ∈ TsG := TsG_t (List.mem_of_getElem? (i := 1226) (by decide +kernel)) (by decide +kernel)
theorem ml_L_206 : Cond.methodLink RL 206 yX7_reviewers ∈ TsG := TsG_t (List.mem_of_getElem? (i := 371) (by decide +kernel)) (by decide +kernel)
theorem ml_L_209 : Cond.methodLink RL 209 yX8_reviewers ∈ TsG := TsG_t (List.mem_of_getElem? (i := 1234) (by decide +kernel)) (by decide +kernel)
theorem ml_X0_29 : Cond.methodLink RX0 29 yX0_has ∈ TsG := TsG_t (List.mem_of_getElem? (i := 510) (by decide +kernel)) (by decide +kernel)
theorem ml_X0_40 : Cond.methodLink RX0 40 yX6_isSameAs ∈ TsG := TsG_t (List.mem_of_getElem? (i := 246) (by decide +kernel)) (by decide +kernel)
theorem ml_X0_44 : Cond.methodLink RX0 44 yX6_copyFrom ∈ TsG := TsG_t (List.mem_of_getElem? (i := 528) (by decide +kernel)) (by decide +kernel)
theorem ml_X0_48 : Cond.methodLink RX0 48 yX6_covers ∈ TsG := TsG_t (List.mem_of_getElem? (i := 672) (by decide +kernel)) (by decide +kernel)
theorem ml_X1_9 : Cond.methodLink RX1 9 yJ9_max_7cf53 ∈ TsG := TsG_t (List.mem_of_getElem? (i := 84) (by decide +kernel)) (by decide +kernel)
theorem ml_X1_35 : Cond.methodLink RX1 35 yX6_copyFrom ∈ TsG := TsG_t (List.mem_of_getElem? (i := 677) (by decide +kernel)) (by decide +kernel)
theorem ml_X1_39 : Cond.methodLink RX1 39 yX6_covers ∈ TsG := TsG_t (List.mem_of_getElem? (i := 540) (by decide +kernel)) (by decide +kernel)
theorem ml_X2_27 : Cond.methodLink RX2 27 yX1_init ∈ TsG := TsG_t (List.mem_of_getElem? (i := 80) (by decide +kernel)) (by decide +kernel)
theorem ml_X2_34 : Cond.methodLink RX2 34 yX1_meetFile ∈ TsG := TsG_t (List.mem_of_getElem? (i := 536) (by decide +kernel)) (by decide +kernel)
theorem ml_X2_38 : Cond.methodLink RX2 38 yX1_covered ∈ TsG := TsG_t (List.mem_of_getElem? (i := 733) (by decide +kernel)) (by decide +kernel)
theorem ml_X2_46 : Cond.methodLink RX2 46 yX2_downFrom ∈ TsG := TsG_t (List.mem_of_getElem? (i := 745) (by decide +kernel)) (by decide +kernel)
theorem ml_X2_50 : Cond.methodLink RX2 50 yX2_nextBehind ∈ TsG := TsG_t (List.mem_of_getElem? (i := 278) (by decide +kernel)) (by decide +kernel)
theorem ml_X2_53 : Cond.methodLink RX2 53 yX2_isNext ∈ TsG := TsG_t (List.mem_of_getElem? (i := 282) (by decide +kernel)) (by decide +kernel)
theorem ml_X3_41 : Cond.methodLink RX3 41 yX2_makeOrder ∈ TsG := TsG_t (List.mem_of_getElem? (i := 274) (by decide +kernel)) (by decide +kernel)
theorem ml_X3_46 : Cond.methodLink RX3 46 yX2_size ∈ TsG := TsG_t (List.mem_of_getElem? (i := 289) (by decide +kernel)) (by decide +kernel)
theorem ml_X3_50 : Cond.methodLink RX3 50 yX2_atPlace ∈ TsG := TsG_t (List.mem_of_getElem? (i := 290) (by decide +kernel)) (by decide +kernel)
theorem ml_X3_54 : Cond.methodLink RX3 54 yX3_lookUp ∈ TsG := TsG_t (List.mem_of_getElem? (i := 294) (by decide +kernel)) (by decide +kernel)
theorem ml_X3_58 : Cond.methodLink RX3 58 yX3_fillRow ∈ TsG := TsG_t (List.mem_of_getElem? (i := 298) (by decide +kernel)) (by decide +kernel)
theorem ml_X3_61 : Cond.methodLink RX3 61 yX3_agrees ∈ TsG := TsG_t (List.mem_of_getElem? (i := 332) (by decide +kernel)) (by decide +kernel)
theorem ml_X3_65 : Cond.methodLink RX3 65 yX3_give ∈ TsG := TsG_t (List.mem_of_getElem? (i := 788) (by decide +kernel)) (by decide +kernel)
theorem ml_X3_68 : Cond.methodLink RX3 68 yX3_runOrFind ∈ TsG := TsG_t (List.mem_of_getElem? (i := 805) (by decide +kernel)) (by decide +kernel)
theorem ml_X3_71 : Cond.methodLink RX3 71 yX3_dependenciesHaveKeys ∈ TsG := TsG_t (List.mem_of_getElem? (i := 320) (by decide +kernel)) (by decide +kernel)
theorem ml_X3_75 : Cond.methodLink RX3 75 yX3_keyOfRow ∈ TsG := TsG_t (List.mem_of_getElem? (i := 328) (by decide +kernel)) (by decide +kernel)
theorem ml_X3_78 : Cond.methodLink RX3 78 yX2_dependenciesOf ∈ TsG := TsG_t (List.mem_of_getElem? (i := 316) (by decide +kernel)) (by decide +kernel)
theorem ml_X3_81 : Cond.methodLink RX3 81 yX3_withoutKey ∈ TsG := TsG_t (List.mem_of_getElem? (i := 324) (by decide +kernel)) (by decide +kernel)
theorem ml_X3_84 : Cond.methodLink RX3 84 yX2_globsOf ∈ TsG := TsG_t (List.mem_of_getElem? (i := 302) (by decide +kernel)) (by decide +kernel)
theorem ml_X3_88 : Cond.methodLink RX3 88 yX1_covered ∈ TsG := TsG_t (List.mem_of_getElem? (i := 306) (by decide +kernel)) (by decide +kernel)
theorem ml_X3_93 : Cond.methodLink RX3 93 yX0_present ∈ TsG := TsG_t (List.mem_of_getElem? (i := 310) (by decide +kernel)) (by decide +kernel)
theorem ml_X3_100 : Cond.methodLink RX3 100 yX0_contentOf ∈ TsG := TsG_t (List.mem_of_getElem? (i := 312) (by decide +kernel)) (by decide +kernel)
theorem ml_X4_11 : Cond.methodLink RX4 11 yX1_init ∈ TsG := TsG_t (List.mem_of_getElem? (i := 171) (by decide +kernel)) (by decide +kernel)
theorem ml_X4_24 : Cond.methodLink RX4 24 yX1_size ∈ TsG := TsG_t (List.mem_of_getElem? (i := 882) (by decide +kernel)) (by decide +kernel)
theorem ml_X4_28 : Cond.methodLink RX4 28 yX1_isFull ∈ TsG := TsG_t (List.mem_of_getElem? (i := 876) (by decide +kernel)) (by decide +kernel)
theorem ml_X4_32 : Cond.methodLink RX4 32 yX1_add ∈ TsG := TsG_t (List.mem_of_getElem? (i := 886) (by decide +kernel)) (by decide +kernel)
theorem ml_X4_36 : Cond.methodLink RX4 36 yX1_meetFile ∈ TsG := TsG_t (List.mem_of_getElem? (i := 561) (by decide +kernel)) (by decide +kernel)
theorem ml_X4_40 : Cond.methodLink RX4 40 yX1_latestCovering ∈ TsG := TsG_t (List.mem_of_getElem? (i := 383) (by decide +kernel)) (by decide +kernel)
theorem ml_X4_44 : Cond.methodLink RX4 44 yX4_latestOwner ∈ TsG := TsG_t (List.mem_of_getElem? (i := 379) (by decide +kernel)) (by decide +kernel)
theorem ml_X5_18 : Cond.methodLink RX5 18 yJ7_fill_53178 ∈ TsG := TsG_t (List.mem_of_getElem? (i := 822) (by decide +kernel)) (by decide +kernel)
theorem ml_X5_24 : Cond.methodLink RX5 24 yJ6_bitCount_0f7a4 ∈ TsG := TsG_t (List.mem_of_getElem? (i := 825) (by decide +kernel)) (by decide +kernel)
theorem ml_X5_30 : Cond.methodLink RX5 30 yX5_dearest ∈ TsG := TsG_t (List.mem_of_getElem? (i := 826) (by decide +kernel)) (by decide +kernel)
theorem ml_X5_34 : Cond.methodLink RX5 34 yX5_lightest ∈ TsG := TsG_t (List.mem_of_getElem? (i := 836) (by decide +kernel)) (by decide +kernel)
theorem ml_X5_37 : Cond.methodLink RX5 37 yX2_costOf ∈ TsG := TsG_t (List.mem_of_getElem? (i := 832) (by decide +kernel)) (by decide +kernel)
theorem ml_X5_42 : Cond.methodLink RX5 42 yJ9_max_7cf53 ∈ TsG := TsG_t (List.mem_of_getElem? (i := 855) (by decide +kernel)) (by decide +kernel)
theorem ml_X5_48 : Cond.methodLink RX5 48 yX2_size ∈ TsG := TsG_t (List.mem_of_getElem? (i := 830) (by decide +kernel)) (by decide +kernel)
theorem ml_X6_19 : Cond.methodLink RX6 19 yX6_hasEmptySegment ∈ TsG := TsG_t (List.mem_of_getElem? (i := 218) (by decide +kernel)) (by decide +kernel)
theorem ml_X6_23 : Cond.methodLink RX6 23 yX6_isDoubleStar ∈ TsG := TsG_t (List.mem_of_getElem? (i := 234) (by decide +kernel)) (by decide +kernel)
theorem ml_X6_27 : Cond.methodLink RX6 27 yX6_signAt ∈ TsG := TsG_t (List.mem_of_getElem? (i := 222) (by decide +kernel)) (by decide +kernel)
theorem ml_X6_31 : Cond.methodLink RX6 31 yX6_startsFrom ∈ TsG := TsG_t (List.mem_of_getElem? (i := 544) (by decide +kernel)) (by decide +kernel)
theorem ml_X6_35 : Cond.methodLink RX6 35 yX6_overLetters ∈ TsG := TsG_t (List.mem_of_getElem? (i := 549) (by decide +kernel)) (by decide +kernel)
theorem ml_X6_38 : Cond.methodLink RX6 38 yX6_overSign ∈ TsG := TsG_t (List.mem_of_getElem? (i := 553) (by decide +kernel)) (by decide +kernel)
theorem ml_X7_18 : Cond.methodLink RX7 18 yX0_init ∈ TsG := TsG_t (List.mem_of_getElem? (i := 44) (by decide +kernel)) (by decide +kernel)
theorem ml_X7_25 : Cond.methodLink RX7 25 yX2_init ∈ TsG := TsG_t (List.mem_of_getElem? (i := 73) (by decide +kernel)) (by decide +kernel)
theorem ml_X7_32 : Cond.methodLink RX7 32 yX3_init ∈ TsG := TsG_t (List.mem_of_getElem? (i := 120) (by decide +kernel)) (by decide +kernel)
theorem ml_X7_53 : Cond.methodLink RX7 53 yX7_isSign ∈ TsG := TsG_t (List.mem_of_getElem? (i := 398) (by decide +kernel)) (by decide +kernel)
theorem ml_X7_64 : Cond.methodLink RX7 64 yX6_isFull ∈ TsG := TsG_t (List.mem_of_getElem? (i := 469) (by decide +kernel)) (by decide +kernel)
theorem ml_X7_73 : Cond.methodLink RX7 73 yX6_append ∈ TsG := TsG_t (List.mem_of_getElem? (i := 489) (by decide +kernel)) (by decide +kernel)
theorem ml_X7_77 : Cond.methodLink RX7 77 yX6_size ∈ TsG := TsG_t (List.mem_of_getElem? (i := 202) (by decide +kernel)) (by decide +kernel)
theorem ml_X7_81 : Cond.methodLink RX7 81 yX6_empty ∈ TsG := TsG_t (List.mem_of_getElem? (i := 206) (by decide +kernel)) (by decide +kernel)
theorem ml_X7_84 : Cond.methodLink RX7 84 yX6_hasPathForm ∈ TsG := TsG_t (List.mem_of_getElem? (i := 214) (by decide +kernel)) (by decide +kernel)
theorem ml_X7_87 : Cond.methodLink RX7 87 yX6_hasGlobForm ∈ TsG := TsG_t (List.mem_of_getElem? (i := 230) (by decide +kernel)) (by decide +kernel)
theorem ml_X7_90 : Cond.methodLink RX7 90 yX7_requireContent ∈ TsG := TsG_t (List.mem_of_getElem? (i := 500) (by decide +kernel)) (by decide +kernel)
theorem ml_X7_96 : Cond.methodLink RX7 96 yX0_numberOf ∈ TsG := TsG_t (List.mem_of_getElem? (i := 242) (by decide +kernel)) (by decide +kernel)
theorem ml_X7_100 : Cond.methodLink RX7 100 yX0_isThere ∈ TsG := TsG_t (List.mem_of_getElem? (i := 506) (by decide +kernel)) (by decide +kernel)
theorem ml_X7_106 : Cond.methodLink RX7 106 yX0_isFull ∈ TsG := TsG_t (List.mem_of_getElem? (i := 515) (by decide +kernel)) (by decide +kernel)
theorem ml_X7_109 : Cond.methodLink RX7 109 yX7_numberNewPath ∈ TsG := TsG_t (List.mem_of_getElem? (i := 520) (by decide +kernel)) (by decide +kernel)
theorem ml_X7_112 : Cond.methodLink RX7 112 yX0_put ∈ TsG := TsG_t (List.mem_of_getElem? (i := 562) (by decide +kernel)) (by decide +kernel)
theorem ml_X7_116 : Cond.methodLink RX7 116 yX7_requireFileThere ∈ TsG := TsG_t (List.mem_of_getElem? (i := 574) (by decide +kernel)) (by decide +kernel)
theorem ml_X7_119 : Cond.methodLink RX7 119 yX0_contentOf ∈ TsG := TsG_t (List.mem_of_getElem? (i := 594) (by decide +kernel)) (by decide +kernel)
theorem ml_X7_123 : Cond.methodLink RX7 123 yX0_remove ∈ TsG := TsG_t (List.mem_of_getElem? (i := 602) (by decide +kernel)) (by decide +kernel)
theorem ml_X7_126 : Cond.methodLink RX7 126 yX0_present ∈ TsG := TsG_t (List.mem_of_getElem? (i := 254) (by decide +kernel)) (by decide +kernel)
theorem ml_X7_129 : Cond.methodLink RX7 129 yX7_requireFile ∈ TsG := TsG_t (List.mem_of_getElem? (i := 613) (by decide +kernel)) (by decide +kernel)
theorem ml_X7_134 : Cond.methodLink RX7 134 yX0_pathOf ∈ TsG := TsG_t (List.mem_of_getElem? (i := 620) (by decide +kernel)) (by decide +kernel)
theorem ml_X7_138 : Cond.methodLink RX7 138 yX6_covers ∈ TsG := TsG_t (List.mem_of_getElem? (i := 624) (by decide +kernel)) (by decide +kernel)
theorem ml_X7_144 : Cond.methodLink RX7 144 yX2_isFull ∈ TsG := TsG_t (List.mem_of_getElem? (i := 633) (by decide +kernel)) (by decide +kernel)
theorem ml_X7_147 : Cond.methodLink RX7 147 yX2_add ∈ TsG := TsG_t (List.mem_of_getElem? (i := 638) (by decide +kernel)) (by decide +kernel)
theorem ml_X7_150 : Cond.methodLink RX7 150 yX7_requireTarget ∈ TsG := TsG_t (List.mem_of_getElem? (i := 649) (by decide +kernel)) (by decide +kernel)
theorem ml_X7_153 : Cond.methodLink RX7 153 yX7_requireGlob ∈ TsG := TsG_t (List.mem_of_getElem? (i := 658) (by decide +kernel)) (by decide +kernel)
theorem ml_X7_156 : Cond.methodLink RX7 156 yX2_globsOf ∈ TsG := TsG_t (List.mem_of_getElem? (i := 662) (by decide +kernel)) (by decide +kernel)
theorem ml_X7_160 : Cond.methodLink RX7 160 yX1_isFull ∈ TsG := TsG_t (List.mem_of_getElem? (i := 663) (by decide +kernel)) (by decide +kernel)
theorem ml_X7_165 : Cond.methodLink RX7 165 yX0_coveredBy ∈ TsG := TsG_t (List.mem_of_getElem? (i := 668) (by decide +kernel)) (by decide +kernel)
theorem ml_X7_168 : Cond.methodLink RX7 168 yX1_add ∈ TsG := TsG_t (List.mem_of_getElem? (i := 673) (by decide +kernel)) (by decide +kernel)
theorem ml_X7_171 : Cond.methodLink RX7 171 yX1_covered ∈ TsG := TsG_t (List.mem_of_getElem? (i := 678) (by decide +kernel)) (by decide +kernel)
theorem ml_X7_174 : Cond.methodLink RX7 174 yJ6_bitCount_0f7a4 ∈ TsG := TsG_t (List.mem_of_getElem? (i := 356) (by decide +kernel)) (by decide +kernel)
theorem ml_X7_179 : Cond.methodLink RX7 179 yX2_dependenciesOf ∈ TsG := TsG_t (List.mem_of_getElem? (i := 686) (by decide +kernel)) (by decide +kernel)
theorem ml_X7_182 : Cond.methodLink RX7 182 yX7_holds ∈ TsG := TsG_t (List.mem_of_getElem? (i := 687) (by decide +kernel)) (by decide +kernel)
theorem ml_X7_188 : Cond.methodLink RX7 188 yX2_upFrom ∈ TsG := TsG_t (List.mem_of_getElem? (i := 689) (by decide +kernel)) (by decide +kernel)
theorem ml_X7_193 : Cond.methodLink RX7 193 yX2_addDependency ∈ TsG := TsG_t (List.mem_of_getElem? (i := 694) (by decide +kernel)) (by decide +kernel)
theorem ml_X7_196 : Cond.methodLink RX7 196 yX2_size ∈ TsG := TsG_t (List.mem_of_getElem? (i := 262) (by decide +kernel)) (by decide +kernel)
theorem ml_X7_202 : Cond.methodLink RX7 202 yX2_makeOrder ∈ TsG := TsG_t (List.mem_of_getElem? (i := 720) (by decide +kernel)) (by decide +kernel)
theorem ml_X7_205 : Cond.methodLink RX7 205 yX2_atPlace ∈ TsG := TsG_t (List.mem_of_getElem? (i := 721) (by decide +kernel)) (by decide +kernel)
theorem ml_X7_208 : Cond.methodLink RX7 208 yX2_covering ∈ TsG := TsG_t (List.mem_of_getElem? (i := 729) (by decide +kernel)) (by decide +kernel)
theorem ml_X7_211 : Cond.methodLink RX7 211 yX2_reachingDown ∈ TsG := TsG_t (List.mem_of_getElem? (i := 741) (by decide +kernel)) (by decide +kernel)
theorem ml_X7_214 : Cond.methodLink RX7 214 yX3_lookUpAll ∈ TsG := TsG_t (List.mem_of_getElem? (i := 270) (by decide +kernel)) (by decide +kernel)
theorem ml_X7_217 : Cond.methodLink RX7 217 yX3_keyNow ∈ TsG := TsG_t (List.mem_of_getElem? (i := 756) (by decide +kernel)) (by decide +kernel)
theorem ml_X7_220 : Cond.methodLink RX7 220 yX3_withoutKey ∈ TsG := TsG_t (List.mem_of_getElem? (i := 336) (by decide +kernel)) (by decide +kernel)
theorem ml_X7_223 : Cond.methodLink RX7 223 yX3_hasRun ∈ TsG := TsG_t (List.mem_of_getElem? (i := 767) (by decide +kernel)) (by decide +kernel)
theorem ml_X7_226 : Cond.methodLink RX7 226 yX3_hasLatestInputs ∈ TsG := TsG_t (List.mem_of_getElem? (i := 771) (by decide +kernel)) (by decide +kernel)
theorem ml_X7_231 : Cond.methodLink RX7 231 yX3_given ∈ TsG := TsG_t (List.mem_of_getElem? (i := 341) (by decide +kernel)) (by decide +kernel)
theorem ml_X7_236 : Cond.methodLink RX7 236 yX3_runOrFind ∈ TsG := TsG_t (List.mem_of_getElem? (i := 784) (by decide +kernel)) (by decide +kernel)
theorem ml_X7_241 : Cond.methodLink RX7 241 yX3_runOrFindAll ∈ TsG := TsG_t (List.mem_of_getElem? (i := 801) (by decide +kernel)) (by decide +kernel)
theorem ml_X7_244 : Cond.methodLink RX7 244 yX7_requireShards ∈ TsG := TsG_t (List.mem_of_getElem? (i := 813) (by decide +kernel)) (by decide +kernel)
theorem ml_X7_247 : Cond.methodLink RX7 247 yX5_over ∈ TsG := TsG_t (List.mem_of_getElem? (i := 818) (by decide +kernel)) (by decide +kernel)
theorem ml_X7_251 : Cond.methodLink RX7 251 yX5_placeOf ∈ TsG := TsG_t (List.mem_of_getElem? (i := 840) (by decide +kernel)) (by decide +kernel)
theorem ml_X7_254 : Cond.methodLink RX7 254 yX5_greatestLoad ∈ TsG := TsG_t (List.mem_of_getElem? (i := 851) (by decide +kernel)) (by decide +kernel)
theorem ml_X7_261 : Cond.methodLink RX7 261 yX4_isFull ∈ TsG := TsG_t (List.mem_of_getElem? (i := 872) (by decide +kernel)) (by decide +kernel)
theorem ml_X7_264 : Cond.methodLink RX7 264 yX4_add ∈ TsG := TsG_t (List.mem_of_getElem? (i := 878) (by decide +kernel)) (by decide +kernel)
theorem ml_X7_267 : Cond.methodLink RX7 267 yX4_size ∈ TsG := TsG_t (List.mem_of_getElem? (i := 887) (by decide +kernel)) (by decide +kernel)
theorem ml_X7_268 : Cond.methodLink RX7 268 yX4_latestOwner ∈ TsG := TsG_t (List.mem_of_getElem? (i := 898) (by decide +kernel)) (by decide +kernel)
theorem ml_X7_271 : Cond.methodLink RX7 271 yX0_keepMark ∈ TsG := TsG_t (List.mem_of_getElem? (i := 349) (by decide +kernel)) (by decide +kernel)
theorem ml_X7_274 : Cond.methodLink RX7 274 yX0_sinceMark ∈ TsG := TsG_t (List.mem_of_getElem? (i := 366) (by decide +kernel)) (by decide +kernel)
theorem ml_X7_277 : Cond.methodLink RX7 277 yX4_ownersOfAll ∈ TsG := TsG_t (List.mem_of_getElem? (i := 375) (by decide +kernel)) (by decide +kernel)
theorem ml_X7_282 : Cond.methodLink RX7 282 yX0_has ∈ TsG := TsG_t (List.mem_of_getElem? (i := 617) (by decide +kernel)) (by decide +kernel)
theorem ml_X7_289 : Cond.methodLink RX7 289 yX2_has ∈ TsG := TsG_t (List.mem_of_getElem? (i := 653) (by decide +kernel)) (by decide +kernel)
theorem ml_X7_294 : Cond.methodLink RX7 294 yX0_addPath ∈ TsG := TsG_t (List.mem_of_getElem? (i := 524) (by decide +kernel)) (by decide +kernel)
theorem ml_X7_297 : Cond.methodLink RX7 297 yX2_meetFile ∈ TsG := TsG_t (List.mem_of_getElem? (i := 532) (by decide +kernel)) (by decide +kernel)
theorem ml_X7_301 : Cond.methodLink RX7 301 yX4_meetFile ∈ TsG := TsG_t (List.mem_of_getElem? (i := 557) (by decide +kernel)) (by decide +kernel)
theorem ml_X8_81 : Cond.methodLink RX8 81 yX8_at ∈ TsG := TsG_t (List.mem_of_getElem? (i := 1012) (by decide +kernel)) (by decide +kernel)
theorem ml_X8_85 : Cond.methodLink RX8 85 yX8_hasEmpty ∈ TsG := TsG_t (List.mem_of_getElem? (i := 1008) (by decide +kernel)) (by decide +kernel)
theorem ml_X8_89 : Cond.methodLink RX8 89 yX8_isPathNow ∈ TsG := TsG_t (List.mem_of_getElem? (i := 1004) (by decide +kernel)) (by decide +kernel)
theorem ml_X8_92 : Cond.methodLink RX8 92 yX8_isGlobNow ∈ TsG := TsG_t (List.mem_of_getElem? (i := 1020) (by decide +kernel)) (by decide +kernel)
theorem ml_X8_95 : Cond.methodLink RX8 95 yX8_pathAt ∈ TsG := TsG_t (List.mem_of_getElem? (i := 1067) (by decide +kernel)) (by decide +kernel)
theorem ml_X8_98 : Cond.methodLink RX8 98 yX8_endOf ∈ TsG := TsG_t (List.mem_of_getElem? (i := 1063) (by decide +kernel)) (by decide +kernel)
theorem ml_X8_101 : Cond.methodLink RX8 101 yX8_isLaid ∈ TsG := TsG_t (List.mem_of_getElem? (i := 1071) (by decide +kernel)) (by decide +kernel)
theorem ml_X8_105 : Cond.methodLink RX8 105 yX8_begins ∈ TsG := TsG_t (List.mem_of_getElem? (i := 1075) (by decide +kernel)) (by decide +kernel)
theorem ml_X8_111 : Cond.methodLink RX8 111 yX8_isIn ∈ TsG := TsG_t (List.mem_of_getElem? (i := 1028) (by decide +kernel)) (by decide +kernel)
theorem ml_X8_115 : Cond.methodLink RX8 115 yX8_fileOf ∈ TsG := TsG_t (List.mem_of_getElem? (i := 1031) (by decide +kernel)) (by decide +kernel)
theorem ml_X8_119 : Cond.methodLink RX8 119 yX8_isThere ∈ TsG := TsG_t (List.mem_of_getElem? (i := 1043) (by decide +kernel)) (by decide +kernel)
theorem ml_X8_123 : Cond.methodLink RX8 123 yX8_isMatched ∈ TsG := TsG_t (List.mem_of_getElem? (i := 1059) (by decide +kernel)) (by decide +kernel)
theorem ml_X8_130 : Cond.methodLink RX8 130 yX8_takes ∈ TsG := TsG_t (List.mem_of_getElem? (i := 1099) (by decide +kernel)) (by decide +kernel)
theorem ml_X8_133 : Cond.methodLink RX8 133 yX8_isTarget ∈ TsG := TsG_t (List.mem_of_getElem? (i := 1087) (by decide +kernel)) (by decide +kernel)
theorem ml_X8_136 : Cond.methodLink RX8 136 yX8_copies ∈ TsG := TsG_t (List.mem_of_getElem? (i := 1091) (by decide +kernel)) (by decide +kernel)
theorem ml_X8_140 : Cond.methodLink RX8 140 yX8_inputsOf ∈ TsG := TsG_t (List.mem_of_getElem? (i := 1095) (by decide +kernel)) (by decide +kernel)
theorem ml_X8_144 : Cond.methodLink RX8 144 yX8_count ∈ TsG := TsG_t (List.mem_of_getElem? (i := 1103) (by decide +kernel)) (by decide +kernel)
theorem ml_X8_147 : Cond.methodLink RX8 147 yX8_upwards ∈ TsG := TsG_t (List.mem_of_getElem? (i := 1114) (by decide +kernel)) (by decide +kernel)
theorem ml_X8_150 : Cond.methodLink RX8 150 yX8_aboveOf ∈ TsG := TsG_t (List.mem_of_getElem? (i := 1110) (by decide +kernel)) (by decide +kernel)
theorem ml_X8_153 : Cond.methodLink RX8 153 yX8_orders ∈ TsG := TsG_t (List.mem_of_getElem? (i := 1134) (by decide +kernel)) (by decide +kernel)
theorem ml_X8_156 : Cond.methodLink RX8 156 yX8_affected ∈ TsG := TsG_t (List.mem_of_getElem? (i := 1142) (by decide +kernel)) (by decide +kernel)
theorem ml_X8_162 : Cond.methodLink RX8 162 yX8_hasInputs ∈ TsG := TsG_t (List.mem_of_getElem? (i := 1162) (by decide +kernel)) (by decide +kernel)
theorem ml_X8_165 : Cond.methodLink RX8 165 yX8_given ∈ TsG := TsG_t (List.mem_of_getElem? (i := 1158) (by decide +kernel)) (by decide +kernel)
theorem ml_X8_168 : Cond.methodLink RX8 168 yX8_laysKeys ∈ TsG := TsG_t (List.mem_of_getElem? (i := 1154) (by decide +kernel)) (by decide +kernel)
theorem ml_X8_171 : Cond.methodLink RX8 171 yX8_neededNow ∈ TsG := TsG_t (List.mem_of_getElem? (i := 1170) (by decide +kernel)) (by decide +kernel)
theorem ml_X8_174 : Cond.methodLink RX8 174 yX8_runs ∈ TsG := TsG_t (List.mem_of_getElem? (i := 1182) (by decide +kernel)) (by decide +kernel)
theorem ml_X8_177 : Cond.methodLink RX8 177 yX8_spreads ∈ TsG := TsG_t (List.mem_of_getElem? (i := 1198) (by decide +kernel)) (by decide +kernel)
theorem ml_X8_183 : Cond.methodLink RX8 183 yX8_ownerNow ∈ TsG := TsG_t (List.mem_of_getElem? (i := 1218) (by decide +kernel)) (by decide +kernel)
theorem ml_X8_186 : Cond.methodLink RX8 186 yX8_isChanged ∈ TsG := TsG_t (List.mem_of_getElem? (i := 1230) (by decide +kernel)) (by decide +kernel)
theorem ml_X0_54 : Cond.methodLink RX0 54 arraycopyName ∈ TsG := TsG_t (List.mem_of_getElem? (i := 353) (by decide +kernel)) (by decide +kernel)
theorem mx_X1_9 : Cond.methodLink RX1 9 Lib.Math.max.name ∈ TsG := TsG_t (List.mem_of_getElem? (i := 84) (by decide +kernel)) (by decide +kernel)
theorem ml_X3_103 : Cond.methodLink RX3 103 arraycopyName ∈ TsG := TsG_t (List.mem_of_getElem? (i := 792) (by decide +kernel)) (by decide +kernel)
theorem mx_X5_42 : Cond.methodLink RX5 42 Lib.Math.max.name ∈ TsG := TsG_t (List.mem_of_getElem? (i := 855) (by decide +kernel)) (by decide +kernel)
theorem ac_nat : Cond.native arraycopyName ∈ TsG := TsG_t (List.mem_of_getElem? (i := 355) (by decide +kernel)) (by decide +kernel)
theorem ac_stat : Cond.static arraycopyName ∈ TsG := TsG_t (List.mem_of_getElem? (i := 354) (by decide +kernel)) (by decide +kernel)
theorem ac_ini : Cond.initialized "java/lang/System" ∈ TsG := TsG_t (List.mem_of_getElem? (i := 18) (by decide +kernel)) (by decide +kernel)
theorem mx_stat : Cond.static Lib.Math.max.name ∈ TsG := TsG_t (List.mem_of_getElem? (i := 85) (by decide +kernel)) (by decide +kernel)
theorem mx_ini : Cond.initialized "java/lang/Math" ∈ TsG := TsG_t (List.mem_of_getElem? (i := 6) (by decide +kernel)) (by decide +kernel)
theorem mx_code : Cond.code Lib.Math.max.name Lib.Math.max.code 2 (some .int) ∈ TsG := TsG_t (List.mem_of_getElem? (i := 86) (by decide +kernel)) (by decide +kernel)
theorem ct_J6_265 : Cond.constant RJ6 265 (1431655765) ∈ TsG := TsG_t (List.mem_of_getElem? (i := 359) (by decide +kernel)) (by decide +kernel)
theorem ct_J6_266 : Cond.constant RJ6 266 (858993459) ∈ TsG := TsG_t (List.mem_of_getElem? (i := 360) (by decide +kernel)) (by decide +kernel)
theorem ct_J6_267 : Cond.constant RJ6 267 (252645135) ∈ TsG := TsG_t (List.mem_of_getElem? (i := 361) (by decide +kernel)) (by decide +kernel)
theorem cl_L_8 : Cond.classLink RL 8 "Monobuild" ∈ TsG := TsG_t (List.mem_of_getElem? (i := 20) (by decide +kernel)) (by decide +kernel)
theorem cl_L_13 : Cond.classLink RL 13 "java/lang/IllegalArgumentException" ∈ TsG := TsG_t (List.mem_of_getElem? (i := 392) (by decide +kernel)) (by decide +kernel)
theorem cl_L_15 : Cond.classLink RL 15 "java/lang/IllegalStateException" ∈ TsG := TsG_t (List.mem_of_getElem? (i := 393) (by decide +kernel)) (by decide +kernel)
theorem cl_L_25 : Cond.classLink RL 25 "java/lang/IndexOutOfBoundsException" ∈ TsG := TsG_t (List.mem_of_getElem? (i := 569) (by decide +kernel)) (by decide +kernel)
theorem cl_L_87 : Cond.classLink RL 87 "MonobuildModel" ∈ TsG := TsG_t (List.mem_of_getElem? (i := 899) (by decide +kernel)) (by decide +kernel)
theorem cl_X0_9 : Cond.classLink RX0 9 "Monobuild$Text" ∈ TsG := TsG_t (List.mem_of_getElem? (i := 48) (by decide +kernel)) (by decide +kernel)
theorem cl_X1_21 : Cond.classLink RX1 21 "Monobuild$Text" ∈ TsG := TsG_t (List.mem_of_getElem? (i := 87) (by decide +kernel)) (by decide +kernel)
theorem cl_X2_18 : Cond.classLink RX2 18 "Monobuild$Globs" ∈ TsG := TsG_t (List.mem_of_getElem? (i := 77) (by decide +kernel)) (by decide +kernel)
theorem cl_X3_11 : Cond.classLink RX3 11 "[[I" ∈ TsG := TsG_t (List.mem_of_getElem? (i := 124) (by decide +kernel)) (by decide +kernel)
theorem cl_X4_9 : Cond.classLink RX4 9 "Monobuild$Globs" ∈ TsG := TsG_t (List.mem_of_getElem? (i := 170) (by decide +kernel)) (by decide +kernel)
theorem cl_X7_7 : Cond.classLink RX7 7 "Monobuild$Text" ∈ TsG := TsG_t (List.mem_of_getElem? (i := 28) (by decide +kernel)) (by decide +kernel)
theorem cl_X7_16 : Cond.classLink RX7 16 "Monobuild$FileTable" ∈ TsG := TsG_t (List.mem_of_getElem? (i := 42) (by decide +kernel)) (by decide +kernel)
theorem cl_X7_23 : Cond.classLink RX7 23 "Monobuild$Graph" ∈ TsG := TsG_t (List.mem_of_getElem? (i := 71) (by decide +kernel)) (by decide +kernel)
theorem cl_X7_30 : Cond.classLink RX7 30 "Monobuild$KeyBook" ∈ TsG := TsG_t (List.mem_of_getElem? (i := 118) (by decide +kernel)) (by decide +kernel)
theorem cl_X7_39 : Cond.classLink RX7 39 "Monobuild$Spread" ∈ TsG := TsG_t (List.mem_of_getElem? (i := 151) (by decide +kernel)) (by decide +kernel)
theorem cl_X7_46 : Cond.classLink RX7 46 "Monobuild$RuleBook" ∈ TsG := TsG_t (List.mem_of_getElem? (i := 164) (by decide +kernel)) (by decide +kernel)
theorem cl_X7_57 : Cond.classLink RX7 57 "java/lang/IllegalArgumentException" ∈ TsG := TsG_t (List.mem_of_getElem? (i := 401) (by decide +kernel)) (by decide +kernel)
theorem cl_X7_68 : Cond.classLink RX7 68 "java/lang/IllegalStateException" ∈ TsG := TsG_t (List.mem_of_getElem? (i := 473) (by decide +kernel)) (by decide +kernel)
theorem cl_X7_197 : Cond.classLink RX7 197 "java/lang/IndexOutOfBoundsException" ∈ TsG := TsG_t (List.mem_of_getElem? (i := 578) (by decide +kernel)) (by decide +kernel)
theorem nl_X0_24 : (RX0, 24, yX6_init) ∈ gx_nst := List.mem_of_getElem? (i := 1) rfl
theorem nl_X0_36 : (RX0, 36, yX7_holds) ∈ gx_nst := List.mem_of_getElem? (i := 7) rfl
theorem nl_X1_31 : (RX1, 31, yX6_init) ∈ gx_nst := List.mem_of_getElem? (i := 2) rfl
theorem nl_X1_43 : (RX1, 43, yX7_holds) ∈ gx_nst := List.mem_of_getElem? (i := 8) rfl
theorem nl_X2_42 : (RX2, 42, yX7_holds) ∈ gx_nst := List.mem_of_getElem? (i := 5) rfl
theorem nl_X3_97 : (RX3, 97, yX7_holds) ∈ gx_nst := List.mem_of_getElem? (i := 6) rfl
theorem nl_X4_47 : (RX4, 47, yX7_holds) ∈ gx_nst := List.mem_of_getElem? (i := 9) rfl
theorem nl_X5_52 : (RX5, 52, yX7_holds) ∈ gx_nst := List.mem_of_getElem? (i := 11) rfl
theorem nl_X6_42 : (RX6, 42, yX7_holds) ∈ gx_nst := List.mem_of_getElem? (i := 10) rfl
theorem nl_X7_9 : (RX7, 9, yX6_init) ∈ gx_nst := List.mem_of_getElem? (i := 0) rfl
theorem nl_X7_41 : (RX7, 41, yX5_init) ∈ gx_nst := List.mem_of_getElem? (i := 3) rfl
theorem nl_X7_48 : (RX7, 48, yX4_init) ∈ gx_nst := List.mem_of_getElem? (i := 4) rfl
theorem in_J10 : Cond.initialized RJ10 ∈ TsG := TsG_t (List.mem_of_getElem? (i := 18) (by decide +kernel)) (by decide +kernel)
theorem in_J6 : Cond.initialized RJ6 ∈ TsG := TsG_t (List.mem_of_getElem? (i := 17) (by decide +kernel)) (by decide +kernel)
theorem in_J7 : Cond.initialized RJ7 ∈ TsG := TsG_t (List.mem_of_getElem? (i := 19) (by decide +kernel)) (by decide +kernel)
theorem in_J9 : Cond.initialized RJ9 ∈ TsG := TsG_t (List.mem_of_getElem? (i := 6) (by decide +kernel)) (by decide +kernel)
theorem in_L : Cond.initialized RL ∈ TsG := TsG_t (List.mem_of_getElem? (i := 0) (by decide +kernel)) (by decide +kernel)
theorem in_X0 : Cond.initialized RX0 ∈ TsG := TsG_t (List.mem_of_getElem? (i := 3) (by decide +kernel)) (by decide +kernel)
theorem in_X1 : Cond.initialized RX1 ∈ TsG := TsG_t (List.mem_of_getElem? (i := 5) (by decide +kernel)) (by decide +kernel)
theorem in_X2 : Cond.initialized RX2 ∈ TsG := TsG_t (List.mem_of_getElem? (i := 4) (by decide +kernel)) (by decide +kernel)
theorem in_X3 : Cond.initialized RX3 ∈ TsG := TsG_t (List.mem_of_getElem? (i := 7) (by decide +kernel)) (by decide +kernel)
theorem in_X4 : Cond.initialized RX4 ∈ TsG := TsG_t (List.mem_of_getElem? (i := 9) (by decide +kernel)) (by decide +kernel)
theorem in_X5 : Cond.initialized RX5 ∈ TsG := TsG_t (List.mem_of_getElem? (i := 8) (by decide +kernel)) (by decide +kernel)
theorem in_X6 : Cond.initialized RX6 ∈ TsG := TsG_t (List.mem_of_getElem? (i := 2) (by decide +kernel)) (by decide +kernel)
theorem in_X7 : Cond.initialized RX7 ∈ TsG := TsG_t (List.mem_of_getElem? (i := 1) (by decide +kernel)) (by decide +kernel)
theorem in_X8 : Cond.initialized RX8 ∈ TsG := TsG_t (List.mem_of_getElem? (i := 10) (by decide +kernel)) (by decide +kernel)
theorem in_E1 : Cond.initialized "java/lang/IllegalArgumentException" ∈ TsG := TsG_t (List.mem_of_getElem? (i := 14) (by decide +kernel)) (by decide +kernel)
theorem in_E2 : Cond.initialized "java/lang/IllegalStateException" ∈ TsG := TsG_t (List.mem_of_getElem? (i := 15) (by decide +kernel)) (by decide +kernel)
theorem in_E3 : Cond.initialized "java/lang/IndexOutOfBoundsException" ∈ TsG := TsG_t (List.mem_of_getElem? (i := 16) (by decide +kernel)) (by decide +kernel)
theorem pk_J6_bitCount_0f7a4 : PkS yJ6_bitCount_0f7a4 cJ6_bitCount_0f7a4 1 (some .int) 1 := ⟨⟨TsG_t (List.mem_of_getElem? (i := 358) (by decide +kernel)) (by decide +kernel), in_J6, by decide +kernel, by decide +kernel, by decide +kernel⟩, TsG_t (List.mem_of_getElem? (i := 357) (by decide +kernel)) (by decide +kernel)⟩
theorem pk_J7_fill_53178 : PkS yJ7_fill_53178 cJ7_fill_53178 4 none 2 := ⟨⟨TsG_t (List.mem_of_getElem? (i := 824) (by decide +kernel)) (by decide +kernel), in_J7, by decide +kernel, by decide +kernel, by decide +kernel⟩, TsG_t (List.mem_of_getElem? (i := 823) (by decide +kernel)) (by decide +kernel)⟩
theorem pk_X0_addPath : PkV yX0_addPath cX0_addPath 3 (some .int) 1 := ⟨⟨TsG_t (List.mem_of_getElem? (i := 527) (by decide +kernel)) (by decide +kernel), in_X0, by decide +kernel, by decide +kernel, by decide +kernel⟩, TsG_t (List.mem_of_getElem? (i := 525) (by decide +kernel)) (by decide +kernel), TsG_t (List.mem_of_getElem? (i := 526) (by decide +kernel)) (by decide +kernel)⟩
theorem pk_X0_contentOf : PkV yX0_contentOf cX0_contentOf 2 (some .int) 1 := ⟨⟨TsG_t (List.mem_of_getElem? (i := 315) (by decide +kernel)) (by decide +kernel), in_X0, by decide +kernel, by decide +kernel, by decide +kernel⟩, TsG_t (List.mem_of_getElem? (i := 313) (by decide +kernel)) (by decide +kernel), TsG_t (List.mem_of_getElem? (i := 314) (by decide +kernel)) (by decide +kernel)⟩
theorem pk_X0_coveredBy : PkV yX0_coveredBy cX0_coveredBy 4 (some .int) 1 := ⟨⟨TsG_t (List.mem_of_getElem? (i := 671) (by decide +kernel)) (by decide +kernel), in_X0, by decide +kernel, by decide +kernel, by decide +kernel⟩, TsG_t (List.mem_of_getElem? (i := 669) (by decide +kernel)) (by decide +kernel), TsG_t (List.mem_of_getElem? (i := 670) (by decide +kernel)) (by decide +kernel)⟩
theorem pk_X0_has : PkV yX0_has cX0_has 2 (some .boolean) 1 := ⟨⟨TsG_t (List.mem_of_getElem? (i := 513) (by decide +kernel)) (by decide +kernel), in_X0, by decide +kernel, by decide +kernel, by decide +kernel⟩, TsG_t (List.mem_of_getElem? (i := 511) (by decide +kernel)) (by decide +kernel), TsG_t (List.mem_of_getElem? (i := 512) (by decide +kernel)) (by decide +kernel)⟩
theorem pk_X0_init : Pk yX0_init cX0_init 2 none 0 ∧ Cond.instanceMethod yX0_init ∈ TsG := ⟨⟨TsG_t (List.mem_of_getElem? (i := 46) (by decide +kernel)) (by decide +kernel), in_X0, by decide +kernel, by decide +kernel, by decide +kernel⟩, TsG_t (List.mem_of_getElem? (i := 45) (by decide +kernel)) (by decide +kernel)⟩
theorem pk_X0_isFull : PkV yX0_isFull cX0_isFull 1 (some .boolean) 0 := ⟨⟨TsG_t (List.mem_of_getElem? (i := 518) (by decide +kernel)) (by decide +kernel), in_X0, by decide +kernel, by decide +kernel, by decide +kernel⟩, TsG_t (List.mem_of_getElem? (i := 516) (by decide +kernel)) (by decide +kernel), TsG_t (List.mem_of_getElem? (i := 517) (by decide +kernel)) (by decide +kernel)⟩
theorem pk_X0_isThere : PkV yX0_isThere cX0_isThere 2 (some .boolean) 1 := ⟨⟨TsG_t (List.mem_of_getElem? (i := 509) (by decide +kernel)) (by decide +kernel), in_X0, by decide +kernel, by decide +kernel, by decide +kernel⟩, TsG_t (List.mem_of_getElem? (i := 507) (by decide +kernel)) (by decide +kernel), TsG_t (List.mem_of_getElem? (i := 508) (by decide +kernel)) (by decide +kernel)⟩
theorem pk_X0_keepMark : PkV yX0_keepMark cX0_keepMark 1 none 0 := ⟨⟨TsG_t (List.mem_of_getElem? (i := 352) (by decide +kernel)) (by decide +kernel), in_X0, by decide +kernel, by decide +kernel, by decide +kernel⟩, TsG_t (List.mem_of_getElem? (i := 350) (by decide +kernel)) (by decide +kernel), TsG_t (List.mem_of_getElem? (i := 351) (by decide +kernel)) (by decide +kernel)⟩
theorem pk_X0_numberOf : PkV yX0_numberOf cX0_numberOf 3 (some .int) 1 := ⟨⟨TsG_t (List.mem_of_getElem? (i := 245) (by decide +kernel)) (by decide +kernel), in_X0, by decide +kernel, by decide +kernel, by decide +kernel⟩, TsG_t (List.mem_of_getElem? (i := 243) (by decide +kernel)) (by decide +kernel), TsG_t (List.mem_of_getElem? (i := 244) (by decide +kernel)) (by decide +kernel)⟩
theorem pk_X0_pathOf : PkV yX0_pathOf cX0_pathOf 2 (some (.object "Monobuild$Text")) 1 := ⟨⟨TsG_t (List.mem_of_getElem? (i := 623) (by decide +kernel)) (by decide +kernel), in_X0, by decide +kernel, by decide +kernel, by decide +kernel⟩, TsG_t (List.mem_of_getElem? (i := 621) (by decide +kernel)) (by decide +kernel), TsG_t (List.mem_of_getElem? (i := 622) (by decide +kernel)) (by decide +kernel)⟩
theorem pk_X0_present : PkV yX0_present cX0_present 1 (some .int) 0 := ⟨⟨TsG_t (List.mem_of_getElem? (i := 257) (by decide +kernel)) (by decide +kernel), in_X0, by decide +kernel, by decide +kernel, by decide +kernel⟩, TsG_t (List.mem_of_getElem? (i := 255) (by decide +kernel)) (by decide +kernel), TsG_t (List.mem_of_getElem? (i := 256) (by decide +kernel)) (by decide +kernel)⟩
theorem pk_X0_put : PkV yX0_put cX0_put 3 none 2 := ⟨⟨TsG_t (List.mem_of_getElem? (i := 565) (by decide +kernel)) (by decide +kernel), in_X0, by decide +kernel, by decide +kernel, by decide +kernel⟩, TsG_t (List.mem_of_getElem? (i := 563) (by decide +kernel)) (by decide +kernel), TsG_t (List.mem_of_getElem? (i := 564) (by decide +kernel)) (by decide +kernel)⟩
theorem pk_X0_remove : PkV yX0_remove cX0_remove 2 none 1 := ⟨⟨TsG_t (List.mem_of_getElem? (i := 605) (by decide +kernel)) (by decide +kernel), in_X0, by decide +kernel, by decide +kernel, by decide +kernel⟩, TsG_t (List.mem_of_getElem? (i := 603) (by decide +kernel)) (by decide +kernel), TsG_t (List.mem_of_getElem? (i := 604) (by decide +kernel)) (by decide +kernel)⟩
theorem pk_X0_sinceMark : PkV yX0_sinceMark cX0_sinceMark 3 (some .int) 0 := ⟨⟨TsG_t (List.mem_of_getElem? (i := 369) (by decide +kernel)) (by decide +kernel), in_X0, by decide +kernel, by decide +kernel, by decide +kernel⟩, TsG_t (List.mem_of_getElem? (i := 367) (by decide +kernel)) (by decide +kernel), TsG_t (List.mem_of_getElem? (i := 368) (by decide +kernel)) (by decide +kernel)⟩
theorem pk_X1_add : PkV yX1_add cX1_add 3 none 2 := ⟨⟨TsG_t (List.mem_of_getElem? (i := 676) (by decide +kernel)) (by decide +kernel), in_X1, by decide +kernel, by decide +kernel, by decide +kernel⟩, TsG_t (List.mem_of_getElem? (i := 674) (by decide +kernel)) (by decide +kernel), TsG_t (List.mem_of_getElem? (i := 675) (by decide +kernel)) (by decide +kernel)⟩
theorem pk_X1_covered : PkV yX1_covered cX1_covered 3 (some .int) 0 := ⟨⟨TsG_t (List.mem_of_getElem? (i := 309) (by decide +kernel)) (by decide +kernel), in_X1, by decide +kernel, by decide +kernel, by decide +kernel⟩, TsG_t (List.mem_of_getElem? (i := 307) (by decide +kernel)) (by decide +kernel), TsG_t (List.mem_of_getElem? (i := 308) (by decide +kernel)) (by decide +kernel)⟩
theorem pk_X1_init : Pk yX1_init cX1_init 3 none 1 ∧ Cond.instanceMethod yX1_init ∈ TsG := ⟨⟨TsG_t (List.mem_of_getElem? (i := 82) (by decide +kernel)) (by decide +kernel), in_X1, by decide +kernel, by decide +kernel, by decide +kernel⟩, TsG_t (List.mem_of_getElem? (i := 81) (by decide +kernel)) (by decide +kernel)⟩
theorem pk_X1_isFull : PkV yX1_isFull cX1_isFull 1 (some .boolean) 0 := ⟨⟨TsG_t (List.mem_of_getElem? (i := 666) (by decide +kernel)) (by decide +kernel), in_X1, by decide +kernel, by decide +kernel, by decide +kernel⟩, TsG_t (List.mem_of_getElem? (i := 664) (by decide +kernel)) (by decide +kernel), TsG_t (List.mem_of_getElem? (i := 665) (by decide +kernel)) (by decide +kernel)⟩
theorem pk_X1_latestCovering : PkV yX1_latestCovering cX1_latestCovering 3 (some .int) 1 := ⟨⟨TsG_t (List.mem_of_getElem? (i := 386) (by decide +kernel)) (by decide +kernel), in_X1, by decide +kernel, by decide +kernel, by decide +kernel⟩, TsG_t (List.mem_of_getElem? (i := 384) (by decide +kernel)) (by decide +kernel), TsG_t (List.mem_of_getElem? (i := 385) (by decide +kernel)) (by decide +kernel)⟩
theorem pk_X1_meetFile : PkV yX1_meetFile cX1_meetFile 4 none 2 := ⟨⟨TsG_t (List.mem_of_getElem? (i := 539) (by decide +kernel)) (by decide +kernel), in_X1, by decide +kernel, by decide +kernel, by decide +kernel⟩, TsG_t (List.mem_of_getElem? (i := 537) (by decide +kernel)) (by decide +kernel), TsG_t (List.mem_of_getElem? (i := 538) (by decide +kernel)) (by decide +kernel)⟩
theorem pk_X1_size : PkV yX1_size cX1_size 1 (some .int) 0 := ⟨⟨TsG_t (List.mem_of_getElem? (i := 885) (by decide +kernel)) (by decide +kernel), in_X1, by decide +kernel, by decide +kernel, by decide +kernel⟩, TsG_t (List.mem_of_getElem? (i := 883) (by decide +kernel)) (by decide +kernel), TsG_t (List.mem_of_getElem? (i := 884) (by decide +kernel)) (by decide +kernel)⟩
theorem pk_X2_add : PkV yX2_add cX2_add 3 (some .int) 1 := ⟨⟨TsG_t (List.mem_of_getElem? (i := 641) (by decide +kernel)) (by decide +kernel), in_X2, by decide +kernel, by decide +kernel, by decide +kernel⟩, TsG_t (List.mem_of_getElem? (i := 639) (by decide +kernel)) (by decide +kernel), TsG_t (List.mem_of_getElem? (i := 640) (by decide +kernel)) (by decide +kernel)⟩
theorem pk_X2_addDependency : PkV yX2_addDependency cX2_addDependency 3 none 2 := ⟨⟨TsG_t (List.mem_of_getElem? (i := 697) (by decide +kernel)) (by decide +kernel), in_X2, by decide +kernel, by decide +kernel, by decide +kernel⟩, TsG_t (List.mem_of_getElem? (i := 695) (by decide +kernel)) (by decide +kernel), TsG_t (List.mem_of_getElem? (i := 696) (by decide +kernel)) (by decide +kernel)⟩
theorem pk_X2_atPlace : PkV yX2_atPlace cX2_atPlace 2 (some .int) 1 := ⟨⟨TsG_t (List.mem_of_getElem? (i := 293) (by decide +kernel)) (by decide +kernel), in_X2, by decide +kernel, by decide +kernel, by decide +kernel⟩, TsG_t (List.mem_of_getElem? (i := 291) (by decide +kernel)) (by decide +kernel), TsG_t (List.mem_of_getElem? (i := 292) (by decide +kernel)) (by decide +kernel)⟩
theorem pk_X2_costOf : PkV yX2_costOf cX2_costOf 2 (some .int) 1 := ⟨⟨TsG_t (List.mem_of_getElem? (i := 835) (by decide +kernel)) (by decide +kernel), in_X2, by decide +kernel, by decide +kernel, by decide +kernel⟩, TsG_t (List.mem_of_getElem? (i := 833) (by decide +kernel)) (by decide +kernel), TsG_t (List.mem_of_getElem? (i := 834) (by decide +kernel)) (by decide +kernel)⟩
theorem pk_X2_covering : PkV yX2_covering cX2_covering 4 (some .int) 1 := ⟨⟨TsG_t (List.mem_of_getElem? (i := 732) (by decide +kernel)) (by decide +kernel), in_X2, by decide +kernel, by decide +kernel, by decide +kernel⟩, TsG_t (List.mem_of_getElem? (i := 730) (by decide +kernel)) (by decide +kernel), TsG_t (List.mem_of_getElem? (i := 731) (by decide +kernel)) (by decide +kernel)⟩
theorem pk_X2_dependenciesOf : PkV yX2_dependenciesOf cX2_dependenciesOf 2 (some .int) 1 := ⟨⟨TsG_t (List.mem_of_getElem? (i := 319) (by decide +kernel)) (by decide +kernel), in_X2, by decide +kernel, by decide +kernel, by decide +kernel⟩, TsG_t (List.mem_of_getElem? (i := 317) (by decide +kernel)) (by decide +kernel), TsG_t (List.mem_of_getElem? (i := 318) (by decide +kernel)) (by decide +kernel)⟩
theorem pk_X2_downFrom : PkV yX2_downFrom cX2_downFrom 5 (some .int) 1 := ⟨⟨TsG_t (List.mem_of_getElem? (i := 748) (by decide +kernel)) (by decide +kernel), in_X2, by decide +kernel, by decide +kernel, by decide +kernel⟩, TsG_t (List.mem_of_getElem? (i := 747) (by decide +kernel)) (by decide +kernel), TsG_s (q := (yX2_downFrom, 5)) (List.mem_of_getElem? (i := 20) (by decide +kernel))⟩
theorem pk_X2_globsOf : PkV yX2_globsOf cX2_globsOf 2 (some (.object "Monobuild$Globs")) 1 := ⟨⟨TsG_t (List.mem_of_getElem? (i := 305) (by decide +kernel)) (by decide +kernel), in_X2, by decide +kernel, by decide +kernel, by decide +kernel⟩, TsG_t (List.mem_of_getElem? (i := 303) (by decide +kernel)) (by decide +kernel), TsG_t (List.mem_of_getElem? (i := 304) (by decide +kernel)) (by decide +kernel)⟩
theorem pk_X2_has : PkV yX2_has cX2_has 2 (some .boolean) 1 := ⟨⟨TsG_t (List.mem_of_getElem? (i := 656) (by decide +kernel)) (by decide +kernel), in_X2, by decide +kernel, by decide +kernel, by decide +kernel⟩, TsG_t (List.mem_of_getElem? (i := 654) (by decide +kernel)) (by decide +kernel), TsG_t (List.mem_of_getElem? (i := 655) (by decide +kernel)) (by decide +kernel)⟩
theorem pk_X2_init : Pk yX2_init cX2_init 2 none 0 ∧ Cond.instanceMethod yX2_init ∈ TsG := ⟨⟨TsG_t (List.mem_of_getElem? (i := 75) (by decide +kernel)) (by decide +kernel), in_X2, by decide +kernel, by decide +kernel, by decide +kernel⟩, TsG_t (List.mem_of_getElem? (i := 74) (by decide +kernel)) (by decide +kernel)⟩
theorem pk_X2_isFull : PkV yX2_isFull cX2_isFull 1 (some .boolean) 0 := ⟨⟨TsG_t (List.mem_of_getElem? (i := 636) (by decide +kernel)) (by decide +kernel), in_X2, by decide +kernel, by decide +kernel, by decide +kernel⟩, TsG_t (List.mem_of_getElem? (i := 634) (by decide +kernel)) (by decide +kernel), TsG_t (List.mem_of_getElem? (i := 635) (by decide +kernel)) (by decide +kernel)⟩
theorem pk_X2_isNext : PkV yX2_isNext cX2_isNext 3 (some .boolean) 2 := ⟨⟨TsG_t (List.mem_of_getElem? (i := 285) (by decide +kernel)) (by decide +kernel), in_X2, by decide +kernel, by decide +kernel, by decide +kernel⟩, TsG_t (List.mem_of_getElem? (i := 284) (by decide +kernel)) (by decide +kernel), TsG_s (q := (yX2_isNext, 5)) (List.mem_of_getElem? (i := 4) (by decide +kernel))⟩
theorem pk_X2_makeOrder : PkV yX2_makeOrder cX2_makeOrder 4 none 0 := ⟨⟨TsG_t (List.mem_of_getElem? (i := 277) (by decide +kernel)) (by decide +kernel), in_X2, by decide +kernel, by decide +kernel, by decide +kernel⟩, TsG_t (List.mem_of_getElem? (i := 275) (by decide +kernel)) (by decide +kernel), TsG_t (List.mem_of_getElem? (i := 276) (by decide +kernel)) (by decide +kernel)⟩
theorem pk_X2_meetFile : PkV yX2_meetFile cX2_meetFile 4 none 2 := ⟨⟨TsG_t (List.mem_of_getElem? (i := 535) (by decide +kernel)) (by decide +kernel), in_X2, by decide +kernel, by decide +kernel, by decide +kernel⟩, TsG_t (List.mem_of_getElem? (i := 533) (by decide +kernel)) (by decide +kernel), TsG_t (List.mem_of_getElem? (i := 534) (by decide +kernel)) (by decide +kernel)⟩
theorem pk_X2_nextBehind : PkV yX2_nextBehind cX2_nextBehind 3 (some .int) 1 := ⟨⟨TsG_t (List.mem_of_getElem? (i := 281) (by decide +kernel)) (by decide +kernel), in_X2, by decide +kernel, by decide +kernel, by decide +kernel⟩, TsG_t (List.mem_of_getElem? (i := 280) (by decide +kernel)) (by decide +kernel), TsG_s (q := (yX2_nextBehind, 5)) (List.mem_of_getElem? (i := 3) (by decide +kernel))⟩
theorem pk_X2_reachingDown : PkV yX2_reachingDown cX2_reachingDown 4 (some .int) 1 := ⟨⟨TsG_t (List.mem_of_getElem? (i := 744) (by decide +kernel)) (by decide +kernel), in_X2, by decide +kernel, by decide +kernel, by decide +kernel⟩, TsG_t (List.mem_of_getElem? (i := 742) (by decide +kernel)) (by decide +kernel), TsG_t (List.mem_of_getElem? (i := 743) (by decide +kernel)) (by decide +kernel)⟩
theorem pk_X2_size : PkV yX2_size cX2_size 1 (some .int) 0 := ⟨⟨TsG_t (List.mem_of_getElem? (i := 265) (by decide +kernel)) (by decide +kernel), in_X2, by decide +kernel, by decide +kernel, by decide +kernel⟩, TsG_t (List.mem_of_getElem? (i := 263) (by decide +kernel)) (by decide +kernel), TsG_t (List.mem_of_getElem? (i := 264) (by decide +kernel)) (by decide +kernel)⟩
theorem pk_X2_upFrom : PkV yX2_upFrom cX2_upFrom 5 (some .int) 1 := ⟨⟨TsG_t (List.mem_of_getElem? (i := 692) (by decide +kernel)) (by decide +kernel), in_X2, by decide +kernel, by decide +kernel, by decide +kernel⟩, TsG_t (List.mem_of_getElem? (i := 690) (by decide +kernel)) (by decide +kernel), TsG_t (List.mem_of_getElem? (i := 691) (by decide +kernel)) (by decide +kernel)⟩
theorem pk_X3_agrees : PkV yX3_agrees cX3_agrees 4 (some .boolean) 2 := ⟨⟨TsG_t (List.mem_of_getElem? (i := 335) (by decide +kernel)) (by decide +kernel), in_X3, by decide +kernel, by decide +kernel, by decide +kernel⟩, TsG_t (List.mem_of_getElem? (i := 334) (by decide +kernel)) (by decide +kernel), TsG_s (q := (yX3_agrees, 8)) (List.mem_of_getElem? (i := 9) (by decide +kernel))⟩
theorem pk_X3_dependenciesHaveKeys : PkV yX3_dependenciesHaveKeys cX3_dependenciesHaveKeys 2 (some .boolean) 1 := ⟨⟨TsG_t (List.mem_of_getElem? (i := 323) (by decide +kernel)) (by decide +kernel), in_X3, by decide +kernel, by decide +kernel, by decide +kernel⟩, TsG_t (List.mem_of_getElem? (i := 322) (by decide +kernel)) (by decide +kernel), TsG_s (q := (yX3_dependenciesHaveKeys, 8)) (List.mem_of_getElem? (i := 7) (by decide +kernel))⟩
theorem pk_X3_fillRow : PkV yX3_fillRow cX3_fillRow 5 none 1 := ⟨⟨TsG_t (List.mem_of_getElem? (i := 301) (by decide +kernel)) (by decide +kernel), in_X3, by decide +kernel, by decide +kernel, by decide +kernel⟩, TsG_t (List.mem_of_getElem? (i := 300) (by decide +kernel)) (by decide +kernel), TsG_s (q := (yX3_fillRow, 8)) (List.mem_of_getElem? (i := 6) (by decide +kernel))⟩
theorem pk_X3_give : PkV yX3_give cX3_give 2 (some .int) 1 := ⟨⟨TsG_t (List.mem_of_getElem? (i := 791) (by decide +kernel)) (by decide +kernel), in_X3, by decide +kernel, by decide +kernel, by decide +kernel⟩, TsG_t (List.mem_of_getElem? (i := 790) (by decide +kernel)) (by decide +kernel), TsG_s (q := (yX3_give, 8)) (List.mem_of_getElem? (i := 21) (by decide +kernel))⟩
theorem pk_X3_given : PkV yX3_given cX3_given 1 (some .int) 0 := ⟨⟨TsG_t (List.mem_of_getElem? (i := 344) (by decide +kernel)) (by decide +kernel), in_X3, by decide +kernel, by decide +kernel, by decide +kernel⟩, TsG_t (List.mem_of_getElem? (i := 342) (by decide +kernel)) (by decide +kernel), TsG_t (List.mem_of_getElem? (i := 343) (by decide +kernel)) (by decide +kernel)⟩
theorem pk_X3_hasLatestInputs : PkV yX3_hasLatestInputs cX3_hasLatestInputs 2 (some .boolean) 1 := ⟨⟨TsG_t (List.mem_of_getElem? (i := 774) (by decide +kernel)) (by decide +kernel), in_X3, by decide +kernel, by decide +kernel, by decide +kernel⟩, TsG_t (List.mem_of_getElem? (i := 772) (by decide +kernel)) (by decide +kernel), TsG_t (List.mem_of_getElem? (i := 773) (by decide +kernel)) (by decide +kernel)⟩
theorem pk_X3_hasRun : PkV yX3_hasRun cX3_hasRun 2 (some .boolean) 1 := ⟨⟨TsG_t (List.mem_of_getElem? (i := 770) (by decide +kernel)) (by decide +kernel), in_X3, by decide +kernel, by decide +kernel, by decide +kernel⟩, TsG_t (List.mem_of_getElem? (i := 768) (by decide +kernel)) (by decide +kernel), TsG_t (List.mem_of_getElem? (i := 769) (by decide +kernel)) (by decide +kernel)⟩
theorem pk_X3_init : Pk yX3_init cX3_init 3 none 2 ∧ Cond.instanceMethod yX3_init ∈ TsG := ⟨⟨TsG_t (List.mem_of_getElem? (i := 122) (by decide +kernel)) (by decide +kernel), in_X3, by decide +kernel, by decide +kernel, by decide +kernel⟩, TsG_t (List.mem_of_getElem? (i := 121) (by decide +kernel)) (by decide +kernel)⟩
theorem pk_X3_keyNow : PkV yX3_keyNow cX3_keyNow 2 (some .int) 1 := ⟨⟨TsG_t (List.mem_of_getElem? (i := 759) (by decide +kernel)) (by decide +kernel), in_X3, by decide +kernel, by decide +kernel, by decide +kernel⟩, TsG_t (List.mem_of_getElem? (i := 757) (by decide +kernel)) (by decide +kernel), TsG_t (List.mem_of_getElem? (i := 758) (by decide +kernel)) (by decide +kernel)⟩
theorem pk_X3_keyOfRow : PkV yX3_keyOfRow cX3_keyOfRow 3 (some .int) 1 := ⟨⟨TsG_t (List.mem_of_getElem? (i := 331) (by decide +kernel)) (by decide +kernel), in_X3, by decide +kernel, by decide +kernel, by decide +kernel⟩, TsG_t (List.mem_of_getElem? (i := 330) (by decide +kernel)) (by decide +kernel), TsG_s (q := (yX3_keyOfRow, 8)) (List.mem_of_getElem? (i := 8) (by decide +kernel))⟩
theorem pk_X3_lookUp : PkV yX3_lookUp cX3_lookUp 2 none 1 := ⟨⟨TsG_t (List.mem_of_getElem? (i := 297) (by decide +kernel)) (by decide +kernel), in_X3, by decide +kernel, by decide +kernel, by decide +kernel⟩, TsG_t (List.mem_of_getElem? (i := 296) (by decide +kernel)) (by decide +kernel), TsG_s (q := (yX3_lookUp, 8)) (List.mem_of_getElem? (i := 5) (by decide +kernel))⟩
theorem pk_X3_lookUpAll : PkV yX3_lookUpAll cX3_lookUpAll 2 none 0 := ⟨⟨TsG_t (List.mem_of_getElem? (i := 273) (by decide +kernel)) (by decide +kernel), in_X3, by decide +kernel, by decide +kernel, by decide +kernel⟩, TsG_t (List.mem_of_getElem? (i := 271) (by decide +kernel)) (by decide +kernel), TsG_t (List.mem_of_getElem? (i := 272) (by decide +kernel)) (by decide +kernel)⟩
theorem pk_X3_runOrFind : PkV yX3_runOrFind cX3_runOrFind 2 (some .int) 1 := ⟨⟨TsG_t (List.mem_of_getElem? (i := 787) (by decide +kernel)) (by decide +kernel), in_X3, by decide +kernel, by decide +kernel, by decide +kernel⟩, TsG_t (List.mem_of_getElem? (i := 785) (by decide +kernel)) (by decide +kernel), TsG_t (List.mem_of_getElem? (i := 786) (by decide +kernel)) (by decide +kernel)⟩
theorem pk_X3_runOrFindAll : PkV yX3_runOrFindAll cX3_runOrFindAll 2 none 0 := ⟨⟨TsG_t (List.mem_of_getElem? (i := 804) (by decide +kernel)) (by decide +kernel), in_X3, by decide +kernel, by decide +kernel, by decide +kernel⟩, TsG_t (List.mem_of_getElem? (i := 802) (by decide +kernel)) (by decide +kernel), TsG_t (List.mem_of_getElem? (i := 803) (by decide +kernel)) (by decide +kernel)⟩
theorem pk_X3_withoutKey : PkV yX3_withoutKey cX3_withoutKey 3 (some .int) 0 := ⟨⟨TsG_t (List.mem_of_getElem? (i := 327) (by decide +kernel)) (by decide +kernel), in_X3, by decide +kernel, by decide +kernel, by decide +kernel⟩, TsG_t (List.mem_of_getElem? (i := 325) (by decide +kernel)) (by decide +kernel), TsG_t (List.mem_of_getElem? (i := 326) (by decide +kernel)) (by decide +kernel)⟩
theorem pk_X4_add : PkV yX4_add cX4_add 4 none 3 := ⟨⟨TsG_t (List.mem_of_getElem? (i := 881) (by decide +kernel)) (by decide +kernel), in_X4, by decide +kernel, by decide +kernel, by decide +kernel⟩, TsG_t (List.mem_of_getElem? (i := 879) (by decide +kernel)) (by decide +kernel), TsG_t (List.mem_of_getElem? (i := 880) (by decide +kernel)) (by decide +kernel)⟩
theorem pk_X4_init : Pk yX4_init cX4_init 1 none 0 ∧ Cond.instanceMethod yX4_init ∈ TsG := ⟨⟨TsG_t (List.mem_of_getElem? (i := 168) (by decide +kernel)) (by decide +kernel), in_X4, by decide +kernel, by decide +kernel, by decide +kernel⟩, TsG_t (List.mem_of_getElem? (i := 167) (by decide +kernel)) (by decide +kernel)⟩
theorem pk_X4_isFull : PkV yX4_isFull cX4_isFull 1 (some .boolean) 0 := ⟨⟨TsG_t (List.mem_of_getElem? (i := 875) (by decide +kernel)) (by decide +kernel), in_X4, by decide +kernel, by decide +kernel, by decide +kernel⟩, TsG_t (List.mem_of_getElem? (i := 873) (by decide +kernel)) (by decide +kernel), TsG_t (List.mem_of_getElem? (i := 874) (by decide +kernel)) (by decide +kernel)⟩
theorem pk_X4_latestOwner : PkV yX4_latestOwner cX4_latestOwner 3 (some .int) 1 := ⟨⟨TsG_t (List.mem_of_getElem? (i := 382) (by decide +kernel)) (by decide +kernel), in_X4, by decide +kernel, by decide +kernel, by decide +kernel⟩, TsG_t (List.mem_of_getElem? (i := 380) (by decide +kernel)) (by decide +kernel), TsG_t (List.mem_of_getElem? (i := 381) (by decide +kernel)) (by decide +kernel)⟩
theorem pk_X4_meetFile : PkV yX4_meetFile cX4_meetFile 3 none 2 := ⟨⟨TsG_t (List.mem_of_getElem? (i := 560) (by decide +kernel)) (by decide +kernel), in_X4, by decide +kernel, by decide +kernel, by decide +kernel⟩, TsG_t (List.mem_of_getElem? (i := 558) (by decide +kernel)) (by decide +kernel), TsG_t (List.mem_of_getElem? (i := 559) (by decide +kernel)) (by decide +kernel)⟩
theorem pk_X4_ownersOfAll : PkV yX4_ownersOfAll cX4_ownersOfAll 5 (some .int) 1 := ⟨⟨TsG_t (List.mem_of_getElem? (i := 378) (by decide +kernel)) (by decide +kernel), in_X4, by decide +kernel, by decide +kernel, by decide +kernel⟩, TsG_t (List.mem_of_getElem? (i := 376) (by decide +kernel)) (by decide +kernel), TsG_t (List.mem_of_getElem? (i := 377) (by decide +kernel)) (by decide +kernel)⟩
theorem pk_X4_size : PkV yX4_size cX4_size 1 (some .int) 0 := ⟨⟨TsG_t (List.mem_of_getElem? (i := 890) (by decide +kernel)) (by decide +kernel), in_X4, by decide +kernel, by decide +kernel, by decide +kernel⟩, TsG_t (List.mem_of_getElem? (i := 888) (by decide +kernel)) (by decide +kernel), TsG_t (List.mem_of_getElem? (i := 889) (by decide +kernel)) (by decide +kernel)⟩
theorem pk_X5_dearest : PkV yX5_dearest cX5_dearest 6 (some .int) 2 := ⟨⟨TsG_t (List.mem_of_getElem? (i := 829) (by decide +kernel)) (by decide +kernel), in_X5, by decide +kernel, by decide +kernel, by decide +kernel⟩, TsG_t (List.mem_of_getElem? (i := 828) (by decide +kernel)) (by decide +kernel), TsG_s (q := (yX5_dearest, 2)) (List.mem_of_getElem? (i := 23) (by decide +kernel))⟩
theorem pk_X5_greatestLoad : PkV yX5_greatestLoad cX5_greatestLoad 3 (some .int) 0 := ⟨⟨TsG_t (List.mem_of_getElem? (i := 854) (by decide +kernel)) (by decide +kernel), in_X5, by decide +kernel, by decide +kernel, by decide +kernel⟩, TsG_t (List.mem_of_getElem? (i := 852) (by decide +kernel)) (by decide +kernel), TsG_t (List.mem_of_getElem? (i := 853) (by decide +kernel)) (by decide +kernel)⟩
theorem pk_X5_init : Pk yX5_init cX5_init 1 none 0 ∧ Cond.instanceMethod yX5_init ∈ TsG := ⟨⟨TsG_t (List.mem_of_getElem? (i := 155) (by decide +kernel)) (by decide +kernel), in_X5, by decide +kernel, by decide +kernel, by decide +kernel⟩, TsG_t (List.mem_of_getElem? (i := 154) (by decide +kernel)) (by decide +kernel)⟩
theorem pk_X5_lightest : PkV yX5_lightest cX5_lightest 4 (some .int) 1 := ⟨⟨TsG_t (List.mem_of_getElem? (i := 839) (by decide +kernel)) (by decide +kernel), in_X5, by decide +kernel, by decide +kernel, by decide +kernel⟩, TsG_t (List.mem_of_getElem? (i := 838) (by decide +kernel)) (by decide +kernel), TsG_s (q := (yX5_lightest, 2)) (List.mem_of_getElem? (i := 24) (by decide +kernel))⟩
theorem pk_X5_over : PkV yX5_over cX5_over 8 none 3 := ⟨⟨TsG_t (List.mem_of_getElem? (i := 821) (by decide +kernel)) (by decide +kernel), in_X5, by decide +kernel, by decide +kernel, by decide +kernel⟩, TsG_t (List.mem_of_getElem? (i := 819) (by decide +kernel)) (by decide +kernel), TsG_t (List.mem_of_getElem? (i := 820) (by decide +kernel)) (by decide +kernel)⟩
theorem pk_X5_placeOf : PkV yX5_placeOf cX5_placeOf 2 (some .int) 1 := ⟨⟨TsG_t (List.mem_of_getElem? (i := 843) (by decide +kernel)) (by decide +kernel), in_X5, by decide +kernel, by decide +kernel, by decide +kernel⟩, TsG_t (List.mem_of_getElem? (i := 841) (by decide +kernel)) (by decide +kernel), TsG_t (List.mem_of_getElem? (i := 842) (by decide +kernel)) (by decide +kernel)⟩
theorem pk_X6_append : PkV yX6_append cX6_append 2 none 1 := ⟨⟨TsG_t (List.mem_of_getElem? (i := 492) (by decide +kernel)) (by decide +kernel), in_X6, by decide +kernel, by decide +kernel, by decide +kernel⟩, TsG_t (List.mem_of_getElem? (i := 490) (by decide +kernel)) (by decide +kernel), TsG_t (List.mem_of_getElem? (i := 491) (by decide +kernel)) (by decide +kernel)⟩
theorem pk_X6_copyFrom : PkV yX6_copyFrom cX6_copyFrom 3 none 1 := ⟨⟨TsG_t (List.mem_of_getElem? (i := 531) (by decide +kernel)) (by decide +kernel), in_X6, by decide +kernel, by decide +kernel, by decide +kernel⟩, TsG_t (List.mem_of_getElem? (i := 529) (by decide +kernel)) (by decide +kernel), TsG_t (List.mem_of_getElem? (i := 530) (by decide +kernel)) (by decide +kernel)⟩
theorem pk_X6_covers : PkV yX6_covers cX6_covers 5 (some .boolean) 1 := ⟨⟨TsG_t (List.mem_of_getElem? (i := 543) (by decide +kernel)) (by decide +kernel), in_X6, by decide +kernel, by decide +kernel, by decide +kernel⟩, TsG_t (List.mem_of_getElem? (i := 541) (by decide +kernel)) (by decide +kernel), TsG_t (List.mem_of_getElem? (i := 542) (by decide +kernel)) (by decide +kernel)⟩
theorem pk_X6_empty : PkV yX6_empty cX6_empty 1 none 0 := ⟨⟨TsG_t (List.mem_of_getElem? (i := 209) (by decide +kernel)) (by decide +kernel), in_X6, by decide +kernel, by decide +kernel, by decide +kernel⟩, TsG_t (List.mem_of_getElem? (i := 207) (by decide +kernel)) (by decide +kernel), TsG_t (List.mem_of_getElem? (i := 208) (by decide +kernel)) (by decide +kernel)⟩
theorem pk_X6_hasEmptySegment : PkV yX6_hasEmptySegment cX6_hasEmptySegment 2 (some .boolean) 0 := ⟨⟨TsG_t (List.mem_of_getElem? (i := 221) (by decide +kernel)) (by decide +kernel), in_X6, by decide +kernel, by decide +kernel, by decide +kernel⟩, TsG_t (List.mem_of_getElem? (i := 220) (by decide +kernel)) (by decide +kernel), TsG_s (q := (yX6_hasEmptySegment, 2)) (List.mem_of_getElem? (i := 0) (by decide +kernel))⟩
theorem pk_X6_hasGlobForm : PkV yX6_hasGlobForm cX6_hasGlobForm 2 (some .boolean) 0 := ⟨⟨TsG_t (List.mem_of_getElem? (i := 233) (by decide +kernel)) (by decide +kernel), in_X6, by decide +kernel, by decide +kernel, by decide +kernel⟩, TsG_t (List.mem_of_getElem? (i := 231) (by decide +kernel)) (by decide +kernel), TsG_t (List.mem_of_getElem? (i := 232) (by decide +kernel)) (by decide +kernel)⟩
theorem pk_X6_hasPathForm : PkV yX6_hasPathForm cX6_hasPathForm 2 (some .boolean) 0 := ⟨⟨TsG_t (List.mem_of_getElem? (i := 217) (by decide +kernel)) (by decide +kernel), in_X6, by decide +kernel, by decide +kernel, by decide +kernel⟩, TsG_t (List.mem_of_getElem? (i := 215) (by decide +kernel)) (by decide +kernel), TsG_t (List.mem_of_getElem? (i := 216) (by decide +kernel)) (by decide +kernel)⟩
theorem pk_X6_init : Pk yX6_init cX6_init 1 none 0 ∧ Cond.instanceMethod yX6_init ∈ TsG := ⟨⟨TsG_t (List.mem_of_getElem? (i := 32) (by decide +kernel)) (by decide +kernel), in_X6, by decide +kernel, by decide +kernel, by decide +kernel⟩, TsG_t (List.mem_of_getElem? (i := 31) (by decide +kernel)) (by decide +kernel)⟩
theorem pk_X6_isDoubleStar : PkV yX6_isDoubleStar cX6_isDoubleStar 2 (some .boolean) 1 := ⟨⟨TsG_t (List.mem_of_getElem? (i := 237) (by decide +kernel)) (by decide +kernel), in_X6, by decide +kernel, by decide +kernel, by decide +kernel⟩, TsG_t (List.mem_of_getElem? (i := 236) (by decide +kernel)) (by decide +kernel), TsG_s (q := (yX6_isDoubleStar, 2)) (List.mem_of_getElem? (i := 2) (by decide +kernel))⟩
theorem pk_X6_isFull : PkV yX6_isFull cX6_isFull 1 (some .boolean) 0 := ⟨⟨TsG_t (List.mem_of_getElem? (i := 472) (by decide +kernel)) (by decide +kernel), in_X6, by decide +kernel, by decide +kernel, by decide +kernel⟩, TsG_t (List.mem_of_getElem? (i := 470) (by decide +kernel)) (by decide +kernel), TsG_t (List.mem_of_getElem? (i := 471) (by decide +kernel)) (by decide +kernel)⟩
theorem pk_X6_isSameAs : PkV yX6_isSameAs cX6_isSameAs 3 (some .boolean) 1 := ⟨⟨TsG_t (List.mem_of_getElem? (i := 249) (by decide +kernel)) (by decide +kernel), in_X6, by decide +kernel, by decide +kernel, by decide +kernel⟩, TsG_t (List.mem_of_getElem? (i := 247) (by decide +kernel)) (by decide +kernel), TsG_t (List.mem_of_getElem? (i := 248) (by decide +kernel)) (by decide +kernel)⟩
theorem pk_X6_overLetters : PkV yX6_overLetters cX6_overLetters 4 (some .int) 1 := ⟨⟨TsG_t (List.mem_of_getElem? (i := 552) (by decide +kernel)) (by decide +kernel), in_X6, by decide +kernel, by decide +kernel, by decide +kernel⟩, TsG_t (List.mem_of_getElem? (i := 551) (by decide +kernel)) (by decide +kernel), TsG_s (q := (yX6_overLetters, 2)) (List.mem_of_getElem? (i := 14) (by decide +kernel))⟩
theorem pk_X6_overSign : PkV yX6_overSign cX6_overSign 6 (some .int) 2 := ⟨⟨TsG_t (List.mem_of_getElem? (i := 556) (by decide +kernel)) (by decide +kernel), in_X6, by decide +kernel, by decide +kernel, by decide +kernel⟩, TsG_t (List.mem_of_getElem? (i := 555) (by decide +kernel)) (by decide +kernel), TsG_s (q := (yX6_overSign, 2)) (List.mem_of_getElem? (i := 15) (by decide +kernel))⟩
theorem pk_X6_signAt : PkV yX6_signAt cX6_signAt 2 (some .char) 1 := ⟨⟨TsG_t (List.mem_of_getElem? (i := 225) (by decide +kernel)) (by decide +kernel), in_X6, by decide +kernel, by decide +kernel, by decide +kernel⟩, TsG_t (List.mem_of_getElem? (i := 224) (by decide +kernel)) (by decide +kernel), TsG_s (q := (yX6_signAt, 2)) (List.mem_of_getElem? (i := 1) (by decide +kernel))⟩
theorem pk_X6_size : PkV yX6_size cX6_size 1 (some .int) 0 := ⟨⟨TsG_t (List.mem_of_getElem? (i := 205) (by decide +kernel)) (by decide +kernel), in_X6, by decide +kernel, by decide +kernel, by decide +kernel⟩, TsG_t (List.mem_of_getElem? (i := 203) (by decide +kernel)) (by decide +kernel), TsG_t (List.mem_of_getElem? (i := 204) (by decide +kernel)) (by decide +kernel)⟩
theorem pk_X6_startsFrom : PkV yX6_startsFrom cX6_startsFrom 5 (some .int) 1 := ⟨⟨TsG_t (List.mem_of_getElem? (i := 547) (by decide +kernel)) (by decide +kernel), in_X6, by decide +kernel, by decide +kernel, by decide +kernel⟩, TsG_t (List.mem_of_getElem? (i := 546) (by decide +kernel)) (by decide +kernel), TsG_s (q := (yX6_startsFrom, 2)) (List.mem_of_getElem? (i := 13) (by decide +kernel))⟩
theorem pk_X7_above : PkV yX7_above cX7_above 3 (some .int) 1 := ⟨⟨TsG_t (List.mem_of_getElem? (i := 711) (by decide +kernel)) (by decide +kernel), in_X7, by decide +kernel, by decide +kernel, by decide +kernel⟩, TsG_t (List.mem_of_getElem? (i := 709) (by decide +kernel)) (by decide +kernel), TsG_t (List.mem_of_getElem? (i := 710) (by decide +kernel)) (by decide +kernel)⟩
theorem pk_X7_addFile : PkV yX7_addFile cX7_addFile 3 (some .int) 1 := ⟨⟨TsG_t (List.mem_of_getElem? (i := 499) (by decide +kernel)) (by decide +kernel), in_X7, by decide +kernel, by decide +kernel, by decide +kernel⟩, TsG_t (List.mem_of_getElem? (i := 497) (by decide +kernel)) (by decide +kernel), TsG_t (List.mem_of_getElem? (i := 498) (by decide +kernel)) (by decide +kernel)⟩
theorem pk_X7_addGlob : PkV yX7_addGlob cX7_addGlob 3 (some .int) 1 := ⟨⟨TsG_t (List.mem_of_getElem? (i := 648) (by decide +kernel)) (by decide +kernel), in_X7, by decide +kernel, by decide +kernel, by decide +kernel⟩, TsG_t (List.mem_of_getElem? (i := 646) (by decide +kernel)) (by decide +kernel), TsG_t (List.mem_of_getElem? (i := 647) (by decide +kernel)) (by decide +kernel)⟩
theorem pk_X7_addRule : PkV yX7_addRule cX7_addRule 2 (some .int) 1 := ⟨⟨TsG_t (List.mem_of_getElem? (i := 870) (by decide +kernel)) (by decide +kernel), in_X7, by decide +kernel, by decide +kernel, by decide +kernel⟩, TsG_t (List.mem_of_getElem? (i := 868) (by decide +kernel)) (by decide +kernel), TsG_t (List.mem_of_getElem? (i := 869) (by decide +kernel)) (by decide +kernel)⟩
theorem pk_X7_addTarget : PkV yX7_addTarget cX7_addTarget 2 (some .int) 1 := ⟨⟨TsG_t (List.mem_of_getElem? (i := 631) (by decide +kernel)) (by decide +kernel), in_X7, by decide +kernel, by decide +kernel, by decide +kernel⟩, TsG_t (List.mem_of_getElem? (i := 629) (by decide +kernel)) (by decide +kernel), TsG_t (List.mem_of_getElem? (i := 630) (by decide +kernel)) (by decide +kernel)⟩
theorem pk_X7_affectedBy : PkV yX7_affectedBy cX7_affectedBy 2 (some .int) 1 := ⟨⟨TsG_t (List.mem_of_getElem? (i := 728) (by decide +kernel)) (by decide +kernel), in_X7, by decide +kernel, by decide +kernel, by decide +kernel⟩, TsG_t (List.mem_of_getElem? (i := 726) (by decide +kernel)) (by decide +kernel), TsG_t (List.mem_of_getElem? (i := 727) (by decide +kernel)) (by decide +kernel)⟩
theorem pk_X7_affectedByGoingDown : PkV yX7_affectedByGoingDown cX7_affectedByGoingDown 2 (some .int) 1 := ⟨⟨TsG_t (List.mem_of_getElem? (i := 740) (by decide +kernel)) (by decide +kernel), in_X7, by decide +kernel, by decide +kernel, by decide +kernel⟩, TsG_t (List.mem_of_getElem? (i := 738) (by decide +kernel)) (by decide +kernel), TsG_t (List.mem_of_getElem? (i := 739) (by decide +kernel)) (by decide +kernel)⟩
theorem pk_X7_changed : PkV yX7_changed cX7_changed 1 (some .int) 0 := ⟨⟨TsG_t (List.mem_of_getElem? (i := 365) (by decide +kernel)) (by decide +kernel), in_X7, by decide +kernel, by decide +kernel, by decide +kernel⟩, TsG_t (List.mem_of_getElem? (i := 363) (by decide +kernel)) (by decide +kernel), TsG_t (List.mem_of_getElem? (i := 364) (by decide +kernel)) (by decide +kernel)⟩
theorem pk_X7_clearText : PkV yX7_clearText cX7_clearText 2 (some .int) 0 := ⟨⟨TsG_t (List.mem_of_getElem? (i := 201) (by decide +kernel)) (by decide +kernel), in_X7, by decide +kernel, by decide +kernel, by decide +kernel⟩, TsG_t (List.mem_of_getElem? (i := 199) (by decide +kernel)) (by decide +kernel), TsG_t (List.mem_of_getElem? (i := 200) (by decide +kernel)) (by decide +kernel)⟩
theorem pk_X7_delete : PkV yX7_delete cX7_delete 2 (some .int) 1 := ⟨⟨TsG_t (List.mem_of_getElem? (i := 601) (by decide +kernel)) (by decide +kernel), in_X7, by decide +kernel, by decide +kernel, by decide +kernel⟩, TsG_t (List.mem_of_getElem? (i := 599) (by decide +kernel)) (by decide +kernel), TsG_t (List.mem_of_getElem? (i := 600) (by decide +kernel)) (by decide +kernel)⟩
theorem pk_X7_depend : PkV yX7_depend cX7_depend 3 (some .int) 2 := ⟨⟨TsG_t (List.mem_of_getElem? (i := 685) (by decide +kernel)) (by decide +kernel), in_X7, by decide +kernel, by decide +kernel, by decide +kernel⟩, TsG_t (List.mem_of_getElem? (i := 683) (by decide +kernel)) (by decide +kernel), TsG_t (List.mem_of_getElem? (i := 684) (by decide +kernel)) (by decide +kernel)⟩
theorem pk_X7_edit : PkV yX7_edit cX7_edit 4 (some .int) 2 := ⟨⟨TsG_t (List.mem_of_getElem? (i := 573) (by decide +kernel)) (by decide +kernel), in_X7, by decide +kernel, by decide +kernel, by decide +kernel⟩, TsG_t (List.mem_of_getElem? (i := 571) (by decide +kernel)) (by decide +kernel), TsG_t (List.mem_of_getElem? (i := 572) (by decide +kernel)) (by decide +kernel)⟩
theorem pk_X7_files : PkV yX7_files cX7_files 1 (some .int) 0 := ⟨⟨TsG_t (List.mem_of_getElem? (i := 253) (by decide +kernel)) (by decide +kernel), in_X7, by decide +kernel, by decide +kernel, by decide +kernel⟩, TsG_t (List.mem_of_getElem? (i := 251) (by decide +kernel)) (by decide +kernel), TsG_t (List.mem_of_getElem? (i := 252) (by decide +kernel)) (by decide +kernel)⟩
theorem pk_X7_findFile : PkV yX7_findFile cX7_findFile 1 (some .int) 0 := ⟨⟨TsG_t (List.mem_of_getElem? (i := 241) (by decide +kernel)) (by decide +kernel), in_X7, by decide +kernel, by decide +kernel, by decide +kernel⟩, TsG_t (List.mem_of_getElem? (i := 239) (by decide +kernel)) (by decide +kernel), TsG_t (List.mem_of_getElem? (i := 240) (by decide +kernel)) (by decide +kernel)⟩
theorem pk_X7_holds : PkS yX7_holds cX7_holds 2 (some .boolean) 2 := ⟨⟨TsG_t (List.mem_of_getElem? (i := 288) (by decide +kernel)) (by decide +kernel), in_X7, by decide +kernel, by decide +kernel, by decide +kernel⟩, TsG_t (List.mem_of_getElem? (i := 287) (by decide +kernel)) (by decide +kernel)⟩
theorem pk_X7_init : Pk yX7_init cX7_init 1 none 0 ∧ Cond.instanceMethod yX7_init ∈ TsG := ⟨⟨TsG_t (List.mem_of_getElem? (i := 24) (by decide +kernel)) (by decide +kernel), in_X7, by decide +kernel, by decide +kernel, by decide +kernel⟩, TsG_t (List.mem_of_getElem? (i := 23) (by decide +kernel)) (by decide +kernel)⟩
theorem pk_X7_inputs : PkV yX7_inputs cX7_inputs 2 (some .int) 1 := ⟨⟨TsG_t (List.mem_of_getElem? (i := 704) (by decide +kernel)) (by decide +kernel), in_X7, by decide +kernel, by decide +kernel, by decide +kernel⟩, TsG_t (List.mem_of_getElem? (i := 702) (by decide +kernel)) (by decide +kernel), TsG_t (List.mem_of_getElem? (i := 703) (by decide +kernel)) (by decide +kernel)⟩
theorem pk_X7_isGlob : PkV yX7_isGlob cX7_isGlob 1 (some .boolean) 0 := ⟨⟨TsG_t (List.mem_of_getElem? (i := 229) (by decide +kernel)) (by decide +kernel), in_X7, by decide +kernel, by decide +kernel, by decide +kernel⟩, TsG_t (List.mem_of_getElem? (i := 227) (by decide +kernel)) (by decide +kernel), TsG_t (List.mem_of_getElem? (i := 228) (by decide +kernel)) (by decide +kernel)⟩
theorem pk_X7_isPath : PkV yX7_isPath cX7_isPath 1 (some .boolean) 0 := ⟨⟨TsG_t (List.mem_of_getElem? (i := 213) (by decide +kernel)) (by decide +kernel), in_X7, by decide +kernel, by decide +kernel, by decide +kernel⟩, TsG_t (List.mem_of_getElem? (i := 211) (by decide +kernel)) (by decide +kernel), TsG_t (List.mem_of_getElem? (i := 212) (by decide +kernel)) (by decide +kernel)⟩
theorem pk_X7_isSign : PkS yX7_isSign cX7_isSign 1 (some .boolean) 1 := ⟨⟨TsG_t (List.mem_of_getElem? (i := 400) (by decide +kernel)) (by decide +kernel), in_X7, by decide +kernel, by decide +kernel, by decide +kernel⟩, TsG_t (List.mem_of_getElem? (i := 399) (by decide +kernel)) (by decide +kernel)⟩
theorem pk_X7_keyOf : PkV yX7_keyOf cX7_keyOf 2 (some .int) 1 := ⟨⟨TsG_t (List.mem_of_getElem? (i := 755) (by decide +kernel)) (by decide +kernel), in_X7, by decide +kernel, by decide +kernel, by decide +kernel⟩, TsG_t (List.mem_of_getElem? (i := 753) (by decide +kernel)) (by decide +kernel), TsG_t (List.mem_of_getElem? (i := 754) (by decide +kernel)) (by decide +kernel)⟩
theorem pk_X7_keys : PkV yX7_keys cX7_keys 1 (some .int) 0 := ⟨⟨TsG_t (List.mem_of_getElem? (i := 340) (by decide +kernel)) (by decide +kernel), in_X7, by decide +kernel, by decide +kernel, by decide +kernel⟩, TsG_t (List.mem_of_getElem? (i := 338) (by decide +kernel)) (by decide +kernel), TsG_t (List.mem_of_getElem? (i := 339) (by decide +kernel)) (by decide +kernel)⟩
theorem pk_X7_longestShard : PkV yX7_longestShard cX7_longestShard 2 (some .int) 1 := ⟨⟨TsG_t (List.mem_of_getElem? (i := 850) (by decide +kernel)) (by decide +kernel), in_X7, by decide +kernel, by decide +kernel, by decide +kernel⟩, TsG_t (List.mem_of_getElem? (i := 848) (by decide +kernel)) (by decide +kernel), TsG_t (List.mem_of_getElem? (i := 849) (by decide +kernel)) (by decide +kernel)⟩
theorem pk_X7_mark : PkV yX7_mark cX7_mark 1 (some .int) 0 := ⟨⟨TsG_t (List.mem_of_getElem? (i := 348) (by decide +kernel)) (by decide +kernel), in_X7, by decide +kernel, by decide +kernel, by decide +kernel⟩, TsG_t (List.mem_of_getElem? (i := 346) (by decide +kernel)) (by decide +kernel), TsG_t (List.mem_of_getElem? (i := 347) (by decide +kernel)) (by decide +kernel)⟩
theorem pk_X7_matches : PkV yX7_matches cX7_matches 2 (some .boolean) 1 := ⟨⟨TsG_t (List.mem_of_getElem? (i := 612) (by decide +kernel)) (by decide +kernel), in_X7, by decide +kernel, by decide +kernel, by decide +kernel⟩, TsG_t (List.mem_of_getElem? (i := 610) (by decide +kernel)) (by decide +kernel), TsG_t (List.mem_of_getElem? (i := 611) (by decide +kernel)) (by decide +kernel)⟩
theorem pk_X7_needed : PkV yX7_needed cX7_needed 1 (some .int) 0 := ⟨⟨TsG_t (List.mem_of_getElem? (i := 269) (by decide +kernel)) (by decide +kernel), in_X7, by decide +kernel, by decide +kernel, by decide +kernel⟩, TsG_t (List.mem_of_getElem? (i := 267) (by decide +kernel)) (by decide +kernel), TsG_t (List.mem_of_getElem? (i := 268) (by decide +kernel)) (by decide +kernel)⟩
theorem pk_X7_numberNewPath : PkV yX7_numberNewPath cX7_numberNewPath 2 (some .int) 0 := ⟨⟨TsG_t (List.mem_of_getElem? (i := 523) (by decide +kernel)) (by decide +kernel), in_X7, by decide +kernel, by decide +kernel, by decide +kernel⟩, TsG_t (List.mem_of_getElem? (i := 522) (by decide +kernel)) (by decide +kernel), TsG_s (q := (yX7_numberNewPath, 6)) (List.mem_of_getElem? (i := 12) (by decide +kernel))⟩
theorem pk_X7_orderAt : PkV yX7_orderAt cX7_orderAt 2 (some .int) 1 := ⟨⟨TsG_t (List.mem_of_getElem? (i := 718) (by decide +kernel)) (by decide +kernel), in_X7, by decide +kernel, by decide +kernel, by decide +kernel⟩, TsG_t (List.mem_of_getElem? (i := 716) (by decide +kernel)) (by decide +kernel), TsG_t (List.mem_of_getElem? (i := 717) (by decide +kernel)) (by decide +kernel)⟩
theorem pk_X7_ownerOf : PkV yX7_ownerOf cX7_ownerOf 2 (some .int) 1 := ⟨⟨TsG_t (List.mem_of_getElem? (i := 897) (by decide +kernel)) (by decide +kernel), in_X7, by decide +kernel, by decide +kernel, by decide +kernel⟩, TsG_t (List.mem_of_getElem? (i := 895) (by decide +kernel)) (by decide +kernel), TsG_t (List.mem_of_getElem? (i := 896) (by decide +kernel)) (by decide +kernel)⟩
theorem pk_X7_requireContent : PkV yX7_requireContent cX7_requireContent 2 none 1 := ⟨⟨TsG_t (List.mem_of_getElem? (i := 503) (by decide +kernel)) (by decide +kernel), in_X7, by decide +kernel, by decide +kernel, by decide +kernel⟩, TsG_t (List.mem_of_getElem? (i := 502) (by decide +kernel)) (by decide +kernel), TsG_s (q := (yX7_requireContent, 6)) (List.mem_of_getElem? (i := 11) (by decide +kernel))⟩
theorem pk_X7_requireFile : PkV yX7_requireFile cX7_requireFile 2 none 1 := ⟨⟨TsG_t (List.mem_of_getElem? (i := 616) (by decide +kernel)) (by decide +kernel), in_X7, by decide +kernel, by decide +kernel, by decide +kernel⟩, TsG_t (List.mem_of_getElem? (i := 615) (by decide +kernel)) (by decide +kernel), TsG_s (q := (yX7_requireFile, 6)) (List.mem_of_getElem? (i := 17) (by decide +kernel))⟩
theorem pk_X7_requireFileThere : PkV yX7_requireFileThere cX7_requireFileThere 2 none 1 := ⟨⟨TsG_t (List.mem_of_getElem? (i := 577) (by decide +kernel)) (by decide +kernel), in_X7, by decide +kernel, by decide +kernel, by decide +kernel⟩, TsG_t (List.mem_of_getElem? (i := 576) (by decide +kernel)) (by decide +kernel), TsG_s (q := (yX7_requireFileThere, 6)) (List.mem_of_getElem? (i := 16) (by decide +kernel))⟩
theorem pk_X7_requireGlob : PkV yX7_requireGlob cX7_requireGlob 1 none 0 := ⟨⟨TsG_t (List.mem_of_getElem? (i := 661) (by decide +kernel)) (by decide +kernel), in_X7, by decide +kernel, by decide +kernel, by decide +kernel⟩, TsG_t (List.mem_of_getElem? (i := 660) (by decide +kernel)) (by decide +kernel), TsG_s (q := (yX7_requireGlob, 6)) (List.mem_of_getElem? (i := 19) (by decide +kernel))⟩
theorem pk_X7_requireShards : PkV yX7_requireShards cX7_requireShards 2 none 1 := ⟨⟨TsG_t (List.mem_of_getElem? (i := 816) (by decide +kernel)) (by decide +kernel), in_X7, by decide +kernel, by decide +kernel, by decide +kernel⟩, TsG_t (List.mem_of_getElem? (i := 815) (by decide +kernel)) (by decide +kernel), TsG_s (q := (yX7_requireShards, 6)) (List.mem_of_getElem? (i := 22) (by decide +kernel))⟩
theorem pk_X7_requireTarget : PkV yX7_requireTarget cX7_requireTarget 2 none 1 := ⟨⟨TsG_t (List.mem_of_getElem? (i := 652) (by decide +kernel)) (by decide +kernel), in_X7, by decide +kernel, by decide +kernel, by decide +kernel⟩, TsG_t (List.mem_of_getElem? (i := 651) (by decide +kernel)) (by decide +kernel), TsG_s (q := (yX7_requireTarget, 6)) (List.mem_of_getElem? (i := 18) (by decide +kernel))⟩
theorem pk_X7_reviewers : PkV yX7_reviewers cX7_reviewers 1 (some .int) 0 := ⟨⟨TsG_t (List.mem_of_getElem? (i := 374) (by decide +kernel)) (by decide +kernel), in_X7, by decide +kernel, by decide +kernel, by decide +kernel⟩, TsG_t (List.mem_of_getElem? (i := 372) (by decide +kernel)) (by decide +kernel), TsG_t (List.mem_of_getElem? (i := 373) (by decide +kernel)) (by decide +kernel)⟩
theorem pk_X7_run : PkV yX7_run cX7_run 2 (some .int) 1 := ⟨⟨TsG_t (List.mem_of_getElem? (i := 781) (by decide +kernel)) (by decide +kernel), in_X7, by decide +kernel, by decide +kernel, by decide +kernel⟩, TsG_t (List.mem_of_getElem? (i := 779) (by decide +kernel)) (by decide +kernel), TsG_t (List.mem_of_getElem? (i := 780) (by decide +kernel)) (by decide +kernel)⟩
theorem pk_X7_runAll : PkV yX7_runAll cX7_runAll 2 (some .int) 0 := ⟨⟨TsG_t (List.mem_of_getElem? (i := 799) (by decide +kernel)) (by decide +kernel), in_X7, by decide +kernel, by decide +kernel, by decide +kernel⟩, TsG_t (List.mem_of_getElem? (i := 797) (by decide +kernel)) (by decide +kernel), TsG_t (List.mem_of_getElem? (i := 798) (by decide +kernel)) (by decide +kernel)⟩
theorem pk_X7_shardOf : PkV yX7_shardOf cX7_shardOf 3 (some .int) 2 := ⟨⟨TsG_t (List.mem_of_getElem? (i := 812) (by decide +kernel)) (by decide +kernel), in_X7, by decide +kernel, by decide +kernel, by decide +kernel⟩, TsG_t (List.mem_of_getElem? (i := 810) (by decide +kernel)) (by decide +kernel), TsG_t (List.mem_of_getElem? (i := 811) (by decide +kernel)) (by decide +kernel)⟩
theorem pk_X7_shardsFor : PkV yX7_shardsFor cX7_shardsFor 3 (some .int) 1 := ⟨⟨TsG_t (List.mem_of_getElem? (i := 862) (by decide +kernel)) (by decide +kernel), in_X7, by decide +kernel, by decide +kernel, by decide +kernel⟩, TsG_t (List.mem_of_getElem? (i := 860) (by decide +kernel)) (by decide +kernel), TsG_t (List.mem_of_getElem? (i := 861) (by decide +kernel)) (by decide +kernel)⟩
theorem pk_X7_targets : PkV yX7_targets cX7_targets 1 (some .int) 0 := ⟨⟨TsG_t (List.mem_of_getElem? (i := 261) (by decide +kernel)) (by decide +kernel), in_X7, by decide +kernel, by decide +kernel, by decide +kernel⟩, TsG_t (List.mem_of_getElem? (i := 259) (by decide +kernel)) (by decide +kernel), TsG_t (List.mem_of_getElem? (i := 260) (by decide +kernel)) (by decide +kernel)⟩
theorem pk_X7_type : PkV yX7_type cX7_type 2 (some .int) 1 := ⟨⟨TsG_t (List.mem_of_getElem? (i := 397) (by decide +kernel)) (by decide +kernel), in_X7, by decide +kernel, by decide +kernel, by decide +kernel⟩, TsG_t (List.mem_of_getElem? (i := 395) (by decide +kernel)) (by decide +kernel), TsG_t (List.mem_of_getElem? (i := 396) (by decide +kernel)) (by decide +kernel)⟩
theorem pk_X7_whyRun : PkV yX7_whyRun cX7_whyRun 2 (some .int) 1 := ⟨⟨TsG_t (List.mem_of_getElem? (i := 766) (by decide +kernel)) (by decide +kernel), in_X7, by decide +kernel, by decide +kernel, by decide +kernel⟩, TsG_t (List.mem_of_getElem? (i := 764) (by decide +kernel)) (by decide +kernel), TsG_t (List.mem_of_getElem? (i := 765) (by decide +kernel)) (by decide +kernel)⟩
theorem pk_X8_above : PkV yX8_above cX8_above 2 (some .int) 1 := ⟨⟨TsG_t (List.mem_of_getElem? (i := 1129) (by decide +kernel)) (by decide +kernel), in_X8, by decide +kernel, by decide +kernel, by decide +kernel⟩, TsG_t (List.mem_of_getElem? (i := 1127) (by decide +kernel)) (by decide +kernel), TsG_t (List.mem_of_getElem? (i := 1128) (by decide +kernel)) (by decide +kernel)⟩
theorem pk_X8_aboveOf : PkV yX8_aboveOf cX8_aboveOf 2 (some .int) 1 := ⟨⟨TsG_t (List.mem_of_getElem? (i := 1113) (by decide +kernel)) (by decide +kernel), in_X8, by decide +kernel, by decide +kernel, by decide +kernel⟩, TsG_t (List.mem_of_getElem? (i := 1112) (by decide +kernel)) (by decide +kernel), TsG_s (q := (yX8_aboveOf, 27)) (List.mem_of_getElem? (i := 40) (by decide +kernel))⟩
theorem pk_X8_addFile : PkV yX8_addFile cX8_addFile 4 (some .int) 1 := ⟨⟨TsG_t (List.mem_of_getElem? (i := 1027) (by decide +kernel)) (by decide +kernel), in_X8, by decide +kernel, by decide +kernel, by decide +kernel⟩, TsG_t (List.mem_of_getElem? (i := 1025) (by decide +kernel)) (by decide +kernel), TsG_t (List.mem_of_getElem? (i := 1026) (by decide +kernel)) (by decide +kernel)⟩
theorem pk_X8_addGlob : PkV yX8_addGlob cX8_addGlob 2 (some .int) 1 := ⟨⟨TsG_t (List.mem_of_getElem? (i := 1086) (by decide +kernel)) (by decide +kernel), in_X8, by decide +kernel, by decide +kernel, by decide +kernel⟩, TsG_t (List.mem_of_getElem? (i := 1084) (by decide +kernel)) (by decide +kernel), TsG_t (List.mem_of_getElem? (i := 1085) (by decide +kernel)) (by decide +kernel)⟩
theorem pk_X8_addRule : PkV yX8_addRule cX8_addRule 2 (some .int) 1 := ⟨⟨TsG_t (List.mem_of_getElem? (i := 1213) (by decide +kernel)) (by decide +kernel), in_X8, by decide +kernel, by decide +kernel, by decide +kernel⟩, TsG_t (List.mem_of_getElem? (i := 1211) (by decide +kernel)) (by decide +kernel), TsG_t (List.mem_of_getElem? (i := 1212) (by decide +kernel)) (by decide +kernel)⟩
theorem pk_X8_addTarget : PkV yX8_addTarget cX8_addTarget 2 (some .int) 1 := ⟨⟨TsG_t (List.mem_of_getElem? (i := 1082) (by decide +kernel)) (by decide +kernel), in_X8, by decide +kernel, by decide +kernel, by decide +kernel⟩, TsG_t (List.mem_of_getElem? (i := 1080) (by decide +kernel)) (by decide +kernel), TsG_t (List.mem_of_getElem? (i := 1081) (by decide +kernel)) (by decide +kernel)⟩
theorem pk_X8_affected : PkV yX8_affected cX8_affected 4 (some .int) 1 := ⟨⟨TsG_t (List.mem_of_getElem? (i := 1145) (by decide +kernel)) (by decide +kernel), in_X8, by decide +kernel, by decide +kernel, by decide +kernel⟩, TsG_t (List.mem_of_getElem? (i := 1144) (by decide +kernel)) (by decide +kernel), TsG_s (q := (yX8_affected, 27)) (List.mem_of_getElem? (i := 43) (by decide +kernel))⟩
theorem pk_X8_affectedBy : PkV yX8_affectedBy cX8_affectedBy 2 (some .int) 1 := ⟨⟨TsG_t (List.mem_of_getElem? (i := 1141) (by decide +kernel)) (by decide +kernel), in_X8, by decide +kernel, by decide +kernel, by decide +kernel⟩, TsG_t (List.mem_of_getElem? (i := 1139) (by decide +kernel)) (by decide +kernel), TsG_t (List.mem_of_getElem? (i := 1140) (by decide +kernel)) (by decide +kernel)⟩
theorem pk_X8_affectedByGoingDown : PkV yX8_affectedByGoingDown cX8_affectedByGoingDown 2 (some .int) 1 := ⟨⟨TsG_t (List.mem_of_getElem? (i := 1149) (by decide +kernel)) (by decide +kernel), in_X8, by decide +kernel, by decide +kernel, by decide +kernel⟩, TsG_t (List.mem_of_getElem? (i := 1147) (by decide +kernel)) (by decide +kernel), TsG_t (List.mem_of_getElem? (i := 1148) (by decide +kernel)) (by decide +kernel)⟩
theorem pk_X8_at : PkV yX8_at cX8_at 3 (some .int) 2 := ⟨⟨TsG_t (List.mem_of_getElem? (i := 1015) (by decide +kernel)) (by decide +kernel), in_X8, by decide +kernel, by decide +kernel, by decide +kernel⟩, TsG_t (List.mem_of_getElem? (i := 1014) (by decide +kernel)) (by decide +kernel), TsG_s (q := (yX8_at, 27)) (List.mem_of_getElem? (i := 27) (by decide +kernel))⟩
theorem pk_X8_begins : PkV yX8_begins cX8_begins 5 (some .int) 2 := ⟨⟨TsG_t (List.mem_of_getElem? (i := 1078) (by decide +kernel)) (by decide +kernel), in_X8, by decide +kernel, by decide +kernel, by decide +kernel⟩, TsG_t (List.mem_of_getElem? (i := 1077) (by decide +kernel)) (by decide +kernel), TsG_s (q := (yX8_begins, 27)) (List.mem_of_getElem? (i := 35) (by decide +kernel))⟩
theorem pk_X8_changed : PkV yX8_changed cX8_changed 3 (some .int) 0 := ⟨⟨TsG_t (List.mem_of_getElem? (i := 1229) (by decide +kernel)) (by decide +kernel), in_X8, by decide +kernel, by decide +kernel, by decide +kernel⟩, TsG_t (List.mem_of_getElem? (i := 1227) (by decide +kernel)) (by decide +kernel), TsG_t (List.mem_of_getElem? (i := 1228) (by decide +kernel)) (by decide +kernel)⟩
theorem pk_X8_clearText : PkV yX8_clearText cX8_clearText 2 (some .int) 0 := ⟨⟨TsG_t (List.mem_of_getElem? (i := 999) (by decide +kernel)) (by decide +kernel), in_X8, by decide +kernel, by decide +kernel, by decide +kernel⟩, TsG_t (List.mem_of_getElem? (i := 997) (by decide +kernel)) (by decide +kernel), TsG_t (List.mem_of_getElem? (i := 998) (by decide +kernel)) (by decide +kernel)⟩
theorem pk_X8_copies : PkV yX8_copies cX8_copies 3 none 1 := ⟨⟨TsG_t (List.mem_of_getElem? (i := 1094) (by decide +kernel)) (by decide +kernel), in_X8, by decide +kernel, by decide +kernel, by decide +kernel⟩, TsG_t (List.mem_of_getElem? (i := 1093) (by decide +kernel)) (by decide +kernel), TsG_s (q := (yX8_copies, 27)) (List.mem_of_getElem? (i := 37) (by decide +kernel))⟩
theorem pk_X8_count : PkS yX8_count cX8_count 3 (some .int) 1 := ⟨⟨TsG_t (List.mem_of_getElem? (i := 1105) (by decide +kernel)) (by decide +kernel), in_X8, by decide +kernel, by decide +kernel, by decide +kernel⟩, TsG_t (List.mem_of_getElem? (i := 1104) (by decide +kernel)) (by decide +kernel)⟩
theorem pk_X8_delete : PkV yX8_delete cX8_delete 2 (some .int) 1 := ⟨⟨TsG_t (List.mem_of_getElem? (i := 1050) (by decide +kernel)) (by decide +kernel), in_X8, by decide +kernel, by decide +kernel, by decide +kernel⟩, TsG_t (List.mem_of_getElem? (i := 1048) (by decide +kernel)) (by decide +kernel), TsG_t (List.mem_of_getElem? (i := 1049) (by decide +kernel)) (by decide +kernel)⟩
theorem pk_X8_depend : PkV yX8_depend cX8_depend 3 (some .int) 2 := ⟨⟨TsG_t (List.mem_of_getElem? (i := 1109) (by decide +kernel)) (by decide +kernel), in_X8, by decide +kernel, by decide +kernel, by decide +kernel⟩, TsG_t (List.mem_of_getElem? (i := 1107) (by decide +kernel)) (by decide +kernel), TsG_t (List.mem_of_getElem? (i := 1108) (by decide +kernel)) (by decide +kernel)⟩
theorem pk_X8_edit : PkV yX8_edit cX8_edit 4 (some .int) 2 := ⟨⟨TsG_t (List.mem_of_getElem? (i := 1042) (by decide +kernel)) (by decide +kernel), in_X8, by decide +kernel, by decide +kernel, by decide +kernel⟩, TsG_t (List.mem_of_getElem? (i := 1040) (by decide +kernel)) (by decide +kernel), TsG_t (List.mem_of_getElem? (i := 1041) (by decide +kernel)) (by decide +kernel)⟩
theorem pk_X8_endOf : PkV yX8_endOf cX8_endOf 4 (some .int) 2 := ⟨⟨TsG_t (List.mem_of_getElem? (i := 1066) (by decide +kernel)) (by decide +kernel), in_X8, by decide +kernel, by decide +kernel, by decide +kernel⟩, TsG_t (List.mem_of_getElem? (i := 1065) (by decide +kernel)) (by decide +kernel), TsG_s (q := (yX8_endOf, 27)) (List.mem_of_getElem? (i := 32) (by decide +kernel))⟩
theorem pk_X8_fileOf : PkV yX8_fileOf cX8_fileOf 5 (some .int) 0 := ⟨⟨TsG_t (List.mem_of_getElem? (i := 1034) (by decide +kernel)) (by decide +kernel), in_X8, by decide +kernel, by decide +kernel, by decide +kernel⟩, TsG_t (List.mem_of_getElem? (i := 1033) (by decide +kernel)) (by decide +kernel), TsG_s (q := (yX8_fileOf, 27)) (List.mem_of_getElem? (i := 29) (by decide +kernel))⟩
theorem pk_X8_files : PkV yX8_files cX8_files 3 (some .int) 0 := ⟨⟨TsG_t (List.mem_of_getElem? (i := 1054) (by decide +kernel)) (by decide +kernel), in_X8, by decide +kernel, by decide +kernel, by decide +kernel⟩, TsG_t (List.mem_of_getElem? (i := 1052) (by decide +kernel)) (by decide +kernel), TsG_t (List.mem_of_getElem? (i := 1053) (by decide +kernel)) (by decide +kernel)⟩
theorem pk_X8_findFile : PkV yX8_findFile cX8_findFile 1 (some .int) 0 := ⟨⟨TsG_t (List.mem_of_getElem? (i := 1038) (by decide +kernel)) (by decide +kernel), in_X8, by decide +kernel, by decide +kernel, by decide +kernel⟩, TsG_t (List.mem_of_getElem? (i := 1036) (by decide +kernel)) (by decide +kernel), TsG_t (List.mem_of_getElem? (i := 1037) (by decide +kernel)) (by decide +kernel)⟩
theorem pk_X8_given : PkV yX8_given cX8_given 7 (some .int) 1 := ⟨⟨TsG_t (List.mem_of_getElem? (i := 1161) (by decide +kernel)) (by decide +kernel), in_X8, by decide +kernel, by decide +kernel, by decide +kernel⟩, TsG_t (List.mem_of_getElem? (i := 1160) (by decide +kernel)) (by decide +kernel), TsG_s (q := (yX8_given, 27)) (List.mem_of_getElem? (i := 45) (by decide +kernel))⟩
theorem pk_X8_hasEmpty : PkV yX8_hasEmpty cX8_hasEmpty 3 (some .boolean) 0 := ⟨⟨TsG_t (List.mem_of_getElem? (i := 1011) (by decide +kernel)) (by decide +kernel), in_X8, by decide +kernel, by decide +kernel, by decide +kernel⟩, TsG_t (List.mem_of_getElem? (i := 1010) (by decide +kernel)) (by decide +kernel), TsG_s (q := (yX8_hasEmpty, 27)) (List.mem_of_getElem? (i := 26) (by decide +kernel))⟩
theorem pk_X8_hasInputs : PkV yX8_hasInputs cX8_hasInputs 5 (some .boolean) 2 := ⟨⟨TsG_t (List.mem_of_getElem? (i := 1165) (by decide +kernel)) (by decide +kernel), in_X8, by decide +kernel, by decide +kernel, by decide +kernel⟩, TsG_t (List.mem_of_getElem? (i := 1164) (by decide +kernel)) (by decide +kernel), TsG_s (q := (yX8_hasInputs, 27)) (List.mem_of_getElem? (i := 46) (by decide +kernel))⟩
theorem pk_X8_init : Pk yX8_init cX8_init 1 none 0 ∧ Cond.instanceMethod yX8_init ∈ TsG := ⟨⟨TsG_t (List.mem_of_getElem? (i := 903) (by decide +kernel)) (by decide +kernel), in_X8, by decide +kernel, by decide +kernel, by decide +kernel⟩, TsG_t (List.mem_of_getElem? (i := 902) (by decide +kernel)) (by decide +kernel)⟩
theorem pk_X8_inputs : PkV yX8_inputs cX8_inputs 2 (some .int) 1 := ⟨⟨TsG_t (List.mem_of_getElem? (i := 1125) (by decide +kernel)) (by decide +kernel), in_X8, by decide +kernel, by decide +kernel, by decide +kernel⟩, TsG_t (List.mem_of_getElem? (i := 1123) (by decide +kernel)) (by decide +kernel), TsG_t (List.mem_of_getElem? (i := 1124) (by decide +kernel)) (by decide +kernel)⟩
theorem pk_X8_inputsOf : PkV yX8_inputsOf cX8_inputsOf 4 (some .int) 1 := ⟨⟨TsG_t (List.mem_of_getElem? (i := 1098) (by decide +kernel)) (by decide +kernel), in_X8, by decide +kernel, by decide +kernel, by decide +kernel⟩, TsG_t (List.mem_of_getElem? (i := 1097) (by decide +kernel)) (by decide +kernel), TsG_s (q := (yX8_inputsOf, 27)) (List.mem_of_getElem? (i := 38) (by decide +kernel))⟩
theorem pk_X8_isChanged : PkV yX8_isChanged cX8_isChanged 2 (some .boolean) 1 := ⟨⟨TsG_t (List.mem_of_getElem? (i := 1233) (by decide +kernel)) (by decide +kernel), in_X8, by decide +kernel, by decide +kernel, by decide +kernel⟩, TsG_t (List.mem_of_getElem? (i := 1232) (by decide +kernel)) (by decide +kernel), TsG_s (q := (yX8_isChanged, 27)) (List.mem_of_getElem? (i := 51) (by decide +kernel))⟩
theorem pk_X8_isGlob : PkV yX8_isGlob cX8_isGlob 1 (some .boolean) 0 := ⟨⟨TsG_t (List.mem_of_getElem? (i := 1019) (by decide +kernel)) (by decide +kernel), in_X8, by decide +kernel, by decide +kernel, by decide +kernel⟩, TsG_t (List.mem_of_getElem? (i := 1017) (by decide +kernel)) (by decide +kernel), TsG_t (List.mem_of_getElem? (i := 1018) (by decide +kernel)) (by decide +kernel)⟩
theorem pk_X8_isGlobNow : PkV yX8_isGlobNow cX8_isGlobNow 4 (some .boolean) 0 := ⟨⟨TsG_t (List.mem_of_getElem? (i := 1023) (by decide +kernel)) (by decide +kernel), in_X8, by decide +kernel, by decide +kernel, by decide +kernel⟩, TsG_t (List.mem_of_getElem? (i := 1022) (by decide +kernel)) (by decide +kernel), TsG_s (q := (yX8_isGlobNow, 27)) (List.mem_of_getElem? (i := 28) (by decide +kernel))⟩
theorem pk_X8_isIn : PkS yX8_isIn cX8_isIn 3 (some .boolean) 3 := ⟨⟨TsG_t (List.mem_of_getElem? (i := 1030) (by decide +kernel)) (by decide +kernel), in_X8, by decide +kernel, by decide +kernel, by decide +kernel⟩, TsG_t (List.mem_of_getElem? (i := 1029) (by decide +kernel)) (by decide +kernel)⟩
theorem pk_X8_isLaid : PkV yX8_isLaid cX8_isLaid 14 (some .boolean) 6 := ⟨⟨TsG_t (List.mem_of_getElem? (i := 1074) (by decide +kernel)) (by decide +kernel), in_X8, by decide +kernel, by decide +kernel, by decide +kernel⟩, TsG_t (List.mem_of_getElem? (i := 1073) (by decide +kernel)) (by decide +kernel), TsG_s (q := (yX8_isLaid, 27)) (List.mem_of_getElem? (i := 34) (by decide +kernel))⟩
theorem pk_X8_isMatched : PkV yX8_isMatched cX8_isMatched 11 (some .boolean) 2 := ⟨⟨TsG_t (List.mem_of_getElem? (i := 1062) (by decide +kernel)) (by decide +kernel), in_X8, by decide +kernel, by decide +kernel, by decide +kernel⟩, TsG_t (List.mem_of_getElem? (i := 1061) (by decide +kernel)) (by decide +kernel), TsG_s (q := (yX8_isMatched, 27)) (List.mem_of_getElem? (i := 31) (by decide +kernel))⟩
theorem pk_X8_isPath : PkV yX8_isPath cX8_isPath 1 (some .boolean) 0 := ⟨⟨TsG_t (List.mem_of_getElem? (i := 1003) (by decide +kernel)) (by decide +kernel), in_X8, by decide +kernel, by decide +kernel, by decide +kernel⟩, TsG_t (List.mem_of_getElem? (i := 1001) (by decide +kernel)) (by decide +kernel), TsG_t (List.mem_of_getElem? (i := 1002) (by decide +kernel)) (by decide +kernel)⟩
theorem pk_X8_isPathNow : PkV yX8_isPathNow cX8_isPathNow 3 (some .boolean) 0 := ⟨⟨TsG_t (List.mem_of_getElem? (i := 1007) (by decide +kernel)) (by decide +kernel), in_X8, by decide +kernel, by decide +kernel, by decide +kernel⟩, TsG_t (List.mem_of_getElem? (i := 1006) (by decide +kernel)) (by decide +kernel), TsG_s (q := (yX8_isPathNow, 27)) (List.mem_of_getElem? (i := 25) (by decide +kernel))⟩
theorem pk_X8_isTarget : PkV yX8_isTarget cX8_isTarget 2 (some .boolean) 1 := ⟨⟨TsG_t (List.mem_of_getElem? (i := 1090) (by decide +kernel)) (by decide +kernel), in_X8, by decide +kernel, by decide +kernel, by decide +kernel⟩, TsG_t (List.mem_of_getElem? (i := 1089) (by decide +kernel)) (by decide +kernel), TsG_s (q := (yX8_isTarget, 27)) (List.mem_of_getElem? (i := 36) (by decide +kernel))⟩
theorem pk_X8_isThere : PkV yX8_isThere cX8_isThere 2 (some .boolean) 1 := ⟨⟨TsG_t (List.mem_of_getElem? (i := 1046) (by decide +kernel)) (by decide +kernel), in_X8, by decide +kernel, by decide +kernel, by decide +kernel⟩, TsG_t (List.mem_of_getElem? (i := 1045) (by decide +kernel)) (by decide +kernel), TsG_s (q := (yX8_isThere, 27)) (List.mem_of_getElem? (i := 30) (by decide +kernel))⟩
theorem pk_X8_keyOf : PkV yX8_keyOf cX8_keyOf 2 (some .int) 1 := ⟨⟨TsG_t (List.mem_of_getElem? (i := 1153) (by decide +kernel)) (by decide +kernel), in_X8, by decide +kernel, by decide +kernel, by decide +kernel⟩, TsG_t (List.mem_of_getElem? (i := 1151) (by decide +kernel)) (by decide +kernel), TsG_t (List.mem_of_getElem? (i := 1152) (by decide +kernel)) (by decide +kernel)⟩
theorem pk_X8_keys : PkV yX8_keys cX8_keys 1 (some .int) 0 := ⟨⟨TsG_t (List.mem_of_getElem? (i := 1193) (by decide +kernel)) (by decide +kernel), in_X8, by decide +kernel, by decide +kernel, by decide +kernel⟩, TsG_t (List.mem_of_getElem? (i := 1191) (by decide +kernel)) (by decide +kernel), TsG_t (List.mem_of_getElem? (i := 1192) (by decide +kernel)) (by decide +kernel)⟩
theorem pk_X8_laysKeys : PkV yX8_laysKeys cX8_laysKeys 5 none 0 := ⟨⟨TsG_t (List.mem_of_getElem? (i := 1157) (by decide +kernel)) (by decide +kernel), in_X8, by decide +kernel, by decide +kernel, by decide +kernel⟩, TsG_t (List.mem_of_getElem? (i := 1156) (by decide +kernel)) (by decide +kernel), TsG_s (q := (yX8_laysKeys, 27)) (List.mem_of_getElem? (i := 44) (by decide +kernel))⟩
theorem pk_X8_longestShard : PkV yX8_longestShard cX8_longestShard 2 (some .int) 1 := ⟨⟨TsG_t (List.mem_of_getElem? (i := 1205) (by decide +kernel)) (by decide +kernel), in_X8, by decide +kernel, by decide +kernel, by decide +kernel⟩, TsG_t (List.mem_of_getElem? (i := 1203) (by decide +kernel)) (by decide +kernel), TsG_t (List.mem_of_getElem? (i := 1204) (by decide +kernel)) (by decide +kernel)⟩
theorem pk_X8_mark : PkV yX8_mark cX8_mark 3 (some .int) 0 := ⟨⟨TsG_t (List.mem_of_getElem? (i := 1225) (by decide +kernel)) (by decide +kernel), in_X8, by decide +kernel, by decide +kernel, by decide +kernel⟩, TsG_t (List.mem_of_getElem? (i := 1223) (by decide +kernel)) (by decide +kernel), TsG_t (List.mem_of_getElem? (i := 1224) (by decide +kernel)) (by decide +kernel)⟩
theorem pk_X8_matches : PkV yX8_matches cX8_matches 2 (some .boolean) 1 := ⟨⟨TsG_t (List.mem_of_getElem? (i := 1058) (by decide +kernel)) (by decide +kernel), in_X8, by decide +kernel, by decide +kernel, by decide +kernel⟩, TsG_t (List.mem_of_getElem? (i := 1056) (by decide +kernel)) (by decide +kernel), TsG_t (List.mem_of_getElem? (i := 1057) (by decide +kernel)) (by decide +kernel)⟩
theorem pk_X8_needed : PkV yX8_needed cX8_needed 1 (some .int) 0 := ⟨⟨TsG_t (List.mem_of_getElem? (i := 1169) (by decide +kernel)) (by decide +kernel), in_X8, by decide +kernel, by decide +kernel, by decide +kernel⟩, TsG_t (List.mem_of_getElem? (i := 1167) (by decide +kernel)) (by decide +kernel), TsG_t (List.mem_of_getElem? (i := 1168) (by decide +kernel)) (by decide +kernel)⟩
theorem pk_X8_neededNow : PkV yX8_neededNow cX8_neededNow 3 (some .int) 0 := ⟨⟨TsG_t (List.mem_of_getElem? (i := 1173) (by decide +kernel)) (by decide +kernel), in_X8, by decide +kernel, by decide +kernel, by decide +kernel⟩, TsG_t (List.mem_of_getElem? (i := 1172) (by decide +kernel)) (by decide +kernel), TsG_s (q := (yX8_neededNow, 27)) (List.mem_of_getElem? (i := 47) (by decide +kernel))⟩
theorem pk_X8_orderAt : PkV yX8_orderAt cX8_orderAt 2 (some .int) 1 := ⟨⟨TsG_t (List.mem_of_getElem? (i := 1133) (by decide +kernel)) (by decide +kernel), in_X8, by decide +kernel, by decide +kernel, by decide +kernel⟩, TsG_t (List.mem_of_getElem? (i := 1131) (by decide +kernel)) (by decide +kernel), TsG_t (List.mem_of_getElem? (i := 1132) (by decide +kernel)) (by decide +kernel)⟩
theorem pk_X8_orders : PkV yX8_orders cX8_orders 5 none 0 := ⟨⟨TsG_t (List.mem_of_getElem? (i := 1137) (by decide +kernel)) (by decide +kernel), in_X8, by decide +kernel, by decide +kernel, by decide +kernel⟩, TsG_t (List.mem_of_getElem? (i := 1136) (by decide +kernel)) (by decide +kernel), TsG_s (q := (yX8_orders, 27)) (List.mem_of_getElem? (i := 42) (by decide +kernel))⟩
theorem pk_X8_ownerNow : PkV yX8_ownerNow cX8_ownerNow 4 (some .int) 1 := ⟨⟨TsG_t (List.mem_of_getElem? (i := 1221) (by decide +kernel)) (by decide +kernel), in_X8, by decide +kernel, by decide +kernel, by decide +kernel⟩, TsG_t (List.mem_of_getElem? (i := 1220) (by decide +kernel)) (by decide +kernel), TsG_s (q := (yX8_ownerNow, 27)) (List.mem_of_getElem? (i := 50) (by decide +kernel))⟩
theorem pk_X8_ownerOf : PkV yX8_ownerOf cX8_ownerOf 2 (some .int) 1 := ⟨⟨TsG_t (List.mem_of_getElem? (i := 1217) (by decide +kernel)) (by decide +kernel), in_X8, by decide +kernel, by decide +kernel, by decide +kernel⟩, TsG_t (List.mem_of_getElem? (i := 1215) (by decide +kernel)) (by decide +kernel), TsG_t (List.mem_of_getElem? (i := 1216) (by decide +kernel)) (by decide +kernel)⟩
theorem pk_X8_pathAt : PkV yX8_pathAt cX8_pathAt 3 (some .int) 2 := ⟨⟨TsG_t (List.mem_of_getElem? (i := 1070) (by decide +kernel)) (by decide +kernel), in_X8, by decide +kernel, by decide +kernel, by decide +kernel⟩, TsG_t (List.mem_of_getElem? (i := 1069) (by decide +kernel)) (by decide +kernel), TsG_s (q := (yX8_pathAt, 27)) (List.mem_of_getElem? (i := 33) (by decide +kernel))⟩
theorem pk_X8_reviewers : PkV yX8_reviewers cX8_reviewers 4 (some .int) 0 := ⟨⟨TsG_t (List.mem_of_getElem? (i := 1237) (by decide +kernel)) (by decide +kernel), in_X8, by decide +kernel, by decide +kernel, by decide +kernel⟩, TsG_t (List.mem_of_getElem? (i := 1235) (by decide +kernel)) (by decide +kernel), TsG_t (List.mem_of_getElem? (i := 1236) (by decide +kernel)) (by decide +kernel)⟩
theorem pk_X8_run : PkV yX8_run cX8_run 3 (some .int) 1 := ⟨⟨TsG_t (List.mem_of_getElem? (i := 1181) (by decide +kernel)) (by decide +kernel), in_X8, by decide +kernel, by decide +kernel, by decide +kernel⟩, TsG_t (List.mem_of_getElem? (i := 1179) (by decide +kernel)) (by decide +kernel), TsG_t (List.mem_of_getElem? (i := 1180) (by decide +kernel)) (by decide +kernel)⟩
theorem pk_X8_runAll : PkV yX8_runAll cX8_runAll 3 (some .int) 0 := ⟨⟨TsG_t (List.mem_of_getElem? (i := 1189) (by decide +kernel)) (by decide +kernel), in_X8, by decide +kernel, by decide +kernel, by decide +kernel⟩, TsG_t (List.mem_of_getElem? (i := 1187) (by decide +kernel)) (by decide +kernel), TsG_t (List.mem_of_getElem? (i := 1188) (by decide +kernel)) (by decide +kernel)⟩
theorem pk_X8_runs : PkV yX8_runs cX8_runs 3 none 1 := ⟨⟨TsG_t (List.mem_of_getElem? (i := 1185) (by decide +kernel)) (by decide +kernel), in_X8, by decide +kernel, by decide +kernel, by decide +kernel⟩, TsG_t (List.mem_of_getElem? (i := 1184) (by decide +kernel)) (by decide +kernel), TsG_s (q := (yX8_runs, 27)) (List.mem_of_getElem? (i := 48) (by decide +kernel))⟩
theorem pk_X8_shardOf : PkV yX8_shardOf cX8_shardOf 3 (some .int) 2 := ⟨⟨TsG_t (List.mem_of_getElem? (i := 1197) (by decide +kernel)) (by decide +kernel), in_X8, by decide +kernel, by decide +kernel, by decide +kernel⟩, TsG_t (List.mem_of_getElem? (i := 1195) (by decide +kernel)) (by decide +kernel), TsG_t (List.mem_of_getElem? (i := 1196) (by decide +kernel)) (by decide +kernel)⟩
theorem pk_X8_shardsFor : PkV yX8_shardsFor cX8_shardsFor 4 (some .int) 1 := ⟨⟨TsG_t (List.mem_of_getElem? (i := 1209) (by decide +kernel)) (by decide +kernel), in_X8, by decide +kernel, by decide +kernel, by decide +kernel⟩, TsG_t (List.mem_of_getElem? (i := 1207) (by decide +kernel)) (by decide +kernel), TsG_t (List.mem_of_getElem? (i := 1208) (by decide +kernel)) (by decide +kernel)⟩
theorem pk_X8_spreads : PkV yX8_spreads cX8_spreads 7 (some .int) 1 := ⟨⟨TsG_t (List.mem_of_getElem? (i := 1201) (by decide +kernel)) (by decide +kernel), in_X8, by decide +kernel, by decide +kernel, by decide +kernel⟩, TsG_t (List.mem_of_getElem? (i := 1200) (by decide +kernel)) (by decide +kernel), TsG_s (q := (yX8_spreads, 27)) (List.mem_of_getElem? (i := 49) (by decide +kernel))⟩
theorem pk_X8_takes : PkV yX8_takes cX8_takes 5 (some .boolean) 2 := ⟨⟨TsG_t (List.mem_of_getElem? (i := 1102) (by decide +kernel)) (by decide +kernel), in_X8, by decide +kernel, by decide +kernel, by decide +kernel⟩, TsG_t (List.mem_of_getElem? (i := 1101) (by decide +kernel)) (by decide +kernel), TsG_s (q := (yX8_takes, 27)) (List.mem_of_getElem? (i := 39) (by decide +kernel))⟩
theorem pk_X8_targets : PkV yX8_targets cX8_targets 1 (some .int) 0 := ⟨⟨TsG_t (List.mem_of_getElem? (i := 1121) (by decide +kernel)) (by decide +kernel), in_X8, by decide +kernel, by decide +kernel, by decide +kernel⟩, TsG_t (List.mem_of_getElem? (i := 1119) (by decide +kernel)) (by decide +kernel), TsG_t (List.mem_of_getElem? (i := 1120) (by decide +kernel)) (by decide +kernel)⟩
theorem pk_X8_thrown : PkV yX8_thrown cX8_thrown 1 (some .int) 0 := ⟨⟨TsG_t (List.mem_of_getElem? (i := 991) (by decide +kernel)) (by decide +kernel), in_X8, by decide +kernel, by decide +kernel, by decide +kernel⟩, TsG_t (List.mem_of_getElem? (i := 989) (by decide +kernel)) (by decide +kernel), TsG_t (List.mem_of_getElem? (i := 990) (by decide +kernel)) (by decide +kernel)⟩
theorem pk_X8_type : PkV yX8_type cX8_type 3 (some .int) 1 := ⟨⟨TsG_t (List.mem_of_getElem? (i := 995) (by decide +kernel)) (by decide +kernel), in_X8, by decide +kernel, by decide +kernel, by decide +kernel⟩, TsG_t (List.mem_of_getElem? (i := 993) (by decide +kernel)) (by decide +kernel), TsG_t (List.mem_of_getElem? (i := 994) (by decide +kernel)) (by decide +kernel)⟩
theorem pk_X8_upwards : PkV yX8_upwards cX8_upwards 5 (some .int) 1 := ⟨⟨TsG_t (List.mem_of_getElem? (i := 1117) (by decide +kernel)) (by decide +kernel), in_X8, by decide +kernel, by decide +kernel, by decide +kernel⟩, TsG_t (List.mem_of_getElem? (i := 1116) (by decide +kernel)) (by decide +kernel), TsG_s (q := (yX8_upwards, 27)) (List.mem_of_getElem? (i := 41) (by decide +kernel))⟩
theorem pk_X8_whyRun : PkV yX8_whyRun cX8_whyRun 2 (some .int) 1 := ⟨⟨TsG_t (List.mem_of_getElem? (i := 1177) (by decide +kernel)) (by decide +kernel), in_X8, by decide +kernel, by decide +kernel, by decide +kernel⟩, TsG_t (List.mem_of_getElem? (i := 1175) (by decide +kernel)) (by decide +kernel), TsG_t (List.mem_of_getElem? (i := 1176) (by decide +kernel)) (by decide +kernel)⟩
theorem shk_4 : shp 4 = 6 := by decide +kernel
theorem lnk_4 : ln 4 = 24 := by decide +kernel
theorem shk_5 : shp 5 = 3 := by decide +kernel
theorem lnk_5 : ln 5 = 24 := by decide +kernel
theorem shk_6 : shp 6 = 3 := by decide +kernel
theorem lnk_6 : ln 6 = 24 := by decide +kernel
theorem shk_56 : shp 56 = 3 := by decide +kernel
theorem lnk_56 : ln 56 = 16 := by decide +kernel
theorem shk_57 : shp 57 = 3 := by decide +kernel
theorem lnk_57 : ln 57 = 16 := by decide +kernel
theorem shk_58 : shp 58 = 8 := by decide +kernel
theorem lnk_58 : ln 58 = 16 := by decide +kernel
theorem shk_59 : shp 59 = 3 := by decide +kernel
theorem lnk_59 : ln 59 = 16 := by decide +kernel
theorem shk_237 : shp 237 = 12 := by decide +kernel
theorem lnk_237 : ln 237 = 201 := by decide +kernel
theorem shk_439 : shp 439 = 3 := by decide +kernel
theorem lnk_439 : ln 439 = 201 := by decide +kernel
theorem shk_440 : shp 440 = 3 := by decide +kernel
theorem lnk_440 : ln 440 = 16 := by decide +kernel
theorem shk_441 : shp 441 = 3 := by decide +kernel
theorem lnk_441 : ln 441 = 16 := by decide +kernel
theorem shk_442 : shp 442 = 3 := by decide +kernel
theorem lnk_442 : ln 442 = 40 := by decide +kernel
theorem shk_444 : shp 444 = 3 := by decide +kernel
theorem lnk_444 : ln 444 = 8 := by decide +kernel
theorem shk_445 : shp 445 = 3 := by decide +kernel
theorem lnk_445 : ln 445 = 16 := by decide +kernel
theorem shk_474 : shp 474 = 3 := by decide +kernel
theorem lnk_474 : ln 474 = 12 := by decide +kernel
theorem shk_476 : shp 476 = 19 := by decide +kernel
theorem lnk_476 : ln 476 = 1848 := by decide +kernel
theorem shk_477 : shp 477 = 19 := by decide +kernel
theorem lnk_477 : ln 477 = 77 := by decide +kernel
theorem shk_478 : shp 478 = 19 := by decide +kernel
theorem lnk_478 : ln 478 = 576 := by decide +kernel
theorem shk_479 : shp 479 = 19 := by decide +kernel
theorem lnk_479 : ln 479 = 24 := by decide +kernel
theorem shk_480 : shp 480 = 17 := by decide +kernel
theorem lnk_480 : ln 480 = 24 := by decide +kernel
theorem shk_481 : shp 481 = 19 := by decide +kernel
theorem lnk_481 : ln 481 = 24 := by decide +kernel
theorem shk_482 : shp 482 = 17 := by decide +kernel
theorem lnk_482 : ln 482 = 24 := by decide +kernel
theorem shk_483 : shp 483 = 19 := by decide +kernel
theorem lnk_483 : ln 483 = 24 := by decide +kernel
theorem shk_484 : shp 484 = 19 := by decide +kernel
theorem lnk_484 : ln 484 = 16 := by decide +kernel
theorem shk_485 : shp 485 = 19 := by decide +kernel
theorem lnk_485 : ln 485 = 16 := by decide +kernel
theorem shk_486 : shp 486 = 19 := by decide +kernel
theorem lnk_486 : ln 486 = 16 := by decide +kernel
theorem shk_487 : shp 487 = 19 := by decide +kernel
theorem lnk_487 : ln 487 = 16 := by decide +kernel
theorem shk_488 : shp 488 = 19 := by decide +kernel
theorem lnk_488 : ln 488 = 12 := by decide +kernel
theorem shk_489 : shp 489 = 19 := by decide +kernel
theorem lnk_489 : ln 489 = 200 := by decide +kernel
theorem shk_490 : shp 490 = 19 := by decide +kernel
theorem lnk_490 : ln 490 = 200 := by decide +kernel
theorem shk_491 : shp 491 = 19 := by decide +kernel
theorem lnk_491 : ln 491 = 200 := by decide +kernel
theorem shk_492 : shp 492 = 19 := by decide +kernel
theorem lnk_492 : ln 492 = 4800 := by decide +kernel
theorem shk_493 : shp 493 = 19 := by decide +kernel
theorem lnk_493 : ln 493 = 3200 := by decide +kernel
theorem shk_494 : shp 494 = 19 := by decide +kernel
theorem lnk_494 : ln 494 = 16 := by decide +kernel
theorem shk_495 : shp 495 = 19 := by decide +kernel
theorem lnk_495 : ln 495 = 16 := by decide +kernel
theorem shk_496 : shp 496 = 19 := by decide +kernel
theorem lnk_496 : ln 496 = 8 := by decide +kernel
theorem shk_497 : shp 497 = 19 := by decide +kernel
theorem lnk_497 : ln 497 = 16 := by decide +kernel
theorem shk_498 : shp 498 = 18 := by decide +kernel
theorem lnk_498 : ln 498 = 1 := by decide +kernel
theorem shk_1 : shp 1 = 1 := by decide +kernel
theorem shk_447 : shp 447 = 9 := by decide +kernel
theorem shk_0 : shp 0 = 4 := by decide +kernel
theorem shk_3 : shp 3 = 5 := by decide +kernel
theorem shk_55 : shp 55 = 7 := by decide +kernel
theorem shk_236 : shp 236 = 11 := by decide +kernel
theorem shk_443 : shp 443 = 13 := by decide +kernel
theorem shk_446 : shp 446 = 14 := by decide +kernel
theorem shk_475 : shp 475 = 16 := by decide +kernel
theorem iw_X0 : ∀ w ∈ u_ws RX0 TX0 6, w ∈ TsG := by
  intro w hw
  exact TsG_of ((by decide +kernel : ∀ w ∈ u_ws RX0 TX0 6, w ∈ lw_tbl) w hw) ((by decide +kernel : ∀ w ∈ u_ws RX0 TX0 6, goodWord w = true) w hw)
theorem iw_X1 : ∀ w ∈ u_ws RX1 TX1 4, w ∈ TsG := by
  intro w hw
  exact TsG_of ((by decide +kernel : ∀ w ∈ u_ws RX1 TX1 4, w ∈ lw_tbl) w hw) ((by decide +kernel : ∀ w ∈ u_ws RX1 TX1 4, goodWord w = true) w hw)
theorem iw_X2 : ∀ w ∈ u_ws RX2 TX2 5, w ∈ TsG := by
  intro w hw
  exact TsG_of ((by decide +kernel : ∀ w ∈ u_ws RX2 TX2 5, w ∈ lw_tbl) w hw) ((by decide +kernel : ∀ w ∈ u_ws RX2 TX2 5, goodWord w = true) w hw)
theorem iw_X3 : ∀ w ∈ u_ws RX3 TX3 8, w ∈ TsG := by
  intro w hw
  exact TsG_of ((by decide +kernel : ∀ w ∈ u_ws RX3 TX3 8, w ∈ lw_tbl) w hw) ((by decide +kernel : ∀ w ∈ u_ws RX3 TX3 8, goodWord w = true) w hw)
theorem iw_X4 : ∀ w ∈ u_ws RX4 TX4 2, w ∈ TsG := by
  intro w hw
  exact TsG_of ((by decide +kernel : ∀ w ∈ u_ws RX4 TX4 2, w ∈ lw_tbl) w hw) ((by decide +kernel : ∀ w ∈ u_ws RX4 TX4 2, goodWord w = true) w hw)
theorem iw_X5 : ∀ w ∈ u_ws RX5 TX5 2, w ∈ TsG := by
  intro w hw
  exact TsG_of ((by decide +kernel : ∀ w ∈ u_ws RX5 TX5 2, w ∈ lw_tbl) w hw) ((by decide +kernel : ∀ w ∈ u_ws RX5 TX5 2, goodWord w = true) w hw)
theorem iw_X6 : ∀ w ∈ u_ws RX6 TX6 2, w ∈ TsG := by
  intro w hw
  exact TsG_of ((by decide +kernel : ∀ w ∈ u_ws RX6 TX6 2, w ∈ lw_tbl) w hw) ((by decide +kernel : ∀ w ∈ u_ws RX6 TX6 2, goodWord w = true) w hw)
theorem iw_X7 : ∀ w ∈ u_ws RX7 TX7 6, w ∈ TsG := by
  intro w hw
  exact TsG_of ((by decide +kernel : ∀ w ∈ u_ws RX7 TX7 6, w ∈ lw_tbl) w hw) ((by decide +kernel : ∀ w ∈ u_ws RX7 TX7 6, goodWord w = true) w hw)
theorem iw_X8 : ∀ w ∈ u_ws RX8 TX8 27, w ∈ TsG := by
  intro w hw
  exact TsG_of ((by decide +kernel : ∀ w ∈ u_ws RX8 TX8 27, w ∈ lw_tbl) w hw) ((by decide +kernel : ∀ w ∈ u_ws RX8 TX8 27, goodWord w = true) w hw)
