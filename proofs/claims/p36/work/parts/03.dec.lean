theorem dX0_init_0 : decode cX0_init 0 = .ok (.aload_n 0, 1) := by decide +kernel
theorem dX0_init_1 : decode cX0_init 1 = .ok (.invokespecial 3, 3) := by decide +kernel
theorem dX0_init_4 : decode cX0_init 4 = .ok (.aload_n 0, 1) := by decide +kernel
theorem dX0_init_5 : decode cX0_init 5 = .ok (.bipush 24, 2) := by decide +kernel
theorem dX0_init_7 : decode cX0_init 7 = .ok (.anewarray 9, 3) := by decide +kernel
theorem dX0_init_10 : decode cX0_init 10 = .ok (.putfield 11, 3) := by decide +kernel
theorem dX0_init_13 : decode cX0_init 13 = .ok (.aload_n 0, 1) := by decide +kernel
theorem dX0_init_14 : decode cX0_init 14 = .ok (.bipush 24, 2) := by decide +kernel
theorem dX0_init_16 : decode cX0_init 16 = .ok (.newarray .int, 2) := by decide +kernel
theorem dX0_init_18 : decode cX0_init 18 = .ok (.putfield 17, 3) := by decide +kernel
theorem dX0_init_21 : decode cX0_init 21 = .ok (.aload_n 0, 1) := by decide +kernel
theorem dX0_init_22 : decode cX0_init 22 = .ok (.bipush 24, 2) := by decide +kernel
theorem dX0_init_24 : decode cX0_init 24 = .ok (.newarray .int, 2) := by decide +kernel
theorem dX0_init_26 : decode cX0_init 26 = .ok (.putfield 21, 3) := by decide +kernel
theorem dX0_init_29 : decode cX0_init 29 = .ok (.iconst 0, 1) := by decide +kernel
theorem dX0_init_30 : decode cX0_init 30 = .ok (.istore_n 1, 1) := by decide +kernel
theorem dX0_init_31 : decode cX0_init 31 = .ok (.iload_n 1, 1) := by decide +kernel
theorem dX0_init_32 : decode cX0_init 32 = .ok (.bipush 24, 2) := by decide +kernel
theorem dX0_init_34 : decode cX0_init 34 = .ok (.if_icmp .ge 22, 3) := by decide +kernel
theorem dX0_init_37 : decode cX0_init 37 = .ok (.aload_n 0, 1) := by decide +kernel
theorem dX0_init_38 : decode cX0_init 38 = .ok (.getfield 11, 3) := by decide +kernel
theorem dX0_init_41 : decode cX0_init 41 = .ok (.iload_n 1, 1) := by decide +kernel
theorem dX0_init_42 : decode cX0_init 42 = .ok (.new 9, 3) := by decide +kernel
theorem dX0_init_45 : decode cX0_init 45 = .ok (.dup, 1) := by decide +kernel
theorem dX0_init_46 : decode cX0_init 46 = .ok (.invokespecial 24, 3) := by decide +kernel
theorem dX0_init_49 : decode cX0_init 49 = .ok (.aastore, 1) := by decide +kernel
theorem dX0_init_50 : decode cX0_init 50 = .ok (.iinc 1 1, 3) := by decide +kernel
theorem dX0_init_53 : decode cX0_init 53 = .ok (.goto (-22), 3) := by decide +kernel
theorem dX0_init_56 : decode cX0_init 56 = .ok (.return_, 1) := by decide +kernel
theorem dX0_has_0 : decode cX0_has 0 = .ok (.iload_n 1, 1) := by decide +kernel
theorem dX0_has_1 : decode cX0_has 1 = .ok (.ifCond .lt 15, 3) := by decide +kernel
theorem dX0_has_4 : decode cX0_has 4 = .ok (.iload_n 1, 1) := by decide +kernel
theorem dX0_has_5 : decode cX0_has 5 = .ok (.aload_n 0, 1) := by decide +kernel
theorem dX0_has_6 : decode cX0_has 6 = .ok (.getfield 25, 3) := by decide +kernel
theorem dX0_has_9 : decode cX0_has 9 = .ok (.if_icmp .ge 7, 3) := by decide +kernel
theorem dX0_has_12 : decode cX0_has 12 = .ok (.iconst 1, 1) := by decide +kernel
theorem dX0_has_13 : decode cX0_has 13 = .ok (.goto 4, 3) := by decide +kernel
theorem dX0_has_16 : decode cX0_has 16 = .ok (.iconst 0, 1) := by decide +kernel
theorem dX0_has_17 : decode cX0_has 17 = .ok (.ireturn, 1) := by decide +kernel
theorem dX0_isThere_0 : decode cX0_isThere 0 = .ok (.aload_n 0, 1) := by decide +kernel
theorem dX0_isThere_1 : decode cX0_isThere 1 = .ok (.iload_n 1, 1) := by decide +kernel
theorem dX0_isThere_2 : decode cX0_isThere 2 = .ok (.invokevirtual 29, 3) := by decide +kernel
theorem dX0_isThere_5 : decode cX0_isThere 5 = .ok (.ifCond .eq 18, 3) := by decide +kernel
theorem dX0_isThere_8 : decode cX0_isThere 8 = .ok (.aload_n 0, 1) := by decide +kernel
theorem dX0_isThere_9 : decode cX0_isThere 9 = .ok (.getfield 33, 3) := by decide +kernel
theorem dX0_isThere_12 : decode cX0_isThere 12 = .ok (.iload_n 1, 1) := by decide +kernel
theorem dX0_isThere_13 : decode cX0_isThere 13 = .ok (.invokestatic 36, 3) := by decide +kernel
theorem dX0_isThere_16 : decode cX0_isThere 16 = .ok (.ifCond .eq 7, 3) := by decide +kernel
theorem dX0_isThere_19 : decode cX0_isThere 19 = .ok (.iconst 1, 1) := by decide +kernel
theorem dX0_isThere_20 : decode cX0_isThere 20 = .ok (.goto 4, 3) := by decide +kernel
theorem dX0_isThere_23 : decode cX0_isThere 23 = .ok (.iconst 0, 1) := by decide +kernel
theorem dX0_isThere_24 : decode cX0_isThere 24 = .ok (.ireturn, 1) := by decide +kernel
theorem dX0_isFull_0 : decode cX0_isFull 0 = .ok (.aload_n 0, 1) := by decide +kernel
theorem dX0_isFull_1 : decode cX0_isFull 1 = .ok (.getfield 25, 3) := by decide +kernel
theorem dX0_isFull_4 : decode cX0_isFull 4 = .ok (.bipush 24, 2) := by decide +kernel
theorem dX0_isFull_6 : decode cX0_isFull 6 = .ok (.if_icmp .lt 7, 3) := by decide +kernel
theorem dX0_isFull_9 : decode cX0_isFull 9 = .ok (.iconst 1, 1) := by decide +kernel
theorem dX0_isFull_10 : decode cX0_isFull 10 = .ok (.goto 4, 3) := by decide +kernel
theorem dX0_isFull_13 : decode cX0_isFull 13 = .ok (.iconst 0, 1) := by decide +kernel
theorem dX0_isFull_14 : decode cX0_isFull 14 = .ok (.ireturn, 1) := by decide +kernel
theorem dX0_present_0 : decode cX0_present 0 = .ok (.aload_n 0, 1) := by decide +kernel
theorem dX0_present_1 : decode cX0_present 1 = .ok (.getfield 33, 3) := by decide +kernel
theorem dX0_present_4 : decode cX0_present 4 = .ok (.ireturn, 1) := by decide +kernel
theorem dX0_pathOf_0 : decode cX0_pathOf 0 = .ok (.aload_n 0, 1) := by decide +kernel
theorem dX0_pathOf_1 : decode cX0_pathOf 1 = .ok (.getfield 11, 3) := by decide +kernel
theorem dX0_pathOf_4 : decode cX0_pathOf 4 = .ok (.iload_n 1, 1) := by decide +kernel
theorem dX0_pathOf_5 : decode cX0_pathOf 5 = .ok (.aaload, 1) := by decide +kernel
theorem dX0_pathOf_6 : decode cX0_pathOf 6 = .ok (.areturn, 1) := by decide +kernel
theorem dX0_contentOf_0 : decode cX0_contentOf 0 = .ok (.aload_n 0, 1) := by decide +kernel
theorem dX0_contentOf_1 : decode cX0_contentOf 1 = .ok (.getfield 17, 3) := by decide +kernel
theorem dX0_contentOf_4 : decode cX0_contentOf 4 = .ok (.iload_n 1, 1) := by decide +kernel
theorem dX0_contentOf_5 : decode cX0_contentOf 5 = .ok (.iaload, 1) := by decide +kernel
theorem dX0_contentOf_6 : decode cX0_contentOf 6 = .ok (.ireturn, 1) := by decide +kernel
theorem dX0_numberOf_0 : decode cX0_numberOf 0 = .ok (.iconst 0, 1) := by decide +kernel
theorem dX0_numberOf_1 : decode cX0_numberOf 1 = .ok (.istore_n 2, 1) := by decide +kernel
theorem dX0_numberOf_2 : decode cX0_numberOf 2 = .ok (.iload_n 2, 1) := by decide +kernel
theorem dX0_numberOf_3 : decode cX0_numberOf 3 = .ok (.aload_n 0, 1) := by decide +kernel
theorem dX0_numberOf_4 : decode cX0_numberOf 4 = .ok (.getfield 25, 3) := by decide +kernel
theorem dX0_numberOf_7 : decode cX0_numberOf 7 = .ok (.if_icmp .ge 24, 3) := by decide +kernel
theorem dX0_numberOf_10 : decode cX0_numberOf 10 = .ok (.aload_n 0, 1) := by decide +kernel
theorem dX0_numberOf_11 : decode cX0_numberOf 11 = .ok (.getfield 11, 3) := by decide +kernel
theorem dX0_numberOf_14 : decode cX0_numberOf 14 = .ok (.iload_n 2, 1) := by decide +kernel
theorem dX0_numberOf_15 : decode cX0_numberOf 15 = .ok (.aaload, 1) := by decide +kernel
theorem dX0_numberOf_16 : decode cX0_numberOf 16 = .ok (.aload_n 1, 1) := by decide +kernel
theorem dX0_numberOf_17 : decode cX0_numberOf 17 = .ok (.invokevirtual 40, 3) := by decide +kernel
theorem dX0_numberOf_20 : decode cX0_numberOf 20 = .ok (.ifCond .eq 5, 3) := by decide +kernel
theorem dX0_numberOf_23 : decode cX0_numberOf 23 = .ok (.iload_n 2, 1) := by decide +kernel
theorem dX0_numberOf_24 : decode cX0_numberOf 24 = .ok (.ireturn, 1) := by decide +kernel
theorem dX0_numberOf_25 : decode cX0_numberOf 25 = .ok (.iinc 2 1, 3) := by decide +kernel
theorem dX0_numberOf_28 : decode cX0_numberOf 28 = .ok (.goto (-26), 3) := by decide +kernel
theorem dX0_numberOf_31 : decode cX0_numberOf 31 = .ok (.iconst (-1), 1) := by decide +kernel
theorem dX0_numberOf_32 : decode cX0_numberOf 32 = .ok (.ireturn, 1) := by decide +kernel
theorem dX0_addPath_0 : decode cX0_addPath 0 = .ok (.aload_n 0, 1) := by decide +kernel
theorem dX0_addPath_1 : decode cX0_addPath 1 = .ok (.getfield 25, 3) := by decide +kernel
theorem dX0_addPath_4 : decode cX0_addPath 4 = .ok (.istore_n 2, 1) := by decide +kernel
theorem dX0_addPath_5 : decode cX0_addPath 5 = .ok (.aload_n 0, 1) := by decide +kernel
theorem dX0_addPath_6 : decode cX0_addPath 6 = .ok (.getfield 11, 3) := by decide +kernel
theorem dX0_addPath_9 : decode cX0_addPath 9 = .ok (.iload_n 2, 1) := by decide +kernel
theorem dX0_addPath_10 : decode cX0_addPath 10 = .ok (.aaload, 1) := by decide +kernel
theorem dX0_addPath_11 : decode cX0_addPath 11 = .ok (.aload_n 1, 1) := by decide +kernel
theorem dX0_addPath_12 : decode cX0_addPath 12 = .ok (.invokevirtual 44, 3) := by decide +kernel
theorem dX0_addPath_15 : decode cX0_addPath 15 = .ok (.aload_n 0, 1) := by decide +kernel
theorem dX0_addPath_16 : decode cX0_addPath 16 = .ok (.dup, 1) := by decide +kernel
theorem dX0_addPath_17 : decode cX0_addPath 17 = .ok (.getfield 25, 3) := by decide +kernel
theorem dX0_addPath_20 : decode cX0_addPath 20 = .ok (.iconst 1, 1) := by decide +kernel
theorem dX0_addPath_21 : decode cX0_addPath 21 = .ok (.iadd, 1) := by decide +kernel
theorem dX0_addPath_22 : decode cX0_addPath 22 = .ok (.putfield 25, 3) := by decide +kernel
theorem dX0_addPath_25 : decode cX0_addPath 25 = .ok (.iload_n 2, 1) := by decide +kernel
theorem dX0_addPath_26 : decode cX0_addPath 26 = .ok (.ireturn, 1) := by decide +kernel
theorem dX0_put_0 : decode cX0_put 0 = .ok (.aload_n 0, 1) := by decide +kernel
theorem dX0_put_1 : decode cX0_put 1 = .ok (.getfield 17, 3) := by decide +kernel
theorem dX0_put_4 : decode cX0_put 4 = .ok (.iload_n 1, 1) := by decide +kernel
theorem dX0_put_5 : decode cX0_put 5 = .ok (.iload_n 2, 1) := by decide +kernel
theorem dX0_put_6 : decode cX0_put 6 = .ok (.iastore, 1) := by decide +kernel
theorem dX0_put_7 : decode cX0_put 7 = .ok (.aload_n 0, 1) := by decide +kernel
theorem dX0_put_8 : decode cX0_put 8 = .ok (.dup, 1) := by decide +kernel
theorem dX0_put_9 : decode cX0_put 9 = .ok (.getfield 33, 3) := by decide +kernel
theorem dX0_put_12 : decode cX0_put 12 = .ok (.iconst 1, 1) := by decide +kernel
theorem dX0_put_13 : decode cX0_put 13 = .ok (.iload_n 1, 1) := by decide +kernel
theorem dX0_put_14 : decode cX0_put 14 = .ok (.ishl, 1) := by decide +kernel
theorem dX0_put_15 : decode cX0_put 15 = .ok (.ior, 1) := by decide +kernel
theorem dX0_put_16 : decode cX0_put 16 = .ok (.putfield 33, 3) := by decide +kernel
theorem dX0_put_19 : decode cX0_put 19 = .ok (.return_, 1) := by decide +kernel
theorem dX0_remove_0 : decode cX0_remove 0 = .ok (.aload_n 0, 1) := by decide +kernel
theorem dX0_remove_1 : decode cX0_remove 1 = .ok (.dup, 1) := by decide +kernel
theorem dX0_remove_2 : decode cX0_remove 2 = .ok (.getfield 33, 3) := by decide +kernel
theorem dX0_remove_5 : decode cX0_remove 5 = .ok (.iconst 1, 1) := by decide +kernel
theorem dX0_remove_6 : decode cX0_remove 6 = .ok (.iload_n 1, 1) := by decide +kernel
theorem dX0_remove_7 : decode cX0_remove 7 = .ok (.ishl, 1) := by decide +kernel
theorem dX0_remove_8 : decode cX0_remove 8 = .ok (.iconst (-1), 1) := by decide +kernel
theorem dX0_remove_9 : decode cX0_remove 9 = .ok (.ixor, 1) := by decide +kernel
theorem dX0_remove_10 : decode cX0_remove 10 = .ok (.iand, 1) := by decide +kernel
theorem dX0_remove_11 : decode cX0_remove 11 = .ok (.putfield 33, 3) := by decide +kernel
theorem dX0_remove_14 : decode cX0_remove 14 = .ok (.return_, 1) := by decide +kernel
theorem dX0_coveredBy_0 : decode cX0_coveredBy 0 = .ok (.iconst 0, 1) := by decide +kernel
theorem dX0_coveredBy_1 : decode cX0_coveredBy 1 = .ok (.istore_n 2, 1) := by decide +kernel
theorem dX0_coveredBy_2 : decode cX0_coveredBy 2 = .ok (.iconst 0, 1) := by decide +kernel
theorem dX0_coveredBy_3 : decode cX0_coveredBy 3 = .ok (.istore_n 3, 1) := by decide +kernel
theorem dX0_coveredBy_4 : decode cX0_coveredBy 4 = .ok (.iload_n 3, 1) := by decide +kernel
theorem dX0_coveredBy_5 : decode cX0_coveredBy 5 = .ok (.aload_n 0, 1) := by decide +kernel
theorem dX0_coveredBy_6 : decode cX0_coveredBy 6 = .ok (.getfield 25, 3) := by decide +kernel
theorem dX0_coveredBy_9 : decode cX0_coveredBy 9 = .ok (.if_icmp .ge 28, 3) := by decide +kernel
theorem dX0_coveredBy_12 : decode cX0_coveredBy 12 = .ok (.aload_n 1, 1) := by decide +kernel
theorem dX0_coveredBy_13 : decode cX0_coveredBy 13 = .ok (.aload_n 0, 1) := by decide +kernel
theorem dX0_coveredBy_14 : decode cX0_coveredBy 14 = .ok (.getfield 11, 3) := by decide +kernel
theorem dX0_coveredBy_17 : decode cX0_coveredBy 17 = .ok (.iload_n 3, 1) := by decide +kernel
theorem dX0_coveredBy_18 : decode cX0_coveredBy 18 = .ok (.aaload, 1) := by decide +kernel
theorem dX0_coveredBy_19 : decode cX0_coveredBy 19 = .ok (.invokevirtual 48, 3) := by decide +kernel
theorem dX0_coveredBy_22 : decode cX0_coveredBy 22 = .ok (.ifCond .eq 9, 3) := by decide +kernel
theorem dX0_coveredBy_25 : decode cX0_coveredBy 25 = .ok (.iload_n 2, 1) := by decide +kernel
theorem dX0_coveredBy_26 : decode cX0_coveredBy 26 = .ok (.iconst 1, 1) := by decide +kernel
theorem dX0_coveredBy_27 : decode cX0_coveredBy 27 = .ok (.iload_n 3, 1) := by decide +kernel
theorem dX0_coveredBy_28 : decode cX0_coveredBy 28 = .ok (.ishl, 1) := by decide +kernel
theorem dX0_coveredBy_29 : decode cX0_coveredBy 29 = .ok (.ior, 1) := by decide +kernel
theorem dX0_coveredBy_30 : decode cX0_coveredBy 30 = .ok (.istore_n 2, 1) := by decide +kernel
theorem dX0_coveredBy_31 : decode cX0_coveredBy 31 = .ok (.iinc 3 1, 3) := by decide +kernel
theorem dX0_coveredBy_34 : decode cX0_coveredBy 34 = .ok (.goto (-30), 3) := by decide +kernel
theorem dX0_coveredBy_37 : decode cX0_coveredBy 37 = .ok (.iload_n 2, 1) := by decide +kernel
theorem dX0_coveredBy_38 : decode cX0_coveredBy 38 = .ok (.ireturn, 1) := by decide +kernel
theorem dX0_keepMark_0 : decode cX0_keepMark 0 = .ok (.aload_n 0, 1) := by decide +kernel
theorem dX0_keepMark_1 : decode cX0_keepMark 1 = .ok (.aload_n 0, 1) := by decide +kernel
theorem dX0_keepMark_2 : decode cX0_keepMark 2 = .ok (.getfield 33, 3) := by decide +kernel
theorem dX0_keepMark_5 : decode cX0_keepMark 5 = .ok (.putfield 51, 3) := by decide +kernel
theorem dX0_keepMark_8 : decode cX0_keepMark 8 = .ok (.aload_n 0, 1) := by decide +kernel
theorem dX0_keepMark_9 : decode cX0_keepMark 9 = .ok (.getfield 17, 3) := by decide +kernel
theorem dX0_keepMark_12 : decode cX0_keepMark 12 = .ok (.iconst 0, 1) := by decide +kernel
theorem dX0_keepMark_13 : decode cX0_keepMark 13 = .ok (.aload_n 0, 1) := by decide +kernel
theorem dX0_keepMark_14 : decode cX0_keepMark 14 = .ok (.getfield 21, 3) := by decide +kernel
theorem dX0_keepMark_17 : decode cX0_keepMark 17 = .ok (.iconst 0, 1) := by decide +kernel
theorem dX0_keepMark_18 : decode cX0_keepMark 18 = .ok (.bipush 24, 2) := by decide +kernel
theorem dX0_keepMark_20 : decode cX0_keepMark 20 = .ok (.invokestatic 54, 3) := by decide +kernel
theorem dX0_keepMark_23 : decode cX0_keepMark 23 = .ok (.return_, 1) := by decide +kernel
theorem dX0_sinceMark_0 : decode cX0_sinceMark 0 = .ok (.aload_n 0, 1) := by decide +kernel
theorem dX0_sinceMark_1 : decode cX0_sinceMark 1 = .ok (.getfield 33, 3) := by decide +kernel
theorem dX0_sinceMark_4 : decode cX0_sinceMark 4 = .ok (.aload_n 0, 1) := by decide +kernel
theorem dX0_sinceMark_5 : decode cX0_sinceMark 5 = .ok (.getfield 51, 3) := by decide +kernel
theorem dX0_sinceMark_8 : decode cX0_sinceMark 8 = .ok (.ixor, 1) := by decide +kernel
theorem dX0_sinceMark_9 : decode cX0_sinceMark 9 = .ok (.istore_n 1, 1) := by decide +kernel
theorem dX0_sinceMark_10 : decode cX0_sinceMark 10 = .ok (.iconst 0, 1) := by decide +kernel
theorem dX0_sinceMark_11 : decode cX0_sinceMark 11 = .ok (.istore_n 2, 1) := by decide +kernel
theorem dX0_sinceMark_12 : decode cX0_sinceMark 12 = .ok (.iload_n 2, 1) := by decide +kernel
theorem dX0_sinceMark_13 : decode cX0_sinceMark 13 = .ok (.aload_n 0, 1) := by decide +kernel
theorem dX0_sinceMark_14 : decode cX0_sinceMark 14 = .ok (.getfield 25, 3) := by decide +kernel
theorem dX0_sinceMark_17 : decode cX0_sinceMark 17 = .ok (.if_icmp .ge 46, 3) := by decide +kernel
theorem dX0_sinceMark_20 : decode cX0_sinceMark 20 = .ok (.aload_n 0, 1) := by decide +kernel
theorem dX0_sinceMark_21 : decode cX0_sinceMark 21 = .ok (.getfield 33, 3) := by decide +kernel
theorem dX0_sinceMark_24 : decode cX0_sinceMark 24 = .ok (.aload_n 0, 1) := by decide +kernel
theorem dX0_sinceMark_25 : decode cX0_sinceMark 25 = .ok (.getfield 51, 3) := by decide +kernel
theorem dX0_sinceMark_28 : decode cX0_sinceMark 28 = .ok (.iand, 1) := by decide +kernel
theorem dX0_sinceMark_29 : decode cX0_sinceMark 29 = .ok (.iload_n 2, 1) := by decide +kernel
theorem dX0_sinceMark_30 : decode cX0_sinceMark 30 = .ok (.invokestatic 36, 3) := by decide +kernel
theorem dX0_sinceMark_33 : decode cX0_sinceMark 33 = .ok (.ifCond .eq 24, 3) := by decide +kernel
theorem dX0_sinceMark_36 : decode cX0_sinceMark 36 = .ok (.aload_n 0, 1) := by decide +kernel
theorem dX0_sinceMark_37 : decode cX0_sinceMark 37 = .ok (.getfield 17, 3) := by decide +kernel
theorem dX0_sinceMark_40 : decode cX0_sinceMark 40 = .ok (.iload_n 2, 1) := by decide +kernel
theorem dX0_sinceMark_41 : decode cX0_sinceMark 41 = .ok (.iaload, 1) := by decide +kernel
theorem dX0_sinceMark_42 : decode cX0_sinceMark 42 = .ok (.aload_n 0, 1) := by decide +kernel
theorem dX0_sinceMark_43 : decode cX0_sinceMark 43 = .ok (.getfield 21, 3) := by decide +kernel
theorem dX0_sinceMark_46 : decode cX0_sinceMark 46 = .ok (.iload_n 2, 1) := by decide +kernel
theorem dX0_sinceMark_47 : decode cX0_sinceMark 47 = .ok (.iaload, 1) := by decide +kernel
theorem dX0_sinceMark_48 : decode cX0_sinceMark 48 = .ok (.if_icmp .eq 9, 3) := by decide +kernel
theorem dX0_sinceMark_51 : decode cX0_sinceMark 51 = .ok (.iload_n 1, 1) := by decide +kernel
theorem dX0_sinceMark_52 : decode cX0_sinceMark 52 = .ok (.iconst 1, 1) := by decide +kernel
theorem dX0_sinceMark_53 : decode cX0_sinceMark 53 = .ok (.iload_n 2, 1) := by decide +kernel
theorem dX0_sinceMark_54 : decode cX0_sinceMark 54 = .ok (.ishl, 1) := by decide +kernel
theorem dX0_sinceMark_55 : decode cX0_sinceMark 55 = .ok (.ior, 1) := by decide +kernel
theorem dX0_sinceMark_56 : decode cX0_sinceMark 56 = .ok (.istore_n 1, 1) := by decide +kernel
theorem dX0_sinceMark_57 : decode cX0_sinceMark 57 = .ok (.iinc 2 1, 3) := by decide +kernel
theorem dX0_sinceMark_60 : decode cX0_sinceMark 60 = .ok (.goto (-48), 3) := by decide +kernel
theorem dX0_sinceMark_63 : decode cX0_sinceMark 63 = .ok (.iload_n 1, 1) := by decide +kernel
theorem dX0_sinceMark_64 : decode cX0_sinceMark 64 = .ok (.ireturn, 1) := by decide +kernel
theorem dX1_init_0 : decode cX1_init 0 = .ok (.aload_n 0, 1) := by decide +kernel
theorem dX1_init_1 : decode cX1_init 1 = .ok (.invokespecial 3, 3) := by decide +kernel
theorem dX1_init_4 : decode cX1_init 4 = .ok (.aload_n 0, 1) := by decide +kernel
theorem dX1_init_5 : decode cX1_init 5 = .ok (.iconst 0, 1) := by decide +kernel
theorem dX1_init_6 : decode cX1_init 6 = .ok (.iload_n 1, 1) := by decide +kernel
theorem dX1_init_7 : decode cX1_init 7 = .ok (.invokestatic 9, 3) := by decide +kernel
theorem dX1_init_10 : decode cX1_init 10 = .ok (.putfield 15, 3) := by decide +kernel
theorem dX1_init_13 : decode cX1_init 13 = .ok (.aload_n 0, 1) := by decide +kernel
theorem dX1_init_14 : decode cX1_init 14 = .ok (.aload_n 0, 1) := by decide +kernel
theorem dX1_init_15 : decode cX1_init 15 = .ok (.getfield 15, 3) := by decide +kernel
theorem dX1_init_18 : decode cX1_init 18 = .ok (.anewarray 21, 3) := by decide +kernel
theorem dX1_init_21 : decode cX1_init 21 = .ok (.putfield 23, 3) := by decide +kernel
theorem dX1_init_24 : decode cX1_init 24 = .ok (.aload_n 0, 1) := by decide +kernel
theorem dX1_init_25 : decode cX1_init 25 = .ok (.aload_n 0, 1) := by decide +kernel
theorem dX1_init_26 : decode cX1_init 26 = .ok (.getfield 15, 3) := by decide +kernel
theorem dX1_init_29 : decode cX1_init 29 = .ok (.newarray .int, 2) := by decide +kernel
theorem dX1_init_31 : decode cX1_init 31 = .ok (.putfield 27, 3) := by decide +kernel
theorem dX1_init_34 : decode cX1_init 34 = .ok (.iconst 0, 1) := by decide +kernel
theorem dX1_init_35 : decode cX1_init 35 = .ok (.istore_n 2, 1) := by decide +kernel
theorem dX1_init_36 : decode cX1_init 36 = .ok (.iload_n 2, 1) := by decide +kernel
theorem dX1_init_37 : decode cX1_init 37 = .ok (.aload_n 0, 1) := by decide +kernel
theorem dX1_init_38 : decode cX1_init 38 = .ok (.getfield 15, 3) := by decide +kernel
theorem dX1_init_41 : decode cX1_init 41 = .ok (.if_icmp .ge 22, 3) := by decide +kernel
theorem dX1_init_44 : decode cX1_init 44 = .ok (.aload_n 0, 1) := by decide +kernel
theorem dX1_init_45 : decode cX1_init 45 = .ok (.getfield 23, 3) := by decide +kernel
theorem dX1_init_48 : decode cX1_init 48 = .ok (.iload_n 2, 1) := by decide +kernel
theorem dX1_init_49 : decode cX1_init 49 = .ok (.new 21, 3) := by decide +kernel
theorem dX1_init_52 : decode cX1_init 52 = .ok (.dup, 1) := by decide +kernel
theorem dX1_init_53 : decode cX1_init 53 = .ok (.invokespecial 31, 3) := by decide +kernel
theorem dX1_init_56 : decode cX1_init 56 = .ok (.aastore, 1) := by decide +kernel
theorem dX1_init_57 : decode cX1_init 57 = .ok (.iinc 2 1, 3) := by decide +kernel
theorem dX1_init_60 : decode cX1_init 60 = .ok (.goto (-24), 3) := by decide +kernel
theorem dX1_init_63 : decode cX1_init 63 = .ok (.return_, 1) := by decide +kernel
theorem dX1_size_0 : decode cX1_size 0 = .ok (.aload_n 0, 1) := by decide +kernel
theorem dX1_size_1 : decode cX1_size 1 = .ok (.getfield 32, 3) := by decide +kernel
theorem dX1_size_4 : decode cX1_size 4 = .ok (.ireturn, 1) := by decide +kernel
theorem dX1_isFull_0 : decode cX1_isFull 0 = .ok (.aload_n 0, 1) := by decide +kernel
theorem dX1_isFull_1 : decode cX1_isFull 1 = .ok (.getfield 32, 3) := by decide +kernel
theorem dX1_isFull_4 : decode cX1_isFull 4 = .ok (.aload_n 0, 1) := by decide +kernel
theorem dX1_isFull_5 : decode cX1_isFull 5 = .ok (.getfield 15, 3) := by decide +kernel
theorem dX1_isFull_8 : decode cX1_isFull 8 = .ok (.if_icmp .lt 7, 3) := by decide +kernel
theorem dX1_isFull_11 : decode cX1_isFull 11 = .ok (.iconst 1, 1) := by decide +kernel
theorem dX1_isFull_12 : decode cX1_isFull 12 = .ok (.goto 4, 3) := by decide +kernel
theorem dX1_isFull_15 : decode cX1_isFull 15 = .ok (.iconst 0, 1) := by decide +kernel
theorem dX1_isFull_16 : decode cX1_isFull 16 = .ok (.ireturn, 1) := by decide +kernel
theorem dX1_add_0 : decode cX1_add 0 = .ok (.aload_n 0, 1) := by decide +kernel
theorem dX1_add_1 : decode cX1_add 1 = .ok (.getfield 23, 3) := by decide +kernel
theorem dX1_add_4 : decode cX1_add 4 = .ok (.aload_n 0, 1) := by decide +kernel
theorem dX1_add_5 : decode cX1_add 5 = .ok (.getfield 32, 3) := by decide +kernel
theorem dX1_add_8 : decode cX1_add 8 = .ok (.aaload, 1) := by decide +kernel
theorem dX1_add_9 : decode cX1_add 9 = .ok (.aload_n 1, 1) := by decide +kernel
theorem dX1_add_10 : decode cX1_add 10 = .ok (.invokevirtual 35, 3) := by decide +kernel
theorem dX1_add_13 : decode cX1_add 13 = .ok (.aload_n 0, 1) := by decide +kernel
theorem dX1_add_14 : decode cX1_add 14 = .ok (.getfield 27, 3) := by decide +kernel
theorem dX1_add_17 : decode cX1_add 17 = .ok (.aload_n 0, 1) := by decide +kernel
theorem dX1_add_18 : decode cX1_add 18 = .ok (.getfield 32, 3) := by decide +kernel
theorem dX1_add_21 : decode cX1_add 21 = .ok (.iload_n 2, 1) := by decide +kernel
theorem dX1_add_22 : decode cX1_add 22 = .ok (.iastore, 1) := by decide +kernel
theorem dX1_add_23 : decode cX1_add 23 = .ok (.aload_n 0, 1) := by decide +kernel
theorem dX1_add_24 : decode cX1_add 24 = .ok (.dup, 1) := by decide +kernel
theorem dX1_add_25 : decode cX1_add 25 = .ok (.getfield 32, 3) := by decide +kernel
theorem dX1_add_28 : decode cX1_add 28 = .ok (.iconst 1, 1) := by decide +kernel
theorem dX1_add_29 : decode cX1_add 29 = .ok (.iadd, 1) := by decide +kernel
theorem dX1_add_30 : decode cX1_add 30 = .ok (.putfield 32, 3) := by decide +kernel
theorem dX1_add_33 : decode cX1_add 33 = .ok (.return_, 1) := by decide +kernel
theorem dX1_meetFile_0 : decode cX1_meetFile 0 = .ok (.iconst 0, 1) := by decide +kernel
theorem dX1_meetFile_1 : decode cX1_meetFile 1 = .ok (.istore_n 3, 1) := by decide +kernel
theorem dX1_meetFile_2 : decode cX1_meetFile 2 = .ok (.iload_n 3, 1) := by decide +kernel
theorem dX1_meetFile_3 : decode cX1_meetFile 3 = .ok (.aload_n 0, 1) := by decide +kernel
theorem dX1_meetFile_4 : decode cX1_meetFile 4 = .ok (.getfield 32, 3) := by decide +kernel
theorem dX1_meetFile_7 : decode cX1_meetFile 7 = .ok (.if_icmp .ge 34, 3) := by decide +kernel
theorem dX1_meetFile_10 : decode cX1_meetFile 10 = .ok (.aload_n 0, 1) := by decide +kernel
theorem dX1_meetFile_11 : decode cX1_meetFile 11 = .ok (.getfield 23, 3) := by decide +kernel
theorem dX1_meetFile_14 : decode cX1_meetFile 14 = .ok (.iload_n 3, 1) := by decide +kernel
theorem dX1_meetFile_15 : decode cX1_meetFile 15 = .ok (.aaload, 1) := by decide +kernel
theorem dX1_meetFile_16 : decode cX1_meetFile 16 = .ok (.aload_n 2, 1) := by decide +kernel
theorem dX1_meetFile_17 : decode cX1_meetFile 17 = .ok (.invokevirtual 39, 3) := by decide +kernel
theorem dX1_meetFile_20 : decode cX1_meetFile 20 = .ok (.ifCond .eq 15, 3) := by decide +kernel
theorem dX1_meetFile_23 : decode cX1_meetFile 23 = .ok (.aload_n 0, 1) := by decide +kernel
theorem dX1_meetFile_24 : decode cX1_meetFile 24 = .ok (.getfield 27, 3) := by decide +kernel
theorem dX1_meetFile_27 : decode cX1_meetFile 27 = .ok (.iload_n 3, 1) := by decide +kernel
theorem dX1_meetFile_28 : decode cX1_meetFile 28 = .ok (.dup2, 1) := by decide +kernel
theorem dX1_meetFile_29 : decode cX1_meetFile 29 = .ok (.iaload, 1) := by decide +kernel
theorem dX1_meetFile_30 : decode cX1_meetFile 30 = .ok (.iconst 1, 1) := by decide +kernel
theorem dX1_meetFile_31 : decode cX1_meetFile 31 = .ok (.iload_n 1, 1) := by decide +kernel
theorem dX1_meetFile_32 : decode cX1_meetFile 32 = .ok (.ishl, 1) := by decide +kernel
theorem dX1_meetFile_33 : decode cX1_meetFile 33 = .ok (.ior, 1) := by decide +kernel
theorem dX1_meetFile_34 : decode cX1_meetFile 34 = .ok (.iastore, 1) := by decide +kernel
theorem dX1_meetFile_35 : decode cX1_meetFile 35 = .ok (.iinc 3 1, 3) := by decide +kernel
theorem dX1_meetFile_38 : decode cX1_meetFile 38 = .ok (.goto (-36), 3) := by decide +kernel
theorem dX1_meetFile_41 : decode cX1_meetFile 41 = .ok (.return_, 1) := by decide +kernel
theorem dX1_covered_0 : decode cX1_covered 0 = .ok (.iconst 0, 1) := by decide +kernel
theorem dX1_covered_1 : decode cX1_covered 1 = .ok (.istore_n 1, 1) := by decide +kernel
theorem dX1_covered_2 : decode cX1_covered 2 = .ok (.iconst 0, 1) := by decide +kernel
theorem dX1_covered_3 : decode cX1_covered 3 = .ok (.istore_n 2, 1) := by decide +kernel
theorem dX1_covered_4 : decode cX1_covered 4 = .ok (.iload_n 2, 1) := by decide +kernel
theorem dX1_covered_5 : decode cX1_covered 5 = .ok (.aload_n 0, 1) := by decide +kernel
theorem dX1_covered_6 : decode cX1_covered 6 = .ok (.getfield 32, 3) := by decide +kernel
theorem dX1_covered_9 : decode cX1_covered 9 = .ok (.if_icmp .ge 18, 3) := by decide +kernel
theorem dX1_covered_12 : decode cX1_covered 12 = .ok (.iload_n 1, 1) := by decide +kernel
theorem dX1_covered_13 : decode cX1_covered 13 = .ok (.aload_n 0, 1) := by decide +kernel
theorem dX1_covered_14 : decode cX1_covered 14 = .ok (.getfield 27, 3) := by decide +kernel
theorem dX1_covered_17 : decode cX1_covered 17 = .ok (.iload_n 2, 1) := by decide +kernel
theorem dX1_covered_18 : decode cX1_covered 18 = .ok (.iaload, 1) := by decide +kernel
theorem dX1_covered_19 : decode cX1_covered 19 = .ok (.ior, 1) := by decide +kernel
theorem dX1_covered_20 : decode cX1_covered 20 = .ok (.istore_n 1, 1) := by decide +kernel
theorem dX1_covered_21 : decode cX1_covered 21 = .ok (.iinc 2 1, 3) := by decide +kernel
theorem dX1_covered_24 : decode cX1_covered 24 = .ok (.goto (-20), 3) := by decide +kernel
theorem dX1_covered_27 : decode cX1_covered 27 = .ok (.iload_n 1, 1) := by decide +kernel
theorem dX1_covered_28 : decode cX1_covered 28 = .ok (.ireturn, 1) := by decide +kernel
theorem dX1_latestCovering_0 : decode cX1_latestCovering 0 = .ok (.aload_n 0, 1) := by decide +kernel
theorem dX1_latestCovering_1 : decode cX1_latestCovering 1 = .ok (.getfield 32, 3) := by decide +kernel
theorem dX1_latestCovering_4 : decode cX1_latestCovering 4 = .ok (.iconst 1, 1) := by decide +kernel
theorem dX1_latestCovering_5 : decode cX1_latestCovering 5 = .ok (.isub, 1) := by decide +kernel
theorem dX1_latestCovering_6 : decode cX1_latestCovering 6 = .ok (.istore_n 2, 1) := by decide +kernel
theorem dX1_latestCovering_7 : decode cX1_latestCovering 7 = .ok (.iload_n 2, 1) := by decide +kernel
theorem dX1_latestCovering_8 : decode cX1_latestCovering 8 = .ok (.ifCond .lt 24, 3) := by decide +kernel
theorem dX1_latestCovering_11 : decode cX1_latestCovering 11 = .ok (.aload_n 0, 1) := by decide +kernel
theorem dX1_latestCovering_12 : decode cX1_latestCovering 12 = .ok (.getfield 27, 3) := by decide +kernel
theorem dX1_latestCovering_15 : decode cX1_latestCovering 15 = .ok (.iload_n 2, 1) := by decide +kernel
theorem dX1_latestCovering_16 : decode cX1_latestCovering 16 = .ok (.iaload, 1) := by decide +kernel
theorem dX1_latestCovering_17 : decode cX1_latestCovering 17 = .ok (.iload_n 1, 1) := by decide +kernel
theorem dX1_latestCovering_18 : decode cX1_latestCovering 18 = .ok (.invokestatic 43, 3) := by decide +kernel
theorem dX1_latestCovering_21 : decode cX1_latestCovering 21 = .ok (.ifCond .eq 5, 3) := by decide +kernel
theorem dX1_latestCovering_24 : decode cX1_latestCovering 24 = .ok (.iload_n 2, 1) := by decide +kernel
theorem dX1_latestCovering_25 : decode cX1_latestCovering 25 = .ok (.ireturn, 1) := by decide +kernel
theorem dX1_latestCovering_26 : decode cX1_latestCovering 26 = .ok (.iinc 2 (-1), 3) := by decide +kernel
theorem dX1_latestCovering_29 : decode cX1_latestCovering 29 = .ok (.goto (-22), 3) := by decide +kernel
theorem dX1_latestCovering_32 : decode cX1_latestCovering 32 = .ok (.iconst (-1), 1) := by decide +kernel
theorem dX1_latestCovering_33 : decode cX1_latestCovering 33 = .ok (.ireturn, 1) := by decide +kernel
theorem dX2_init_0 : decode cX2_init 0 = .ok (.aload_n 0, 1) := by decide +kernel
theorem dX2_init_1 : decode cX2_init 1 = .ok (.invokespecial 3, 3) := by decide +kernel
theorem dX2_init_4 : decode cX2_init 4 = .ok (.aload_n 0, 1) := by decide +kernel
theorem dX2_init_5 : decode cX2_init 5 = .ok (.bipush 16, 2) := by decide +kernel
theorem dX2_init_7 : decode cX2_init 7 = .ok (.newarray .int, 2) := by decide +kernel
theorem dX2_init_9 : decode cX2_init 9 = .ok (.putfield 9, 3) := by decide +kernel
theorem dX2_init_12 : decode cX2_init 12 = .ok (.aload_n 0, 1) := by decide +kernel
theorem dX2_init_13 : decode cX2_init 13 = .ok (.bipush 16, 2) := by decide +kernel
theorem dX2_init_15 : decode cX2_init 15 = .ok (.newarray .int, 2) := by decide +kernel
theorem dX2_init_17 : decode cX2_init 17 = .ok (.putfield 15, 3) := by decide +kernel
theorem dX2_init_20 : decode cX2_init 20 = .ok (.aload_n 0, 1) := by decide +kernel
theorem dX2_init_21 : decode cX2_init 21 = .ok (.bipush 16, 2) := by decide +kernel
theorem dX2_init_23 : decode cX2_init 23 = .ok (.anewarray 18, 3) := by decide +kernel
theorem dX2_init_26 : decode cX2_init 26 = .ok (.putfield 20, 3) := by decide +kernel
theorem dX2_init_29 : decode cX2_init 29 = .ok (.aload_n 0, 1) := by decide +kernel
theorem dX2_init_30 : decode cX2_init 30 = .ok (.bipush 16, 2) := by decide +kernel
theorem dX2_init_32 : decode cX2_init 32 = .ok (.newarray .int, 2) := by decide +kernel
theorem dX2_init_34 : decode cX2_init 34 = .ok (.putfield 24, 3) := by decide +kernel
theorem dX2_init_37 : decode cX2_init 37 = .ok (.iconst 0, 1) := by decide +kernel
theorem dX2_init_38 : decode cX2_init 38 = .ok (.istore_n 1, 1) := by decide +kernel
theorem dX2_init_39 : decode cX2_init 39 = .ok (.iload_n 1, 1) := by decide +kernel
theorem dX2_init_40 : decode cX2_init 40 = .ok (.bipush 16, 2) := by decide +kernel
theorem dX2_init_42 : decode cX2_init 42 = .ok (.if_icmp .ge 23, 3) := by decide +kernel
theorem dX2_init_45 : decode cX2_init 45 = .ok (.aload_n 0, 1) := by decide +kernel
theorem dX2_init_46 : decode cX2_init 46 = .ok (.getfield 20, 3) := by decide +kernel
theorem dX2_init_49 : decode cX2_init 49 = .ok (.iload_n 1, 1) := by decide +kernel
theorem dX2_init_50 : decode cX2_init 50 = .ok (.new 18, 3) := by decide +kernel
theorem dX2_init_53 : decode cX2_init 53 = .ok (.dup, 1) := by decide +kernel
theorem dX2_init_54 : decode cX2_init 54 = .ok (.iconst 4, 1) := by decide +kernel
theorem dX2_init_55 : decode cX2_init 55 = .ok (.invokespecial 27, 3) := by decide +kernel
theorem dX2_init_58 : decode cX2_init 58 = .ok (.aastore, 1) := by decide +kernel
theorem dX2_init_59 : decode cX2_init 59 = .ok (.iinc 1 1, 3) := by decide +kernel
theorem dX2_init_62 : decode cX2_init 62 = .ok (.goto (-23), 3) := by decide +kernel
theorem dX2_init_65 : decode cX2_init 65 = .ok (.return_, 1) := by decide +kernel
theorem dX2_size_0 : decode cX2_size 0 = .ok (.aload_n 0, 1) := by decide +kernel
theorem dX2_size_1 : decode cX2_size 1 = .ok (.getfield 30, 3) := by decide +kernel
theorem dX2_size_4 : decode cX2_size 4 = .ok (.ireturn, 1) := by decide +kernel
theorem dX2_has_0 : decode cX2_has 0 = .ok (.iload_n 1, 1) := by decide +kernel
theorem dX2_has_1 : decode cX2_has 1 = .ok (.ifCond .lt 15, 3) := by decide +kernel
theorem dX2_has_4 : decode cX2_has 4 = .ok (.iload_n 1, 1) := by decide +kernel
theorem dX2_has_5 : decode cX2_has 5 = .ok (.aload_n 0, 1) := by decide +kernel
theorem dX2_has_6 : decode cX2_has 6 = .ok (.getfield 30, 3) := by decide +kernel
theorem dX2_has_9 : decode cX2_has 9 = .ok (.if_icmp .ge 7, 3) := by decide +kernel
theorem dX2_has_12 : decode cX2_has 12 = .ok (.iconst 1, 1) := by decide +kernel
theorem dX2_has_13 : decode cX2_has 13 = .ok (.goto 4, 3) := by decide +kernel
theorem dX2_has_16 : decode cX2_has 16 = .ok (.iconst 0, 1) := by decide +kernel
theorem dX2_has_17 : decode cX2_has 17 = .ok (.ireturn, 1) := by decide +kernel
theorem dX2_isFull_0 : decode cX2_isFull 0 = .ok (.aload_n 0, 1) := by decide +kernel
theorem dX2_isFull_1 : decode cX2_isFull 1 = .ok (.getfield 30, 3) := by decide +kernel
theorem dX2_isFull_4 : decode cX2_isFull 4 = .ok (.bipush 16, 2) := by decide +kernel
theorem dX2_isFull_6 : decode cX2_isFull 6 = .ok (.if_icmp .lt 7, 3) := by decide +kernel
theorem dX2_isFull_9 : decode cX2_isFull 9 = .ok (.iconst 1, 1) := by decide +kernel
theorem dX2_isFull_10 : decode cX2_isFull 10 = .ok (.goto 4, 3) := by decide +kernel
theorem dX2_isFull_13 : decode cX2_isFull 13 = .ok (.iconst 0, 1) := by decide +kernel
theorem dX2_isFull_14 : decode cX2_isFull 14 = .ok (.ireturn, 1) := by decide +kernel
theorem dX2_costOf_0 : decode cX2_costOf 0 = .ok (.aload_n 0, 1) := by decide +kernel
theorem dX2_costOf_1 : decode cX2_costOf 1 = .ok (.getfield 9, 3) := by decide +kernel
theorem dX2_costOf_4 : decode cX2_costOf 4 = .ok (.iload_n 1, 1) := by decide +kernel
theorem dX2_costOf_5 : decode cX2_costOf 5 = .ok (.iaload, 1) := by decide +kernel
theorem dX2_costOf_6 : decode cX2_costOf 6 = .ok (.ireturn, 1) := by decide +kernel
theorem dX2_dependenciesOf_0 : decode cX2_dependenciesOf 0 = .ok (.aload_n 0, 1) := by decide +kernel
theorem dX2_dependenciesOf_1 : decode cX2_dependenciesOf 1 = .ok (.getfield 15, 3) := by decide +kernel
theorem dX2_dependenciesOf_4 : decode cX2_dependenciesOf 4 = .ok (.iload_n 1, 1) := by decide +kernel
theorem dX2_dependenciesOf_5 : decode cX2_dependenciesOf 5 = .ok (.iaload, 1) := by decide +kernel
theorem dX2_dependenciesOf_6 : decode cX2_dependenciesOf 6 = .ok (.ireturn, 1) := by decide +kernel
theorem dX2_globsOf_0 : decode cX2_globsOf 0 = .ok (.aload_n 0, 1) := by decide +kernel
theorem dX2_globsOf_1 : decode cX2_globsOf 1 = .ok (.getfield 20, 3) := by decide +kernel
theorem dX2_globsOf_4 : decode cX2_globsOf 4 = .ok (.iload_n 1, 1) := by decide +kernel
theorem dX2_globsOf_5 : decode cX2_globsOf 5 = .ok (.aaload, 1) := by decide +kernel
theorem dX2_globsOf_6 : decode cX2_globsOf 6 = .ok (.areturn, 1) := by decide +kernel
theorem dX2_add_0 : decode cX2_add 0 = .ok (.aload_n 0, 1) := by decide +kernel
theorem dX2_add_1 : decode cX2_add 1 = .ok (.getfield 30, 3) := by decide +kernel
theorem dX2_add_4 : decode cX2_add 4 = .ok (.istore_n 2, 1) := by decide +kernel
theorem dX2_add_5 : decode cX2_add 5 = .ok (.aload_n 0, 1) := by decide +kernel
theorem dX2_add_6 : decode cX2_add 6 = .ok (.getfield 9, 3) := by decide +kernel
theorem dX2_add_9 : decode cX2_add 9 = .ok (.iload_n 2, 1) := by decide +kernel
theorem dX2_add_10 : decode cX2_add 10 = .ok (.iload_n 1, 1) := by decide +kernel
theorem dX2_add_11 : decode cX2_add 11 = .ok (.iastore, 1) := by decide +kernel
theorem dX2_add_12 : decode cX2_add 12 = .ok (.aload_n 0, 1) := by decide +kernel
theorem dX2_add_13 : decode cX2_add 13 = .ok (.dup, 1) := by decide +kernel
theorem dX2_add_14 : decode cX2_add 14 = .ok (.getfield 30, 3) := by decide +kernel
theorem dX2_add_17 : decode cX2_add 17 = .ok (.iconst 1, 1) := by decide +kernel
theorem dX2_add_18 : decode cX2_add 18 = .ok (.iadd, 1) := by decide +kernel
theorem dX2_add_19 : decode cX2_add 19 = .ok (.putfield 30, 3) := by decide +kernel
theorem dX2_add_22 : decode cX2_add 22 = .ok (.iload_n 2, 1) := by decide +kernel
theorem dX2_add_23 : decode cX2_add 23 = .ok (.ireturn, 1) := by decide +kernel
theorem dX2_addDependency_0 : decode cX2_addDependency 0 = .ok (.aload_n 0, 1) := by decide +kernel
theorem dX2_addDependency_1 : decode cX2_addDependency 1 = .ok (.getfield 15, 3) := by decide +kernel
theorem dX2_addDependency_4 : decode cX2_addDependency 4 = .ok (.iload_n 1, 1) := by decide +kernel
theorem dX2_addDependency_5 : decode cX2_addDependency 5 = .ok (.dup2, 1) := by decide +kernel
theorem dX2_addDependency_6 : decode cX2_addDependency 6 = .ok (.iaload, 1) := by decide +kernel
theorem dX2_addDependency_7 : decode cX2_addDependency 7 = .ok (.iconst 1, 1) := by decide +kernel
theorem dX2_addDependency_8 : decode cX2_addDependency 8 = .ok (.iload_n 2, 1) := by decide +kernel
theorem dX2_addDependency_9 : decode cX2_addDependency 9 = .ok (.ishl, 1) := by decide +kernel
theorem dX2_addDependency_10 : decode cX2_addDependency 10 = .ok (.ior, 1) := by decide +kernel
theorem dX2_addDependency_11 : decode cX2_addDependency 11 = .ok (.iastore, 1) := by decide +kernel
theorem dX2_addDependency_12 : decode cX2_addDependency 12 = .ok (.return_, 1) := by decide +kernel
theorem dX2_meetFile_0 : decode cX2_meetFile 0 = .ok (.iconst 0, 1) := by decide +kernel
theorem dX2_meetFile_1 : decode cX2_meetFile 1 = .ok (.istore_n 3, 1) := by decide +kernel
theorem dX2_meetFile_2 : decode cX2_meetFile 2 = .ok (.iload_n 3, 1) := by decide +kernel
theorem dX2_meetFile_3 : decode cX2_meetFile 3 = .ok (.aload_n 0, 1) := by decide +kernel
theorem dX2_meetFile_4 : decode cX2_meetFile 4 = .ok (.getfield 30, 3) := by decide +kernel
theorem dX2_meetFile_7 : decode cX2_meetFile 7 = .ok (.if_icmp .ge 20, 3) := by decide +kernel
theorem dX2_meetFile_10 : decode cX2_meetFile 10 = .ok (.aload_n 0, 1) := by decide +kernel
theorem dX2_meetFile_11 : decode cX2_meetFile 11 = .ok (.getfield 20, 3) := by decide +kernel
theorem dX2_meetFile_14 : decode cX2_meetFile 14 = .ok (.iload_n 3, 1) := by decide +kernel
theorem dX2_meetFile_15 : decode cX2_meetFile 15 = .ok (.aaload, 1) := by decide +kernel
theorem dX2_meetFile_16 : decode cX2_meetFile 16 = .ok (.iload_n 1, 1) := by decide +kernel
theorem dX2_meetFile_17 : decode cX2_meetFile 17 = .ok (.aload_n 2, 1) := by decide +kernel
theorem dX2_meetFile_18 : decode cX2_meetFile 18 = .ok (.invokevirtual 34, 3) := by decide +kernel
theorem dX2_meetFile_21 : decode cX2_meetFile 21 = .ok (.iinc 3 1, 3) := by decide +kernel
theorem dX2_meetFile_24 : decode cX2_meetFile 24 = .ok (.goto (-22), 3) := by decide +kernel
theorem dX2_meetFile_27 : decode cX2_meetFile 27 = .ok (.return_, 1) := by decide +kernel
theorem dX2_covering_0 : decode cX2_covering 0 = .ok (.iconst 0, 1) := by decide +kernel
theorem dX2_covering_1 : decode cX2_covering 1 = .ok (.istore_n 2, 1) := by decide +kernel
theorem dX2_covering_2 : decode cX2_covering 2 = .ok (.iconst 0, 1) := by decide +kernel
theorem dX2_covering_3 : decode cX2_covering 3 = .ok (.istore_n 3, 1) := by decide +kernel
theorem dX2_covering_4 : decode cX2_covering 4 = .ok (.iload_n 3, 1) := by decide +kernel
theorem dX2_covering_5 : decode cX2_covering 5 = .ok (.aload_n 0, 1) := by decide +kernel
theorem dX2_covering_6 : decode cX2_covering 6 = .ok (.getfield 30, 3) := by decide +kernel
theorem dX2_covering_9 : decode cX2_covering 9 = .ok (.if_icmp .ge 31, 3) := by decide +kernel
theorem dX2_covering_12 : decode cX2_covering 12 = .ok (.aload_n 0, 1) := by decide +kernel
theorem dX2_covering_13 : decode cX2_covering 13 = .ok (.getfield 20, 3) := by decide +kernel
theorem dX2_covering_16 : decode cX2_covering 16 = .ok (.iload_n 3, 1) := by decide +kernel
theorem dX2_covering_17 : decode cX2_covering 17 = .ok (.aaload, 1) := by decide +kernel
theorem dX2_covering_18 : decode cX2_covering 18 = .ok (.invokevirtual 38, 3) := by decide +kernel
theorem dX2_covering_21 : decode cX2_covering 21 = .ok (.iload_n 1, 1) := by decide +kernel
theorem dX2_covering_22 : decode cX2_covering 22 = .ok (.invokestatic 42, 3) := by decide +kernel
theorem dX2_covering_25 : decode cX2_covering 25 = .ok (.ifCond .eq 9, 3) := by decide +kernel
theorem dX2_covering_28 : decode cX2_covering 28 = .ok (.iload_n 2, 1) := by decide +kernel
theorem dX2_covering_29 : decode cX2_covering 29 = .ok (.iconst 1, 1) := by decide +kernel
theorem dX2_covering_30 : decode cX2_covering 30 = .ok (.iload_n 3, 1) := by decide +kernel
theorem dX2_covering_31 : decode cX2_covering 31 = .ok (.ishl, 1) := by decide +kernel
theorem dX2_covering_32 : decode cX2_covering 32 = .ok (.ior, 1) := by decide +kernel
theorem dX2_covering_33 : decode cX2_covering 33 = .ok (.istore_n 2, 1) := by decide +kernel
theorem dX2_covering_34 : decode cX2_covering 34 = .ok (.iinc 3 1, 3) := by decide +kernel
theorem dX2_covering_37 : decode cX2_covering 37 = .ok (.goto (-33), 3) := by decide +kernel
theorem dX2_covering_40 : decode cX2_covering 40 = .ok (.iload_n 2, 1) := by decide +kernel
theorem dX2_covering_41 : decode cX2_covering 41 = .ok (.ireturn, 1) := by decide +kernel
theorem dX2_upFrom_0 : decode cX2_upFrom 0 = .ok (.iload_n 1, 1) := by decide +kernel
theorem dX2_upFrom_1 : decode cX2_upFrom 1 = .ok (.istore_n 2, 1) := by decide +kernel
theorem dX2_upFrom_2 : decode cX2_upFrom 2 = .ok (.iconst 0, 1) := by decide +kernel
theorem dX2_upFrom_3 : decode cX2_upFrom 3 = .ok (.istore_n 3, 1) := by decide +kernel
theorem dX2_upFrom_4 : decode cX2_upFrom 4 = .ok (.iload_n 3, 1) := by decide +kernel
theorem dX2_upFrom_5 : decode cX2_upFrom 5 = .ok (.aload_n 0, 1) := by decide +kernel
theorem dX2_upFrom_6 : decode cX2_upFrom 6 = .ok (.getfield 30, 3) := by decide +kernel
theorem dX2_upFrom_9 : decode cX2_upFrom 9 = .ok (.if_icmp .ge 46, 3) := by decide +kernel
theorem dX2_upFrom_12 : decode cX2_upFrom 12 = .ok (.iconst 0, 1) := by decide +kernel
theorem dX2_upFrom_13 : decode cX2_upFrom 13 = .ok (.istore 4, 2) := by decide +kernel
theorem dX2_upFrom_15 : decode cX2_upFrom 15 = .ok (.iload 4, 2) := by decide +kernel
theorem dX2_upFrom_17 : decode cX2_upFrom 17 = .ok (.aload_n 0, 1) := by decide +kernel
theorem dX2_upFrom_18 : decode cX2_upFrom 18 = .ok (.getfield 30, 3) := by decide +kernel
theorem dX2_upFrom_21 : decode cX2_upFrom 21 = .ok (.if_icmp .ge 28, 3) := by decide +kernel
theorem dX2_upFrom_24 : decode cX2_upFrom 24 = .ok (.aload_n 0, 1) := by decide +kernel
theorem dX2_upFrom_25 : decode cX2_upFrom 25 = .ok (.getfield 15, 3) := by decide +kernel
theorem dX2_upFrom_28 : decode cX2_upFrom 28 = .ok (.iload 4, 2) := by decide +kernel
theorem dX2_upFrom_30 : decode cX2_upFrom 30 = .ok (.iaload, 1) := by decide +kernel
theorem dX2_upFrom_31 : decode cX2_upFrom 31 = .ok (.iload_n 2, 1) := by decide +kernel
theorem dX2_upFrom_32 : decode cX2_upFrom 32 = .ok (.iand, 1) := by decide +kernel
theorem dX2_upFrom_33 : decode cX2_upFrom 33 = .ok (.ifCond .eq 10, 3) := by decide +kernel
theorem dX2_upFrom_36 : decode cX2_upFrom 36 = .ok (.iload_n 2, 1) := by decide +kernel
theorem dX2_upFrom_37 : decode cX2_upFrom 37 = .ok (.iconst 1, 1) := by decide +kernel
theorem dX2_upFrom_38 : decode cX2_upFrom 38 = .ok (.iload 4, 2) := by decide +kernel
theorem dX2_upFrom_40 : decode cX2_upFrom 40 = .ok (.ishl, 1) := by decide +kernel
theorem dX2_upFrom_41 : decode cX2_upFrom 41 = .ok (.ior, 1) := by decide +kernel
theorem dX2_upFrom_42 : decode cX2_upFrom 42 = .ok (.istore_n 2, 1) := by decide +kernel
theorem dX2_upFrom_43 : decode cX2_upFrom 43 = .ok (.iinc 4 1, 3) := by decide +kernel
theorem dX2_upFrom_46 : decode cX2_upFrom 46 = .ok (.goto (-31), 3) := by decide +kernel
theorem dX2_upFrom_49 : decode cX2_upFrom 49 = .ok (.iinc 3 1, 3) := by decide +kernel
theorem dX2_upFrom_52 : decode cX2_upFrom 52 = .ok (.goto (-48), 3) := by decide +kernel
theorem dX2_upFrom_55 : decode cX2_upFrom 55 = .ok (.iload_n 2, 1) := by decide +kernel
theorem dX2_upFrom_56 : decode cX2_upFrom 56 = .ok (.ireturn, 1) := by decide +kernel
theorem dX2_reachingDown_0 : decode cX2_reachingDown 0 = .ok (.iconst 0, 1) := by decide +kernel
theorem dX2_reachingDown_1 : decode cX2_reachingDown 1 = .ok (.istore_n 2, 1) := by decide +kernel
theorem dX2_reachingDown_2 : decode cX2_reachingDown 2 = .ok (.iconst 0, 1) := by decide +kernel
theorem dX2_reachingDown_3 : decode cX2_reachingDown 3 = .ok (.istore_n 3, 1) := by decide +kernel
theorem dX2_reachingDown_4 : decode cX2_reachingDown 4 = .ok (.iload_n 3, 1) := by decide +kernel
theorem dX2_reachingDown_5 : decode cX2_reachingDown 5 = .ok (.aload_n 0, 1) := by decide +kernel
theorem dX2_reachingDown_6 : decode cX2_reachingDown 6 = .ok (.getfield 30, 3) := by decide +kernel
theorem dX2_reachingDown_9 : decode cX2_reachingDown 9 = .ok (.if_icmp .ge 25, 3) := by decide +kernel
theorem dX2_reachingDown_12 : decode cX2_reachingDown 12 = .ok (.aload_n 0, 1) := by decide +kernel
theorem dX2_reachingDown_13 : decode cX2_reachingDown 13 = .ok (.iload_n 3, 1) := by decide +kernel
theorem dX2_reachingDown_14 : decode cX2_reachingDown 14 = .ok (.invokevirtual 46, 3) := by decide +kernel
theorem dX2_reachingDown_17 : decode cX2_reachingDown 17 = .ok (.iload_n 1, 1) := by decide +kernel
theorem dX2_reachingDown_18 : decode cX2_reachingDown 18 = .ok (.iand, 1) := by decide +kernel
theorem dX2_reachingDown_19 : decode cX2_reachingDown 19 = .ok (.ifCond .eq 9, 3) := by decide +kernel
theorem dX2_reachingDown_22 : decode cX2_reachingDown 22 = .ok (.iload_n 2, 1) := by decide +kernel
theorem dX2_reachingDown_23 : decode cX2_reachingDown 23 = .ok (.iconst 1, 1) := by decide +kernel
theorem dX2_reachingDown_24 : decode cX2_reachingDown 24 = .ok (.iload_n 3, 1) := by decide +kernel
theorem dX2_reachingDown_25 : decode cX2_reachingDown 25 = .ok (.ishl, 1) := by decide +kernel
theorem dX2_reachingDown_26 : decode cX2_reachingDown 26 = .ok (.ior, 1) := by decide +kernel
theorem dX2_reachingDown_27 : decode cX2_reachingDown 27 = .ok (.istore_n 2, 1) := by decide +kernel
theorem dX2_reachingDown_28 : decode cX2_reachingDown 28 = .ok (.iinc 3 1, 3) := by decide +kernel
theorem dX2_reachingDown_31 : decode cX2_reachingDown 31 = .ok (.goto (-27), 3) := by decide +kernel
theorem dX2_reachingDown_34 : decode cX2_reachingDown 34 = .ok (.iload_n 2, 1) := by decide +kernel
theorem dX2_reachingDown_35 : decode cX2_reachingDown 35 = .ok (.ireturn, 1) := by decide +kernel
theorem dX2_makeOrder_0 : decode cX2_makeOrder 0 = .ok (.iconst 0, 1) := by decide +kernel
theorem dX2_makeOrder_1 : decode cX2_makeOrder 1 = .ok (.istore_n 1, 1) := by decide +kernel
theorem dX2_makeOrder_2 : decode cX2_makeOrder 2 = .ok (.iconst 0, 1) := by decide +kernel
theorem dX2_makeOrder_3 : decode cX2_makeOrder 3 = .ok (.istore_n 2, 1) := by decide +kernel
theorem dX2_makeOrder_4 : decode cX2_makeOrder 4 = .ok (.iload_n 2, 1) := by decide +kernel
theorem dX2_makeOrder_5 : decode cX2_makeOrder 5 = .ok (.aload_n 0, 1) := by decide +kernel
theorem dX2_makeOrder_6 : decode cX2_makeOrder 6 = .ok (.getfield 30, 3) := by decide +kernel
theorem dX2_makeOrder_9 : decode cX2_makeOrder 9 = .ok (.if_icmp .ge 28, 3) := by decide +kernel
theorem dX2_makeOrder_12 : decode cX2_makeOrder 12 = .ok (.aload_n 0, 1) := by decide +kernel
theorem dX2_makeOrder_13 : decode cX2_makeOrder 13 = .ok (.iload_n 1, 1) := by decide +kernel
theorem dX2_makeOrder_14 : decode cX2_makeOrder 14 = .ok (.invokevirtual 50, 3) := by decide +kernel
theorem dX2_makeOrder_17 : decode cX2_makeOrder 17 = .ok (.istore_n 3, 1) := by decide +kernel
theorem dX2_makeOrder_18 : decode cX2_makeOrder 18 = .ok (.aload_n 0, 1) := by decide +kernel
theorem dX2_makeOrder_19 : decode cX2_makeOrder 19 = .ok (.getfield 24, 3) := by decide +kernel
theorem dX2_makeOrder_22 : decode cX2_makeOrder 22 = .ok (.iload_n 2, 1) := by decide +kernel
theorem dX2_makeOrder_23 : decode cX2_makeOrder 23 = .ok (.iload_n 3, 1) := by decide +kernel
theorem dX2_makeOrder_24 : decode cX2_makeOrder 24 = .ok (.iastore, 1) := by decide +kernel
theorem dX2_makeOrder_25 : decode cX2_makeOrder 25 = .ok (.iload_n 1, 1) := by decide +kernel
theorem dX2_makeOrder_26 : decode cX2_makeOrder 26 = .ok (.iconst 1, 1) := by decide +kernel
theorem dX2_makeOrder_27 : decode cX2_makeOrder 27 = .ok (.iload_n 3, 1) := by decide +kernel
theorem dX2_makeOrder_28 : decode cX2_makeOrder 28 = .ok (.ishl, 1) := by decide +kernel
theorem dX2_makeOrder_29 : decode cX2_makeOrder 29 = .ok (.ior, 1) := by decide +kernel
theorem dX2_makeOrder_30 : decode cX2_makeOrder 30 = .ok (.istore_n 1, 1) := by decide +kernel
theorem dX2_makeOrder_31 : decode cX2_makeOrder 31 = .ok (.iinc 2 1, 3) := by decide +kernel
theorem dX2_makeOrder_34 : decode cX2_makeOrder 34 = .ok (.goto (-30), 3) := by decide +kernel
theorem dX2_makeOrder_37 : decode cX2_makeOrder 37 = .ok (.return_, 1) := by decide +kernel
theorem dX2_atPlace_0 : decode cX2_atPlace 0 = .ok (.aload_n 0, 1) := by decide +kernel
theorem dX2_atPlace_1 : decode cX2_atPlace 1 = .ok (.getfield 24, 3) := by decide +kernel
theorem dX2_atPlace_4 : decode cX2_atPlace 4 = .ok (.iload_n 1, 1) := by decide +kernel
theorem dX2_atPlace_5 : decode cX2_atPlace 5 = .ok (.iaload, 1) := by decide +kernel
theorem dX2_atPlace_6 : decode cX2_atPlace 6 = .ok (.ireturn, 1) := by decide +kernel
theorem dX2_downFrom_0 : decode cX2_downFrom 0 = .ok (.iconst 1, 1) := by decide +kernel
theorem dX2_downFrom_1 : decode cX2_downFrom 1 = .ok (.iload_n 1, 1) := by decide +kernel
theorem dX2_downFrom_2 : decode cX2_downFrom 2 = .ok (.ishl, 1) := by decide +kernel
theorem dX2_downFrom_3 : decode cX2_downFrom 3 = .ok (.istore_n 2, 1) := by decide +kernel
theorem dX2_downFrom_4 : decode cX2_downFrom 4 = .ok (.iconst 0, 1) := by decide +kernel
theorem dX2_downFrom_5 : decode cX2_downFrom 5 = .ok (.istore_n 3, 1) := by decide +kernel
theorem dX2_downFrom_6 : decode cX2_downFrom 6 = .ok (.iload_n 3, 1) := by decide +kernel
theorem dX2_downFrom_7 : decode cX2_downFrom 7 = .ok (.aload_n 0, 1) := by decide +kernel
theorem dX2_downFrom_8 : decode cX2_downFrom 8 = .ok (.getfield 30, 3) := by decide +kernel
theorem dX2_downFrom_11 : decode cX2_downFrom 11 = .ok (.if_icmp .ge 46, 3) := by decide +kernel
theorem dX2_downFrom_14 : decode cX2_downFrom 14 = .ok (.iconst 0, 1) := by decide +kernel
theorem dX2_downFrom_15 : decode cX2_downFrom 15 = .ok (.istore 4, 2) := by decide +kernel
theorem dX2_downFrom_17 : decode cX2_downFrom 17 = .ok (.iload 4, 2) := by decide +kernel
theorem dX2_downFrom_19 : decode cX2_downFrom 19 = .ok (.aload_n 0, 1) := by decide +kernel
theorem dX2_downFrom_20 : decode cX2_downFrom 20 = .ok (.getfield 30, 3) := by decide +kernel
theorem dX2_downFrom_23 : decode cX2_downFrom 23 = .ok (.if_icmp .ge 28, 3) := by decide +kernel
theorem dX2_downFrom_26 : decode cX2_downFrom 26 = .ok (.iload_n 2, 1) := by decide +kernel
theorem dX2_downFrom_27 : decode cX2_downFrom 27 = .ok (.iload 4, 2) := by decide +kernel
theorem dX2_downFrom_29 : decode cX2_downFrom 29 = .ok (.invokestatic 42, 3) := by decide +kernel
theorem dX2_downFrom_32 : decode cX2_downFrom 32 = .ok (.ifCond .eq 13, 3) := by decide +kernel
theorem dX2_downFrom_35 : decode cX2_downFrom 35 = .ok (.iload_n 2, 1) := by decide +kernel
theorem dX2_downFrom_36 : decode cX2_downFrom 36 = .ok (.aload_n 0, 1) := by decide +kernel
theorem dX2_downFrom_37 : decode cX2_downFrom 37 = .ok (.getfield 15, 3) := by decide +kernel
theorem dX2_downFrom_40 : decode cX2_downFrom 40 = .ok (.iload 4, 2) := by decide +kernel
theorem dX2_downFrom_42 : decode cX2_downFrom 42 = .ok (.iaload, 1) := by decide +kernel
theorem dX2_downFrom_43 : decode cX2_downFrom 43 = .ok (.ior, 1) := by decide +kernel
theorem dX2_downFrom_44 : decode cX2_downFrom 44 = .ok (.istore_n 2, 1) := by decide +kernel
theorem dX2_downFrom_45 : decode cX2_downFrom 45 = .ok (.iinc 4 1, 3) := by decide +kernel
theorem dX2_downFrom_48 : decode cX2_downFrom 48 = .ok (.goto (-31), 3) := by decide +kernel
theorem dX2_downFrom_51 : decode cX2_downFrom 51 = .ok (.iinc 3 1, 3) := by decide +kernel
theorem dX2_downFrom_54 : decode cX2_downFrom 54 = .ok (.goto (-48), 3) := by decide +kernel
theorem dX2_downFrom_57 : decode cX2_downFrom 57 = .ok (.iload_n 2, 1) := by decide +kernel
theorem dX2_downFrom_58 : decode cX2_downFrom 58 = .ok (.ireturn, 1) := by decide +kernel
theorem dX2_nextBehind_0 : decode cX2_nextBehind 0 = .ok (.iconst 0, 1) := by decide +kernel
theorem dX2_nextBehind_1 : decode cX2_nextBehind 1 = .ok (.istore_n 2, 1) := by decide +kernel
theorem dX2_nextBehind_2 : decode cX2_nextBehind 2 = .ok (.iload_n 2, 1) := by decide +kernel
theorem dX2_nextBehind_3 : decode cX2_nextBehind 3 = .ok (.aload_n 0, 1) := by decide +kernel
theorem dX2_nextBehind_4 : decode cX2_nextBehind 4 = .ok (.getfield 30, 3) := by decide +kernel
theorem dX2_nextBehind_7 : decode cX2_nextBehind 7 = .ok (.iconst 1, 1) := by decide +kernel
theorem dX2_nextBehind_8 : decode cX2_nextBehind 8 = .ok (.isub, 1) := by decide +kernel
theorem dX2_nextBehind_9 : decode cX2_nextBehind 9 = .ok (.if_icmp .ge 18, 3) := by decide +kernel
theorem dX2_nextBehind_12 : decode cX2_nextBehind 12 = .ok (.aload_n 0, 1) := by decide +kernel
theorem dX2_nextBehind_13 : decode cX2_nextBehind 13 = .ok (.iload_n 2, 1) := by decide +kernel
theorem dX2_nextBehind_14 : decode cX2_nextBehind 14 = .ok (.iload_n 1, 1) := by decide +kernel
theorem dX2_nextBehind_15 : decode cX2_nextBehind 15 = .ok (.invokevirtual 53, 3) := by decide +kernel
theorem dX2_nextBehind_18 : decode cX2_nextBehind 18 = .ok (.ifCond .ne 9, 3) := by decide +kernel
theorem dX2_nextBehind_21 : decode cX2_nextBehind 21 = .ok (.iinc 2 1, 3) := by decide +kernel
theorem dX2_nextBehind_24 : decode cX2_nextBehind 24 = .ok (.goto (-22), 3) := by decide +kernel
theorem dX2_nextBehind_27 : decode cX2_nextBehind 27 = .ok (.iload_n 2, 1) := by decide +kernel
theorem dX2_nextBehind_28 : decode cX2_nextBehind 28 = .ok (.ireturn, 1) := by decide +kernel
theorem dX2_isNext_0 : decode cX2_isNext 0 = .ok (.iload_n 2, 1) := by decide +kernel
theorem dX2_isNext_1 : decode cX2_isNext 1 = .ok (.iload_n 1, 1) := by decide +kernel
theorem dX2_isNext_2 : decode cX2_isNext 2 = .ok (.invokestatic 42, 3) := by decide +kernel
theorem dX2_isNext_5 : decode cX2_isNext 5 = .ok (.ifCond .ne 20, 3) := by decide +kernel
theorem dX2_isNext_8 : decode cX2_isNext 8 = .ok (.aload_n 0, 1) := by decide +kernel
theorem dX2_isNext_9 : decode cX2_isNext 9 = .ok (.getfield 15, 3) := by decide +kernel
theorem dX2_isNext_12 : decode cX2_isNext 12 = .ok (.iload_n 1, 1) := by decide +kernel
theorem dX2_isNext_13 : decode cX2_isNext 13 = .ok (.iaload, 1) := by decide +kernel
theorem dX2_isNext_14 : decode cX2_isNext 14 = .ok (.iload_n 2, 1) := by decide +kernel
theorem dX2_isNext_15 : decode cX2_isNext 15 = .ok (.iconst (-1), 1) := by decide +kernel
theorem dX2_isNext_16 : decode cX2_isNext 16 = .ok (.ixor, 1) := by decide +kernel
theorem dX2_isNext_17 : decode cX2_isNext 17 = .ok (.iand, 1) := by decide +kernel
theorem dX2_isNext_18 : decode cX2_isNext 18 = .ok (.ifCond .ne 7, 3) := by decide +kernel
theorem dX2_isNext_21 : decode cX2_isNext 21 = .ok (.iconst 1, 1) := by decide +kernel
theorem dX2_isNext_22 : decode cX2_isNext 22 = .ok (.goto 4, 3) := by decide +kernel
theorem dX2_isNext_25 : decode cX2_isNext 25 = .ok (.iconst 0, 1) := by decide +kernel
theorem dX2_isNext_26 : decode cX2_isNext 26 = .ok (.ireturn, 1) := by decide +kernel
theorem dX3_init_0 : decode cX3_init 0 = .ok (.aload_n 0, 1) := by decide +kernel
theorem dX3_init_1 : decode cX3_init 1 = .ok (.invokespecial 3, 3) := by decide +kernel
theorem dX3_init_4 : decode cX3_init 4 = .ok (.aload_n 0, 1) := by decide +kernel
theorem dX3_init_5 : decode cX3_init 5 = .ok (.sipush 201, 3) := by decide +kernel
theorem dX3_init_8 : decode cX3_init 8 = .ok (.bipush 40, 2) := by decide +kernel
theorem dX3_init_10 : decode cX3_init 10 = .ok (.multianewarray 11 2, 4) := by decide +kernel
theorem dX3_init_14 : decode cX3_init 14 = .ok (.putfield 13, 3) := by decide +kernel
theorem dX3_init_17 : decode cX3_init 17 = .ok (.aload_n 0, 1) := by decide +kernel
theorem dX3_init_18 : decode cX3_init 18 = .ok (.sipush 201, 3) := by decide +kernel
theorem dX3_init_21 : decode cX3_init 21 = .ok (.newarray .int, 2) := by decide +kernel
theorem dX3_init_23 : decode cX3_init 23 = .ok (.putfield 16, 3) := by decide +kernel
theorem dX3_init_26 : decode cX3_init 26 = .ok (.aload_n 0, 1) := by decide +kernel
theorem dX3_init_27 : decode cX3_init 27 = .ok (.bipush 16, 2) := by decide +kernel
theorem dX3_init_29 : decode cX3_init 29 = .ok (.newarray .int, 2) := by decide +kernel
theorem dX3_init_31 : decode cX3_init 31 = .ok (.putfield 20, 3) := by decide +kernel
theorem dX3_init_34 : decode cX3_init 34 = .ok (.aload_n 0, 1) := by decide +kernel
theorem dX3_init_35 : decode cX3_init 35 = .ok (.bipush 16, 2) := by decide +kernel
theorem dX3_init_37 : decode cX3_init 37 = .ok (.newarray .int, 2) := by decide +kernel
theorem dX3_init_39 : decode cX3_init 39 = .ok (.putfield 23, 3) := by decide +kernel
theorem dX3_init_42 : decode cX3_init 42 = .ok (.aload_n 0, 1) := by decide +kernel
theorem dX3_init_43 : decode cX3_init 43 = .ok (.bipush 40, 2) := by decide +kernel
theorem dX3_init_45 : decode cX3_init 45 = .ok (.newarray .int, 2) := by decide +kernel
theorem dX3_init_47 : decode cX3_init 47 = .ok (.putfield 26, 3) := by decide +kernel
theorem dX3_init_50 : decode cX3_init 50 = .ok (.aload_n 0, 1) := by decide +kernel
theorem dX3_init_51 : decode cX3_init 51 = .ok (.aload_n 1, 1) := by decide +kernel
theorem dX3_init_52 : decode cX3_init 52 = .ok (.putfield 29, 3) := by decide +kernel
theorem dX3_init_55 : decode cX3_init 55 = .ok (.aload_n 0, 1) := by decide +kernel
theorem dX3_init_56 : decode cX3_init 56 = .ok (.aload_n 2, 1) := by decide +kernel
theorem dX3_init_57 : decode cX3_init 57 = .ok (.putfield 33, 3) := by decide +kernel
theorem dX3_init_60 : decode cX3_init 60 = .ok (.return_, 1) := by decide +kernel
theorem dX3_given_0 : decode cX3_given 0 = .ok (.aload_n 0, 1) := by decide +kernel
theorem dX3_given_1 : decode cX3_given 1 = .ok (.getfield 37, 3) := by decide +kernel
theorem dX3_given_4 : decode cX3_given 4 = .ok (.ireturn, 1) := by decide +kernel
theorem dX3_lookUpAll_0 : decode cX3_lookUpAll 0 = .ok (.aload_n 0, 1) := by decide +kernel
theorem dX3_lookUpAll_1 : decode cX3_lookUpAll 1 = .ok (.getfield 33, 3) := by decide +kernel
theorem dX3_lookUpAll_4 : decode cX3_lookUpAll 4 = .ok (.invokevirtual 41, 3) := by decide +kernel
theorem dX3_lookUpAll_7 : decode cX3_lookUpAll 7 = .ok (.iconst 0, 1) := by decide +kernel
theorem dX3_lookUpAll_8 : decode cX3_lookUpAll 8 = .ok (.istore_n 1, 1) := by decide +kernel
theorem dX3_lookUpAll_9 : decode cX3_lookUpAll 9 = .ok (.iload_n 1, 1) := by decide +kernel
theorem dX3_lookUpAll_10 : decode cX3_lookUpAll 10 = .ok (.aload_n 0, 1) := by decide +kernel
theorem dX3_lookUpAll_11 : decode cX3_lookUpAll 11 = .ok (.getfield 33, 3) := by decide +kernel
theorem dX3_lookUpAll_14 : decode cX3_lookUpAll 14 = .ok (.invokevirtual 46, 3) := by decide +kernel
theorem dX3_lookUpAll_17 : decode cX3_lookUpAll 17 = .ok (.if_icmp .ge 21, 3) := by decide +kernel
theorem dX3_lookUpAll_20 : decode cX3_lookUpAll 20 = .ok (.aload_n 0, 1) := by decide +kernel
theorem dX3_lookUpAll_21 : decode cX3_lookUpAll 21 = .ok (.aload_n 0, 1) := by decide +kernel
theorem dX3_lookUpAll_22 : decode cX3_lookUpAll 22 = .ok (.getfield 33, 3) := by decide +kernel
theorem dX3_lookUpAll_25 : decode cX3_lookUpAll 25 = .ok (.iload_n 1, 1) := by decide +kernel
theorem dX3_lookUpAll_26 : decode cX3_lookUpAll 26 = .ok (.invokevirtual 50, 3) := by decide +kernel
theorem dX3_lookUpAll_29 : decode cX3_lookUpAll 29 = .ok (.invokevirtual 54, 3) := by decide +kernel
theorem dX3_lookUpAll_32 : decode cX3_lookUpAll 32 = .ok (.iinc 1 1, 3) := by decide +kernel
theorem dX3_lookUpAll_35 : decode cX3_lookUpAll 35 = .ok (.goto (-26), 3) := by decide +kernel
theorem dX3_lookUpAll_38 : decode cX3_lookUpAll 38 = .ok (.return_, 1) := by decide +kernel
theorem dX3_keyNow_0 : decode cX3_keyNow 0 = .ok (.aload_n 0, 1) := by decide +kernel
theorem dX3_keyNow_1 : decode cX3_keyNow 1 = .ok (.getfield 20, 3) := by decide +kernel
theorem dX3_keyNow_4 : decode cX3_keyNow 4 = .ok (.iload_n 1, 1) := by decide +kernel
theorem dX3_keyNow_5 : decode cX3_keyNow 5 = .ok (.iaload, 1) := by decide +kernel
theorem dX3_keyNow_6 : decode cX3_keyNow 6 = .ok (.ireturn, 1) := by decide +kernel
theorem dX3_withoutKey_0 : decode cX3_withoutKey 0 = .ok (.iconst 0, 1) := by decide +kernel
theorem dX3_withoutKey_1 : decode cX3_withoutKey 1 = .ok (.istore_n 1, 1) := by decide +kernel
theorem dX3_withoutKey_2 : decode cX3_withoutKey 2 = .ok (.iconst 0, 1) := by decide +kernel
theorem dX3_withoutKey_3 : decode cX3_withoutKey 3 = .ok (.istore_n 2, 1) := by decide +kernel
theorem dX3_withoutKey_4 : decode cX3_withoutKey 4 = .ok (.iload_n 2, 1) := by decide +kernel
theorem dX3_withoutKey_5 : decode cX3_withoutKey 5 = .ok (.aload_n 0, 1) := by decide +kernel
theorem dX3_withoutKey_6 : decode cX3_withoutKey 6 = .ok (.getfield 33, 3) := by decide +kernel
theorem dX3_withoutKey_9 : decode cX3_withoutKey 9 = .ok (.invokevirtual 46, 3) := by decide +kernel
theorem dX3_withoutKey_12 : decode cX3_withoutKey 12 = .ok (.if_icmp .ge 24, 3) := by decide +kernel
theorem dX3_withoutKey_15 : decode cX3_withoutKey 15 = .ok (.aload_n 0, 1) := by decide +kernel
theorem dX3_withoutKey_16 : decode cX3_withoutKey 16 = .ok (.getfield 20, 3) := by decide +kernel
theorem dX3_withoutKey_19 : decode cX3_withoutKey 19 = .ok (.iload_n 2, 1) := by decide +kernel
theorem dX3_withoutKey_20 : decode cX3_withoutKey 20 = .ok (.iaload, 1) := by decide +kernel
theorem dX3_withoutKey_21 : decode cX3_withoutKey 21 = .ok (.ifCond .ne 9, 3) := by decide +kernel
theorem dX3_withoutKey_24 : decode cX3_withoutKey 24 = .ok (.iload_n 1, 1) := by decide +kernel
theorem dX3_withoutKey_25 : decode cX3_withoutKey 25 = .ok (.iconst 1, 1) := by decide +kernel
theorem dX3_withoutKey_26 : decode cX3_withoutKey 26 = .ok (.iload_n 2, 1) := by decide +kernel
theorem dX3_withoutKey_27 : decode cX3_withoutKey 27 = .ok (.ishl, 1) := by decide +kernel
theorem dX3_withoutKey_28 : decode cX3_withoutKey 28 = .ok (.ior, 1) := by decide +kernel
theorem dX3_withoutKey_29 : decode cX3_withoutKey 29 = .ok (.istore_n 1, 1) := by decide +kernel
theorem dX3_withoutKey_30 : decode cX3_withoutKey 30 = .ok (.iinc 2 1, 3) := by decide +kernel
theorem dX3_withoutKey_33 : decode cX3_withoutKey 33 = .ok (.goto (-29), 3) := by decide +kernel
theorem dX3_withoutKey_36 : decode cX3_withoutKey 36 = .ok (.iload_n 1, 1) := by decide +kernel
theorem dX3_withoutKey_37 : decode cX3_withoutKey 37 = .ok (.ireturn, 1) := by decide +kernel
theorem dX3_hasRun_0 : decode cX3_hasRun 0 = .ok (.aload_n 0, 1) := by decide +kernel
theorem dX3_hasRun_1 : decode cX3_hasRun 1 = .ok (.getfield 23, 3) := by decide +kernel
theorem dX3_hasRun_4 : decode cX3_hasRun 4 = .ok (.iload_n 1, 1) := by decide +kernel
theorem dX3_hasRun_5 : decode cX3_hasRun 5 = .ok (.iaload, 1) := by decide +kernel
theorem dX3_hasRun_6 : decode cX3_hasRun 6 = .ok (.ifCond .eq 7, 3) := by decide +kernel
theorem dX3_hasRun_9 : decode cX3_hasRun 9 = .ok (.iconst 1, 1) := by decide +kernel
theorem dX3_hasRun_10 : decode cX3_hasRun 10 = .ok (.goto 4, 3) := by decide +kernel
theorem dX3_hasRun_13 : decode cX3_hasRun 13 = .ok (.iconst 0, 1) := by decide +kernel
theorem dX3_hasRun_14 : decode cX3_hasRun 14 = .ok (.ireturn, 1) := by decide +kernel
theorem dX3_hasLatestInputs_0 : decode cX3_hasLatestInputs 0 = .ok (.aload_n 0, 1) := by decide +kernel
theorem dX3_hasLatestInputs_1 : decode cX3_hasLatestInputs 1 = .ok (.iload_n 1, 1) := by decide +kernel
theorem dX3_hasLatestInputs_2 : decode cX3_hasLatestInputs 2 = .ok (.invokevirtual 58, 3) := by decide +kernel
theorem dX3_hasLatestInputs_5 : decode cX3_hasLatestInputs 5 = .ok (.aload_n 0, 1) := by decide +kernel
theorem dX3_hasLatestInputs_6 : decode cX3_hasLatestInputs 6 = .ok (.aload_n 0, 1) := by decide +kernel
theorem dX3_hasLatestInputs_7 : decode cX3_hasLatestInputs 7 = .ok (.getfield 23, 3) := by decide +kernel
theorem dX3_hasLatestInputs_10 : decode cX3_hasLatestInputs 10 = .ok (.iload_n 1, 1) := by decide +kernel
theorem dX3_hasLatestInputs_11 : decode cX3_hasLatestInputs 11 = .ok (.iaload, 1) := by decide +kernel
theorem dX3_hasLatestInputs_12 : decode cX3_hasLatestInputs 12 = .ok (.bipush 24, 2) := by decide +kernel
theorem dX3_hasLatestInputs_14 : decode cX3_hasLatestInputs 14 = .ok (.invokevirtual 61, 3) := by decide +kernel
theorem dX3_hasLatestInputs_17 : decode cX3_hasLatestInputs 17 = .ok (.ireturn, 1) := by decide +kernel
theorem dX3_runOrFind_0 : decode cX3_runOrFind 0 = .ok (.aload_n 0, 1) := by decide +kernel
theorem dX3_runOrFind_1 : decode cX3_runOrFind 1 = .ok (.iload_n 1, 1) := by decide +kernel
theorem dX3_runOrFind_2 : decode cX3_runOrFind 2 = .ok (.invokevirtual 54, 3) := by decide +kernel
theorem dX3_runOrFind_5 : decode cX3_runOrFind 5 = .ok (.aload_n 0, 1) := by decide +kernel
theorem dX3_runOrFind_6 : decode cX3_runOrFind 6 = .ok (.getfield 20, 3) := by decide +kernel
theorem dX3_runOrFind_9 : decode cX3_runOrFind 9 = .ok (.iload_n 1, 1) := by decide +kernel
theorem dX3_runOrFind_10 : decode cX3_runOrFind 10 = .ok (.iaload, 1) := by decide +kernel
theorem dX3_runOrFind_11 : decode cX3_runOrFind 11 = .ok (.ifCond .ne 14, 3) := by decide +kernel
theorem dX3_runOrFind_14 : decode cX3_runOrFind 14 = .ok (.aload_n 0, 1) := by decide +kernel
theorem dX3_runOrFind_15 : decode cX3_runOrFind 15 = .ok (.getfield 20, 3) := by decide +kernel
theorem dX3_runOrFind_18 : decode cX3_runOrFind 18 = .ok (.iload_n 1, 1) := by decide +kernel
theorem dX3_runOrFind_19 : decode cX3_runOrFind 19 = .ok (.aload_n 0, 1) := by decide +kernel
theorem dX3_runOrFind_20 : decode cX3_runOrFind 20 = .ok (.iload_n 1, 1) := by decide +kernel
theorem dX3_runOrFind_21 : decode cX3_runOrFind 21 = .ok (.invokevirtual 65, 3) := by decide +kernel
theorem dX3_runOrFind_24 : decode cX3_runOrFind 24 = .ok (.iastore, 1) := by decide +kernel
theorem dX3_runOrFind_25 : decode cX3_runOrFind 25 = .ok (.aload_n 0, 1) := by decide +kernel
theorem dX3_runOrFind_26 : decode cX3_runOrFind 26 = .ok (.getfield 23, 3) := by decide +kernel
theorem dX3_runOrFind_29 : decode cX3_runOrFind 29 = .ok (.iload_n 1, 1) := by decide +kernel
theorem dX3_runOrFind_30 : decode cX3_runOrFind 30 = .ok (.aload_n 0, 1) := by decide +kernel
theorem dX3_runOrFind_31 : decode cX3_runOrFind 31 = .ok (.getfield 20, 3) := by decide +kernel
theorem dX3_runOrFind_34 : decode cX3_runOrFind 34 = .ok (.iload_n 1, 1) := by decide +kernel
theorem dX3_runOrFind_35 : decode cX3_runOrFind 35 = .ok (.iaload, 1) := by decide +kernel
theorem dX3_runOrFind_36 : decode cX3_runOrFind 36 = .ok (.iastore, 1) := by decide +kernel
theorem dX3_runOrFind_37 : decode cX3_runOrFind 37 = .ok (.aload_n 0, 1) := by decide +kernel
theorem dX3_runOrFind_38 : decode cX3_runOrFind 38 = .ok (.getfield 20, 3) := by decide +kernel
theorem dX3_runOrFind_41 : decode cX3_runOrFind 41 = .ok (.iload_n 1, 1) := by decide +kernel
theorem dX3_runOrFind_42 : decode cX3_runOrFind 42 = .ok (.iaload, 1) := by decide +kernel
theorem dX3_runOrFind_43 : decode cX3_runOrFind 43 = .ok (.ireturn, 1) := by decide +kernel
theorem dX3_runOrFindAll_0 : decode cX3_runOrFindAll 0 = .ok (.iconst 0, 1) := by decide +kernel
theorem dX3_runOrFindAll_1 : decode cX3_runOrFindAll 1 = .ok (.istore_n 1, 1) := by decide +kernel
theorem dX3_runOrFindAll_2 : decode cX3_runOrFindAll 2 = .ok (.iload_n 1, 1) := by decide +kernel
theorem dX3_runOrFindAll_3 : decode cX3_runOrFindAll 3 = .ok (.aload_n 0, 1) := by decide +kernel
theorem dX3_runOrFindAll_4 : decode cX3_runOrFindAll 4 = .ok (.getfield 33, 3) := by decide +kernel
theorem dX3_runOrFindAll_7 : decode cX3_runOrFindAll 7 = .ok (.invokevirtual 46, 3) := by decide +kernel
theorem dX3_runOrFindAll_10 : decode cX3_runOrFindAll 10 = .ok (.if_icmp .ge 22, 3) := by decide +kernel
theorem dX3_runOrFindAll_13 : decode cX3_runOrFindAll 13 = .ok (.aload_n 0, 1) := by decide +kernel
theorem dX3_runOrFindAll_14 : decode cX3_runOrFindAll 14 = .ok (.aload_n 0, 1) := by decide +kernel
theorem dX3_runOrFindAll_15 : decode cX3_runOrFindAll 15 = .ok (.getfield 33, 3) := by decide +kernel
theorem dX3_runOrFindAll_18 : decode cX3_runOrFindAll 18 = .ok (.iload_n 1, 1) := by decide +kernel
theorem dX3_runOrFindAll_19 : decode cX3_runOrFindAll 19 = .ok (.invokevirtual 50, 3) := by decide +kernel
theorem dX3_runOrFindAll_22 : decode cX3_runOrFindAll 22 = .ok (.invokevirtual 68, 3) := by decide +kernel
theorem dX3_runOrFindAll_25 : decode cX3_runOrFindAll 25 = .ok (.pop, 1) := by decide +kernel
theorem dX3_runOrFindAll_26 : decode cX3_runOrFindAll 26 = .ok (.iinc 1 1, 3) := by decide +kernel
theorem dX3_runOrFindAll_29 : decode cX3_runOrFindAll 29 = .ok (.goto (-27), 3) := by decide +kernel
theorem dX3_runOrFindAll_32 : decode cX3_runOrFindAll 32 = .ok (.return_, 1) := by decide +kernel
theorem dX3_lookUp_0 : decode cX3_lookUp 0 = .ok (.aload_n 0, 1) := by decide +kernel
theorem dX3_lookUp_1 : decode cX3_lookUp 1 = .ok (.iload_n 1, 1) := by decide +kernel
theorem dX3_lookUp_2 : decode cX3_lookUp 2 = .ok (.invokevirtual 58, 3) := by decide +kernel
theorem dX3_lookUp_5 : decode cX3_lookUp 5 = .ok (.aload_n 0, 1) := by decide +kernel
theorem dX3_lookUp_6 : decode cX3_lookUp 6 = .ok (.getfield 20, 3) := by decide +kernel
theorem dX3_lookUp_9 : decode cX3_lookUp 9 = .ok (.iload_n 1, 1) := by decide +kernel
theorem dX3_lookUp_10 : decode cX3_lookUp 10 = .ok (.aload_n 0, 1) := by decide +kernel
theorem dX3_lookUp_11 : decode cX3_lookUp 11 = .ok (.iload_n 1, 1) := by decide +kernel
theorem dX3_lookUp_12 : decode cX3_lookUp 12 = .ok (.invokevirtual 71, 3) := by decide +kernel
theorem dX3_lookUp_15 : decode cX3_lookUp 15 = .ok (.ifCond .eq 11, 3) := by decide +kernel
theorem dX3_lookUp_18 : decode cX3_lookUp 18 = .ok (.aload_n 0, 1) := by decide +kernel
theorem dX3_lookUp_19 : decode cX3_lookUp 19 = .ok (.iload_n 1, 1) := by decide +kernel
theorem dX3_lookUp_20 : decode cX3_lookUp 20 = .ok (.invokevirtual 75, 3) := by decide +kernel
theorem dX3_lookUp_23 : decode cX3_lookUp 23 = .ok (.goto 4, 3) := by decide +kernel
theorem dX3_lookUp_26 : decode cX3_lookUp 26 = .ok (.iconst 0, 1) := by decide +kernel
theorem dX3_lookUp_27 : decode cX3_lookUp 27 = .ok (.iastore, 1) := by decide +kernel
theorem dX3_lookUp_28 : decode cX3_lookUp 28 = .ok (.return_, 1) := by decide +kernel
theorem dX3_dependenciesHaveKeys_0 : decode cX3_dependenciesHaveKeys 0 = .ok (.aload_n 0, 1) := by decide +kernel
theorem dX3_dependenciesHaveKeys_1 : decode cX3_dependenciesHaveKeys 1 = .ok (.getfield 33, 3) := by decide +kernel
theorem dX3_dependenciesHaveKeys_4 : decode cX3_dependenciesHaveKeys 4 = .ok (.iload_n 1, 1) := by decide +kernel
theorem dX3_dependenciesHaveKeys_5 : decode cX3_dependenciesHaveKeys 5 = .ok (.invokevirtual 78, 3) := by decide +kernel
theorem dX3_dependenciesHaveKeys_8 : decode cX3_dependenciesHaveKeys 8 = .ok (.aload_n 0, 1) := by decide +kernel
theorem dX3_dependenciesHaveKeys_9 : decode cX3_dependenciesHaveKeys 9 = .ok (.invokevirtual 81, 3) := by decide +kernel
theorem dX3_dependenciesHaveKeys_12 : decode cX3_dependenciesHaveKeys 12 = .ok (.iand, 1) := by decide +kernel
theorem dX3_dependenciesHaveKeys_13 : decode cX3_dependenciesHaveKeys 13 = .ok (.ifCond .ne 7, 3) := by decide +kernel
theorem dX3_dependenciesHaveKeys_16 : decode cX3_dependenciesHaveKeys 16 = .ok (.iconst 1, 1) := by decide +kernel
theorem dX3_dependenciesHaveKeys_17 : decode cX3_dependenciesHaveKeys 17 = .ok (.goto 4, 3) := by decide +kernel
theorem dX3_dependenciesHaveKeys_20 : decode cX3_dependenciesHaveKeys 20 = .ok (.iconst 0, 1) := by decide +kernel
theorem dX3_dependenciesHaveKeys_21 : decode cX3_dependenciesHaveKeys 21 = .ok (.ireturn, 1) := by decide +kernel
theorem dX3_fillRow_0 : decode cX3_fillRow 0 = .ok (.aload_n 0, 1) := by decide +kernel
theorem dX3_fillRow_1 : decode cX3_fillRow 1 = .ok (.getfield 33, 3) := by decide +kernel
theorem dX3_fillRow_4 : decode cX3_fillRow 4 = .ok (.iload_n 1, 1) := by decide +kernel
theorem dX3_fillRow_5 : decode cX3_fillRow 5 = .ok (.invokevirtual 84, 3) := by decide +kernel
theorem dX3_fillRow_8 : decode cX3_fillRow 8 = .ok (.invokevirtual 88, 3) := by decide +kernel
theorem dX3_fillRow_11 : decode cX3_fillRow 11 = .ok (.aload_n 0, 1) := by decide +kernel
theorem dX3_fillRow_12 : decode cX3_fillRow 12 = .ok (.getfield 29, 3) := by decide +kernel
theorem dX3_fillRow_15 : decode cX3_fillRow 15 = .ok (.invokevirtual 93, 3) := by decide +kernel
theorem dX3_fillRow_18 : decode cX3_fillRow 18 = .ok (.iand, 1) := by decide +kernel
theorem dX3_fillRow_19 : decode cX3_fillRow 19 = .ok (.istore_n 2, 1) := by decide +kernel
theorem dX3_fillRow_20 : decode cX3_fillRow 20 = .ok (.iconst 0, 1) := by decide +kernel
theorem dX3_fillRow_21 : decode cX3_fillRow 21 = .ok (.istore_n 3, 1) := by decide +kernel
theorem dX3_fillRow_22 : decode cX3_fillRow 22 = .ok (.iload_n 3, 1) := by decide +kernel
theorem dX3_fillRow_23 : decode cX3_fillRow 23 = .ok (.bipush 24, 2) := by decide +kernel
theorem dX3_fillRow_25 : decode cX3_fillRow 25 = .ok (.if_icmp .ge 37, 3) := by decide +kernel
theorem dX3_fillRow_28 : decode cX3_fillRow 28 = .ok (.aload_n 0, 1) := by decide +kernel
theorem dX3_fillRow_29 : decode cX3_fillRow 29 = .ok (.getfield 26, 3) := by decide +kernel
theorem dX3_fillRow_32 : decode cX3_fillRow 32 = .ok (.iload_n 3, 1) := by decide +kernel
theorem dX3_fillRow_33 : decode cX3_fillRow 33 = .ok (.iload_n 2, 1) := by decide +kernel
theorem dX3_fillRow_34 : decode cX3_fillRow 34 = .ok (.iload_n 3, 1) := by decide +kernel
theorem dX3_fillRow_35 : decode cX3_fillRow 35 = .ok (.invokestatic 97, 3) := by decide +kernel
theorem dX3_fillRow_38 : decode cX3_fillRow 38 = .ok (.ifCond .eq 16, 3) := by decide +kernel
theorem dX3_fillRow_41 : decode cX3_fillRow 41 = .ok (.aload_n 0, 1) := by decide +kernel
theorem dX3_fillRow_42 : decode cX3_fillRow 42 = .ok (.getfield 29, 3) := by decide +kernel
theorem dX3_fillRow_45 : decode cX3_fillRow 45 = .ok (.iload_n 3, 1) := by decide +kernel
theorem dX3_fillRow_46 : decode cX3_fillRow 46 = .ok (.invokevirtual 100, 3) := by decide +kernel
theorem dX3_fillRow_49 : decode cX3_fillRow 49 = .ok (.iconst 1, 1) := by decide +kernel
theorem dX3_fillRow_50 : decode cX3_fillRow 50 = .ok (.iadd, 1) := by decide +kernel
theorem dX3_fillRow_51 : decode cX3_fillRow 51 = .ok (.goto 4, 3) := by decide +kernel
theorem dX3_fillRow_54 : decode cX3_fillRow 54 = .ok (.iconst 0, 1) := by decide +kernel
theorem dX3_fillRow_55 : decode cX3_fillRow 55 = .ok (.iastore, 1) := by decide +kernel
theorem dX3_fillRow_56 : decode cX3_fillRow 56 = .ok (.iinc 3 1, 3) := by decide +kernel
theorem dX3_fillRow_59 : decode cX3_fillRow 59 = .ok (.goto (-37), 3) := by decide +kernel
theorem dX3_fillRow_62 : decode cX3_fillRow 62 = .ok (.aload_n 0, 1) := by decide +kernel
theorem dX3_fillRow_63 : decode cX3_fillRow 63 = .ok (.getfield 33, 3) := by decide +kernel
theorem dX3_fillRow_66 : decode cX3_fillRow 66 = .ok (.iload_n 1, 1) := by decide +kernel
theorem dX3_fillRow_67 : decode cX3_fillRow 67 = .ok (.invokevirtual 78, 3) := by decide +kernel
theorem dX3_fillRow_70 : decode cX3_fillRow 70 = .ok (.istore_n 3, 1) := by decide +kernel
theorem dX3_fillRow_71 : decode cX3_fillRow 71 = .ok (.iconst 0, 1) := by decide +kernel
theorem dX3_fillRow_72 : decode cX3_fillRow 72 = .ok (.istore 4, 2) := by decide +kernel
theorem dX3_fillRow_74 : decode cX3_fillRow 74 = .ok (.iload 4, 2) := by decide +kernel
theorem dX3_fillRow_76 : decode cX3_fillRow 76 = .ok (.bipush 16, 2) := by decide +kernel
theorem dX3_fillRow_78 : decode cX3_fillRow 78 = .ok (.if_icmp .ge 39, 3) := by decide +kernel
theorem dX3_fillRow_81 : decode cX3_fillRow 81 = .ok (.aload_n 0, 1) := by decide +kernel
theorem dX3_fillRow_82 : decode cX3_fillRow 82 = .ok (.getfield 26, 3) := by decide +kernel
theorem dX3_fillRow_85 : decode cX3_fillRow 85 = .ok (.bipush 24, 2) := by decide +kernel
theorem dX3_fillRow_87 : decode cX3_fillRow 87 = .ok (.iload 4, 2) := by decide +kernel
theorem dX3_fillRow_89 : decode cX3_fillRow 89 = .ok (.iadd, 1) := by decide +kernel
theorem dX3_fillRow_90 : decode cX3_fillRow 90 = .ok (.iload_n 3, 1) := by decide +kernel
theorem dX3_fillRow_91 : decode cX3_fillRow 91 = .ok (.iload 4, 2) := by decide +kernel
theorem dX3_fillRow_93 : decode cX3_fillRow 93 = .ok (.invokestatic 97, 3) := by decide +kernel
theorem dX3_fillRow_96 : decode cX3_fillRow 96 = .ok (.ifCond .eq 13, 3) := by decide +kernel
theorem dX3_fillRow_99 : decode cX3_fillRow 99 = .ok (.aload_n 0, 1) := by decide +kernel
theorem dX3_fillRow_100 : decode cX3_fillRow 100 = .ok (.getfield 20, 3) := by decide +kernel
theorem dX3_fillRow_103 : decode cX3_fillRow 103 = .ok (.iload 4, 2) := by decide +kernel
theorem dX3_fillRow_105 : decode cX3_fillRow 105 = .ok (.iaload, 1) := by decide +kernel
theorem dX3_fillRow_106 : decode cX3_fillRow 106 = .ok (.goto 4, 3) := by decide +kernel
theorem dX3_fillRow_109 : decode cX3_fillRow 109 = .ok (.iconst 0, 1) := by decide +kernel
theorem dX3_fillRow_110 : decode cX3_fillRow 110 = .ok (.iastore, 1) := by decide +kernel
theorem dX3_fillRow_111 : decode cX3_fillRow 111 = .ok (.iinc 4 1, 3) := by decide +kernel
theorem dX3_fillRow_114 : decode cX3_fillRow 114 = .ok (.goto (-40), 3) := by decide +kernel
theorem dX3_fillRow_117 : decode cX3_fillRow 117 = .ok (.return_, 1) := by decide +kernel
theorem dX3_keyOfRow_0 : decode cX3_keyOfRow 0 = .ok (.iconst 1, 1) := by decide +kernel
theorem dX3_keyOfRow_1 : decode cX3_keyOfRow 1 = .ok (.istore_n 2, 1) := by decide +kernel
theorem dX3_keyOfRow_2 : decode cX3_keyOfRow 2 = .ok (.iload_n 2, 1) := by decide +kernel
theorem dX3_keyOfRow_3 : decode cX3_keyOfRow 3 = .ok (.aload_n 0, 1) := by decide +kernel
theorem dX3_keyOfRow_4 : decode cX3_keyOfRow 4 = .ok (.getfield 37, 3) := by decide +kernel
theorem dX3_keyOfRow_7 : decode cX3_keyOfRow 7 = .ok (.if_icmp .gt 31, 3) := by decide +kernel
theorem dX3_keyOfRow_10 : decode cX3_keyOfRow 10 = .ok (.aload_n 0, 1) := by decide +kernel
theorem dX3_keyOfRow_11 : decode cX3_keyOfRow 11 = .ok (.getfield 16, 3) := by decide +kernel
theorem dX3_keyOfRow_14 : decode cX3_keyOfRow 14 = .ok (.iload_n 2, 1) := by decide +kernel
theorem dX3_keyOfRow_15 : decode cX3_keyOfRow 15 = .ok (.iaload, 1) := by decide +kernel
theorem dX3_keyOfRow_16 : decode cX3_keyOfRow 16 = .ok (.iload_n 1, 1) := by decide +kernel
theorem dX3_keyOfRow_17 : decode cX3_keyOfRow 17 = .ok (.if_icmp .ne 15, 3) := by decide +kernel
theorem dX3_keyOfRow_20 : decode cX3_keyOfRow 20 = .ok (.aload_n 0, 1) := by decide +kernel
theorem dX3_keyOfRow_21 : decode cX3_keyOfRow 21 = .ok (.iload_n 2, 1) := by decide +kernel
theorem dX3_keyOfRow_22 : decode cX3_keyOfRow 22 = .ok (.bipush 40, 2) := by decide +kernel
theorem dX3_keyOfRow_24 : decode cX3_keyOfRow 24 = .ok (.invokevirtual 61, 3) := by decide +kernel
theorem dX3_keyOfRow_27 : decode cX3_keyOfRow 27 = .ok (.ifCond .eq 5, 3) := by decide +kernel
theorem dX3_keyOfRow_30 : decode cX3_keyOfRow 30 = .ok (.iload_n 2, 1) := by decide +kernel
theorem dX3_keyOfRow_31 : decode cX3_keyOfRow 31 = .ok (.ireturn, 1) := by decide +kernel
theorem dX3_keyOfRow_32 : decode cX3_keyOfRow 32 = .ok (.iinc 2 1, 3) := by decide +kernel
theorem dX3_keyOfRow_35 : decode cX3_keyOfRow 35 = .ok (.goto (-33), 3) := by decide +kernel
theorem dX3_keyOfRow_38 : decode cX3_keyOfRow 38 = .ok (.iconst 0, 1) := by decide +kernel
theorem dX3_keyOfRow_39 : decode cX3_keyOfRow 39 = .ok (.ireturn, 1) := by decide +kernel
theorem dX3_agrees_0 : decode cX3_agrees 0 = .ok (.iconst 0, 1) := by decide +kernel
theorem dX3_agrees_1 : decode cX3_agrees 1 = .ok (.istore_n 3, 1) := by decide +kernel
theorem dX3_agrees_2 : decode cX3_agrees 2 = .ok (.iload_n 3, 1) := by decide +kernel
theorem dX3_agrees_3 : decode cX3_agrees 3 = .ok (.iload_n 2, 1) := by decide +kernel
theorem dX3_agrees_4 : decode cX3_agrees 4 = .ok (.if_icmp .ge 28, 3) := by decide +kernel
theorem dX3_agrees_7 : decode cX3_agrees 7 = .ok (.aload_n 0, 1) := by decide +kernel
theorem dX3_agrees_8 : decode cX3_agrees 8 = .ok (.getfield 13, 3) := by decide +kernel
theorem dX3_agrees_11 : decode cX3_agrees 11 = .ok (.iload_n 1, 1) := by decide +kernel
theorem dX3_agrees_12 : decode cX3_agrees 12 = .ok (.aaload, 1) := by decide +kernel
theorem dX3_agrees_13 : decode cX3_agrees 13 = .ok (.iload_n 3, 1) := by decide +kernel
theorem dX3_agrees_14 : decode cX3_agrees 14 = .ok (.iaload, 1) := by decide +kernel
theorem dX3_agrees_15 : decode cX3_agrees 15 = .ok (.aload_n 0, 1) := by decide +kernel
theorem dX3_agrees_16 : decode cX3_agrees 16 = .ok (.getfield 26, 3) := by decide +kernel
theorem dX3_agrees_19 : decode cX3_agrees 19 = .ok (.iload_n 3, 1) := by decide +kernel
theorem dX3_agrees_20 : decode cX3_agrees 20 = .ok (.iaload, 1) := by decide +kernel
theorem dX3_agrees_21 : decode cX3_agrees 21 = .ok (.if_icmp .eq 5, 3) := by decide +kernel
theorem dX3_agrees_24 : decode cX3_agrees 24 = .ok (.iconst 0, 1) := by decide +kernel
theorem dX3_agrees_25 : decode cX3_agrees 25 = .ok (.ireturn, 1) := by decide +kernel
theorem dX3_agrees_26 : decode cX3_agrees 26 = .ok (.iinc 3 1, 3) := by decide +kernel
theorem dX3_agrees_29 : decode cX3_agrees 29 = .ok (.goto (-27), 3) := by decide +kernel
theorem dX3_agrees_32 : decode cX3_agrees 32 = .ok (.iconst 1, 1) := by decide +kernel
theorem dX3_agrees_33 : decode cX3_agrees 33 = .ok (.ireturn, 1) := by decide +kernel
theorem dX3_give_0 : decode cX3_give 0 = .ok (.aload_n 0, 1) := by decide +kernel
theorem dX3_give_1 : decode cX3_give 1 = .ok (.dup, 1) := by decide +kernel
theorem dX3_give_2 : decode cX3_give 2 = .ok (.getfield 37, 3) := by decide +kernel
theorem dX3_give_5 : decode cX3_give 5 = .ok (.iconst 1, 1) := by decide +kernel
theorem dX3_give_6 : decode cX3_give 6 = .ok (.iadd, 1) := by decide +kernel
theorem dX3_give_7 : decode cX3_give 7 = .ok (.putfield 37, 3) := by decide +kernel
theorem dX3_give_10 : decode cX3_give 10 = .ok (.aload_n 0, 1) := by decide +kernel
theorem dX3_give_11 : decode cX3_give 11 = .ok (.getfield 16, 3) := by decide +kernel
theorem dX3_give_14 : decode cX3_give 14 = .ok (.aload_n 0, 1) := by decide +kernel
theorem dX3_give_15 : decode cX3_give 15 = .ok (.getfield 37, 3) := by decide +kernel
theorem dX3_give_18 : decode cX3_give 18 = .ok (.iload_n 1, 1) := by decide +kernel
theorem dX3_give_19 : decode cX3_give 19 = .ok (.iastore, 1) := by decide +kernel
theorem dX3_give_20 : decode cX3_give 20 = .ok (.aload_n 0, 1) := by decide +kernel
theorem dX3_give_21 : decode cX3_give 21 = .ok (.getfield 26, 3) := by decide +kernel
theorem dX3_give_24 : decode cX3_give 24 = .ok (.iconst 0, 1) := by decide +kernel
theorem dX3_give_25 : decode cX3_give 25 = .ok (.aload_n 0, 1) := by decide +kernel
theorem dX3_give_26 : decode cX3_give 26 = .ok (.getfield 13, 3) := by decide +kernel
theorem dX3_give_29 : decode cX3_give 29 = .ok (.aload_n 0, 1) := by decide +kernel
theorem dX3_give_30 : decode cX3_give 30 = .ok (.getfield 37, 3) := by decide +kernel
theorem dX3_give_33 : decode cX3_give 33 = .ok (.aaload, 1) := by decide +kernel
theorem dX3_give_34 : decode cX3_give 34 = .ok (.iconst 0, 1) := by decide +kernel
theorem dX3_give_35 : decode cX3_give 35 = .ok (.bipush 40, 2) := by decide +kernel
theorem dX3_give_37 : decode cX3_give 37 = .ok (.invokestatic 103, 3) := by decide +kernel
theorem dX3_give_40 : decode cX3_give 40 = .ok (.aload_n 0, 1) := by decide +kernel
theorem dX3_give_41 : decode cX3_give 41 = .ok (.getfield 37, 3) := by decide +kernel
theorem dX3_give_44 : decode cX3_give 44 = .ok (.ireturn, 1) := by decide +kernel
theorem dX4_init_0 : decode cX4_init 0 = .ok (.aload_n 0, 1) := by decide +kernel
theorem dX4_init_1 : decode cX4_init 1 = .ok (.invokespecial 3, 3) := by decide +kernel
theorem dX4_init_4 : decode cX4_init 4 = .ok (.aload_n 0, 1) := by decide +kernel
theorem dX4_init_5 : decode cX4_init 5 = .ok (.new 9, 3) := by decide +kernel
theorem dX4_init_8 : decode cX4_init 8 = .ok (.dup, 1) := by decide +kernel
theorem dX4_init_9 : decode cX4_init 9 = .ok (.bipush 12, 2) := by decide +kernel
theorem dX4_init_11 : decode cX4_init 11 = .ok (.invokespecial 11, 3) := by decide +kernel
theorem dX4_init_14 : decode cX4_init 14 = .ok (.putfield 14, 3) := by decide +kernel
theorem dX4_init_17 : decode cX4_init 17 = .ok (.aload_n 0, 1) := by decide +kernel
theorem dX4_init_18 : decode cX4_init 18 = .ok (.bipush 12, 2) := by decide +kernel
theorem dX4_init_20 : decode cX4_init 20 = .ok (.newarray .int, 2) := by decide +kernel
theorem dX4_init_22 : decode cX4_init 22 = .ok (.putfield 20, 3) := by decide +kernel
theorem dX4_init_25 : decode cX4_init 25 = .ok (.return_, 1) := by decide +kernel
theorem dX4_size_0 : decode cX4_size 0 = .ok (.aload_n 0, 1) := by decide +kernel
theorem dX4_size_1 : decode cX4_size 1 = .ok (.getfield 14, 3) := by decide +kernel
theorem dX4_size_4 : decode cX4_size 4 = .ok (.invokevirtual 24, 3) := by decide +kernel
theorem dX4_size_7 : decode cX4_size 7 = .ok (.ireturn, 1) := by decide +kernel
theorem dX4_isFull_0 : decode cX4_isFull 0 = .ok (.aload_n 0, 1) := by decide +kernel
theorem dX4_isFull_1 : decode cX4_isFull 1 = .ok (.getfield 14, 3) := by decide +kernel
theorem dX4_isFull_4 : decode cX4_isFull 4 = .ok (.invokevirtual 28, 3) := by decide +kernel
theorem dX4_isFull_7 : decode cX4_isFull 7 = .ok (.ireturn, 1) := by decide +kernel
theorem dX4_add_0 : decode cX4_add 0 = .ok (.aload_n 0, 1) := by decide +kernel
theorem dX4_add_1 : decode cX4_add 1 = .ok (.getfield 20, 3) := by decide +kernel
theorem dX4_add_4 : decode cX4_add 4 = .ok (.aload_n 0, 1) := by decide +kernel
theorem dX4_add_5 : decode cX4_add 5 = .ok (.getfield 14, 3) := by decide +kernel
theorem dX4_add_8 : decode cX4_add 8 = .ok (.invokevirtual 24, 3) := by decide +kernel
theorem dX4_add_11 : decode cX4_add 11 = .ok (.iload_n 3, 1) := by decide +kernel
theorem dX4_add_12 : decode cX4_add 12 = .ok (.iastore, 1) := by decide +kernel
theorem dX4_add_13 : decode cX4_add 13 = .ok (.aload_n 0, 1) := by decide +kernel
theorem dX4_add_14 : decode cX4_add 14 = .ok (.getfield 14, 3) := by decide +kernel
theorem dX4_add_17 : decode cX4_add 17 = .ok (.aload_n 1, 1) := by decide +kernel
theorem dX4_add_18 : decode cX4_add 18 = .ok (.iload_n 2, 1) := by decide +kernel
theorem dX4_add_19 : decode cX4_add 19 = .ok (.invokevirtual 32, 3) := by decide +kernel
theorem dX4_add_22 : decode cX4_add 22 = .ok (.return_, 1) := by decide +kernel
theorem dX4_meetFile_0 : decode cX4_meetFile 0 = .ok (.aload_n 0, 1) := by decide +kernel
theorem dX4_meetFile_1 : decode cX4_meetFile 1 = .ok (.getfield 14, 3) := by decide +kernel
theorem dX4_meetFile_4 : decode cX4_meetFile 4 = .ok (.iload_n 1, 1) := by decide +kernel
theorem dX4_meetFile_5 : decode cX4_meetFile 5 = .ok (.aload_n 2, 1) := by decide +kernel
theorem dX4_meetFile_6 : decode cX4_meetFile 6 = .ok (.invokevirtual 36, 3) := by decide +kernel
theorem dX4_meetFile_9 : decode cX4_meetFile 9 = .ok (.return_, 1) := by decide +kernel
theorem dX4_latestOwner_0 : decode cX4_latestOwner 0 = .ok (.aload_n 0, 1) := by decide +kernel
theorem dX4_latestOwner_1 : decode cX4_latestOwner 1 = .ok (.getfield 14, 3) := by decide +kernel
theorem dX4_latestOwner_4 : decode cX4_latestOwner 4 = .ok (.iload_n 1, 1) := by decide +kernel
theorem dX4_latestOwner_5 : decode cX4_latestOwner 5 = .ok (.invokevirtual 40, 3) := by decide +kernel
theorem dX4_latestOwner_8 : decode cX4_latestOwner 8 = .ok (.istore_n 2, 1) := by decide +kernel
theorem dX4_latestOwner_9 : decode cX4_latestOwner 9 = .ok (.iload_n 2, 1) := by decide +kernel
theorem dX4_latestOwner_10 : decode cX4_latestOwner 10 = .ok (.iconst (-1), 1) := by decide +kernel
theorem dX4_latestOwner_11 : decode cX4_latestOwner 11 = .ok (.if_icmp .ne 7, 3) := by decide +kernel
theorem dX4_latestOwner_14 : decode cX4_latestOwner 14 = .ok (.iconst (-1), 1) := by decide +kernel
theorem dX4_latestOwner_15 : decode cX4_latestOwner 15 = .ok (.goto 9, 3) := by decide +kernel
theorem dX4_latestOwner_18 : decode cX4_latestOwner 18 = .ok (.aload_n 0, 1) := by decide +kernel
theorem dX4_latestOwner_19 : decode cX4_latestOwner 19 = .ok (.getfield 20, 3) := by decide +kernel
theorem dX4_latestOwner_22 : decode cX4_latestOwner 22 = .ok (.iload_n 2, 1) := by decide +kernel
theorem dX4_latestOwner_23 : decode cX4_latestOwner 23 = .ok (.iaload, 1) := by decide +kernel
theorem dX4_latestOwner_24 : decode cX4_latestOwner 24 = .ok (.ireturn, 1) := by decide +kernel
theorem dX4_ownersOfAll_0 : decode cX4_ownersOfAll 0 = .ok (.iconst 0, 1) := by decide +kernel
theorem dX4_ownersOfAll_1 : decode cX4_ownersOfAll 1 = .ok (.istore_n 2, 1) := by decide +kernel
theorem dX4_ownersOfAll_2 : decode cX4_ownersOfAll 2 = .ok (.iconst 0, 1) := by decide +kernel
theorem dX4_ownersOfAll_3 : decode cX4_ownersOfAll 3 = .ok (.istore_n 3, 1) := by decide +kernel
theorem dX4_ownersOfAll_4 : decode cX4_ownersOfAll 4 = .ok (.iload_n 3, 1) := by decide +kernel
theorem dX4_ownersOfAll_5 : decode cX4_ownersOfAll 5 = .ok (.bipush 24, 2) := by decide +kernel
theorem dX4_ownersOfAll_7 : decode cX4_ownersOfAll 7 = .ok (.if_icmp .ge 37, 3) := by decide +kernel
theorem dX4_ownersOfAll_10 : decode cX4_ownersOfAll 10 = .ok (.aload_n 0, 1) := by decide +kernel
theorem dX4_ownersOfAll_11 : decode cX4_ownersOfAll 11 = .ok (.iload_n 3, 1) := by decide +kernel
theorem dX4_ownersOfAll_12 : decode cX4_ownersOfAll 12 = .ok (.invokevirtual 44, 3) := by decide +kernel
theorem dX4_ownersOfAll_15 : decode cX4_ownersOfAll 15 = .ok (.istore 4, 2) := by decide +kernel
theorem dX4_ownersOfAll_17 : decode cX4_ownersOfAll 17 = .ok (.iload_n 1, 1) := by decide +kernel
theorem dX4_ownersOfAll_18 : decode cX4_ownersOfAll 18 = .ok (.iload_n 3, 1) := by decide +kernel
theorem dX4_ownersOfAll_19 : decode cX4_ownersOfAll 19 = .ok (.invokestatic 47, 3) := by decide +kernel
theorem dX4_ownersOfAll_22 : decode cX4_ownersOfAll 22 = .ok (.ifCond .eq 16, 3) := by decide +kernel
theorem dX4_ownersOfAll_25 : decode cX4_ownersOfAll 25 = .ok (.iload 4, 2) := by decide +kernel
theorem dX4_ownersOfAll_27 : decode cX4_ownersOfAll 27 = .ok (.iconst (-1), 1) := by decide +kernel
theorem dX4_ownersOfAll_28 : decode cX4_ownersOfAll 28 = .ok (.if_icmp .eq 10, 3) := by decide +kernel
theorem dX4_ownersOfAll_31 : decode cX4_ownersOfAll 31 = .ok (.iload_n 2, 1) := by decide +kernel
theorem dX4_ownersOfAll_32 : decode cX4_ownersOfAll 32 = .ok (.iconst 1, 1) := by decide +kernel
theorem dX4_ownersOfAll_33 : decode cX4_ownersOfAll 33 = .ok (.iload 4, 2) := by decide +kernel
theorem dX4_ownersOfAll_35 : decode cX4_ownersOfAll 35 = .ok (.ishl, 1) := by decide +kernel
theorem dX4_ownersOfAll_36 : decode cX4_ownersOfAll 36 = .ok (.ior, 1) := by decide +kernel
theorem dX4_ownersOfAll_37 : decode cX4_ownersOfAll 37 = .ok (.istore_n 2, 1) := by decide +kernel
theorem dX4_ownersOfAll_38 : decode cX4_ownersOfAll 38 = .ok (.iinc 3 1, 3) := by decide +kernel
theorem dX4_ownersOfAll_41 : decode cX4_ownersOfAll 41 = .ok (.goto (-37), 3) := by decide +kernel
theorem dX4_ownersOfAll_44 : decode cX4_ownersOfAll 44 = .ok (.iload_n 2, 1) := by decide +kernel
theorem dX4_ownersOfAll_45 : decode cX4_ownersOfAll 45 = .ok (.ireturn, 1) := by decide +kernel
theorem dX5_init_0 : decode cX5_init 0 = .ok (.aload_n 0, 1) := by decide +kernel
theorem dX5_init_1 : decode cX5_init 1 = .ok (.invokespecial 3, 3) := by decide +kernel
theorem dX5_init_4 : decode cX5_init 4 = .ok (.aload_n 0, 1) := by decide +kernel
theorem dX5_init_5 : decode cX5_init 5 = .ok (.bipush 8, 2) := by decide +kernel
theorem dX5_init_7 : decode cX5_init 7 = .ok (.newarray .int, 2) := by decide +kernel
theorem dX5_init_9 : decode cX5_init 9 = .ok (.putfield 9, 3) := by decide +kernel
theorem dX5_init_12 : decode cX5_init 12 = .ok (.aload_n 0, 1) := by decide +kernel
theorem dX5_init_13 : decode cX5_init 13 = .ok (.bipush 16, 2) := by decide +kernel
theorem dX5_init_15 : decode cX5_init 15 = .ok (.newarray .int, 2) := by decide +kernel
theorem dX5_init_17 : decode cX5_init 17 = .ok (.putfield 15, 3) := by decide +kernel
theorem dX5_init_20 : decode cX5_init 20 = .ok (.return_, 1) := by decide +kernel
theorem dX5_over_0 : decode cX5_over 0 = .ok (.aload_n 0, 1) := by decide +kernel
theorem dX5_over_1 : decode cX5_over 1 = .ok (.getfield 9, 3) := by decide +kernel
theorem dX5_over_4 : decode cX5_over 4 = .ok (.iconst 0, 1) := by decide +kernel
theorem dX5_over_5 : decode cX5_over 5 = .ok (.invokestatic 18, 3) := by decide +kernel
theorem dX5_over_8 : decode cX5_over 8 = .ok (.aload_n 0, 1) := by decide +kernel
theorem dX5_over_9 : decode cX5_over 9 = .ok (.getfield 15, 3) := by decide +kernel
theorem dX5_over_12 : decode cX5_over 12 = .ok (.iconst (-1), 1) := by decide +kernel
theorem dX5_over_13 : decode cX5_over 13 = .ok (.invokestatic 18, 3) := by decide +kernel
theorem dX5_over_16 : decode cX5_over 16 = .ok (.iload_n 2, 1) := by decide +kernel
theorem dX5_over_17 : decode cX5_over 17 = .ok (.istore 4, 2) := by decide +kernel
theorem dX5_over_19 : decode cX5_over 19 = .ok (.iload_n 2, 1) := by decide +kernel
theorem dX5_over_20 : decode cX5_over 20 = .ok (.invokestatic 24, 3) := by decide +kernel
theorem dX5_over_23 : decode cX5_over 23 = .ok (.istore 5, 2) := by decide +kernel
theorem dX5_over_25 : decode cX5_over 25 = .ok (.iload 5, 2) := by decide +kernel
theorem dX5_over_27 : decode cX5_over 27 = .ok (.ifCond .le 61, 3) := by decide +kernel
theorem dX5_over_30 : decode cX5_over 30 = .ok (.aload_n 0, 1) := by decide +kernel
theorem dX5_over_31 : decode cX5_over 31 = .ok (.aload_n 1, 1) := by decide +kernel
theorem dX5_over_32 : decode cX5_over 32 = .ok (.iload 4, 2) := by decide +kernel
theorem dX5_over_34 : decode cX5_over 34 = .ok (.invokevirtual 30, 3) := by decide +kernel
theorem dX5_over_37 : decode cX5_over 37 = .ok (.istore 6, 2) := by decide +kernel
theorem dX5_over_39 : decode cX5_over 39 = .ok (.aload_n 0, 1) := by decide +kernel
theorem dX5_over_40 : decode cX5_over 40 = .ok (.iload_n 3, 1) := by decide +kernel
theorem dX5_over_41 : decode cX5_over 41 = .ok (.invokevirtual 34, 3) := by decide +kernel
theorem dX5_over_44 : decode cX5_over 44 = .ok (.istore 7, 2) := by decide +kernel
theorem dX5_over_46 : decode cX5_over 46 = .ok (.aload_n 0, 1) := by decide +kernel
theorem dX5_over_47 : decode cX5_over 47 = .ok (.getfield 15, 3) := by decide +kernel
theorem dX5_over_50 : decode cX5_over 50 = .ok (.iload 6, 2) := by decide +kernel
theorem dX5_over_52 : decode cX5_over 52 = .ok (.iload 7, 2) := by decide +kernel
theorem dX5_over_54 : decode cX5_over 54 = .ok (.iastore, 1) := by decide +kernel
theorem dX5_over_55 : decode cX5_over 55 = .ok (.aload_n 0, 1) := by decide +kernel
theorem dX5_over_56 : decode cX5_over 56 = .ok (.getfield 9, 3) := by decide +kernel
theorem dX5_over_59 : decode cX5_over 59 = .ok (.iload 7, 2) := by decide +kernel
theorem dX5_over_61 : decode cX5_over 61 = .ok (.dup2, 1) := by decide +kernel
theorem dX5_over_62 : decode cX5_over 62 = .ok (.iaload, 1) := by decide +kernel
theorem dX5_over_63 : decode cX5_over 63 = .ok (.aload_n 1, 1) := by decide +kernel
theorem dX5_over_64 : decode cX5_over 64 = .ok (.iload 6, 2) := by decide +kernel
theorem dX5_over_66 : decode cX5_over 66 = .ok (.invokevirtual 37, 3) := by decide +kernel
theorem dX5_over_69 : decode cX5_over 69 = .ok (.iadd, 1) := by decide +kernel
theorem dX5_over_70 : decode cX5_over 70 = .ok (.iastore, 1) := by decide +kernel
theorem dX5_over_71 : decode cX5_over 71 = .ok (.iload 4, 2) := by decide +kernel
theorem dX5_over_73 : decode cX5_over 73 = .ok (.iconst 1, 1) := by decide +kernel
theorem dX5_over_74 : decode cX5_over 74 = .ok (.iload 6, 2) := by decide +kernel
theorem dX5_over_76 : decode cX5_over 76 = .ok (.ishl, 1) := by decide +kernel
theorem dX5_over_77 : decode cX5_over 77 = .ok (.iconst (-1), 1) := by decide +kernel
theorem dX5_over_78 : decode cX5_over 78 = .ok (.ixor, 1) := by decide +kernel
theorem dX5_over_79 : decode cX5_over 79 = .ok (.iand, 1) := by decide +kernel
theorem dX5_over_80 : decode cX5_over 80 = .ok (.istore 4, 2) := by decide +kernel
theorem dX5_over_82 : decode cX5_over 82 = .ok (.iinc 5 (-1), 3) := by decide +kernel
theorem dX5_over_85 : decode cX5_over 85 = .ok (.goto (-60), 3) := by decide +kernel
theorem dX5_over_88 : decode cX5_over 88 = .ok (.return_, 1) := by decide +kernel
theorem dX5_placeOf_0 : decode cX5_placeOf 0 = .ok (.aload_n 0, 1) := by decide +kernel
theorem dX5_placeOf_1 : decode cX5_placeOf 1 = .ok (.getfield 15, 3) := by decide +kernel
theorem dX5_placeOf_4 : decode cX5_placeOf 4 = .ok (.iload_n 1, 1) := by decide +kernel
theorem dX5_placeOf_5 : decode cX5_placeOf 5 = .ok (.iaload, 1) := by decide +kernel
theorem dX5_placeOf_6 : decode cX5_placeOf 6 = .ok (.ireturn, 1) := by decide +kernel
theorem dX5_greatestLoad_0 : decode cX5_greatestLoad 0 = .ok (.iconst 0, 1) := by decide +kernel
theorem dX5_greatestLoad_1 : decode cX5_greatestLoad 1 = .ok (.istore_n 1, 1) := by decide +kernel
theorem dX5_greatestLoad_2 : decode cX5_greatestLoad 2 = .ok (.iconst 0, 1) := by decide +kernel
theorem dX5_greatestLoad_3 : decode cX5_greatestLoad 3 = .ok (.istore_n 2, 1) := by decide +kernel
theorem dX5_greatestLoad_4 : decode cX5_greatestLoad 4 = .ok (.iload_n 2, 1) := by decide +kernel
theorem dX5_greatestLoad_5 : decode cX5_greatestLoad 5 = .ok (.bipush 8, 2) := by decide +kernel
theorem dX5_greatestLoad_7 : decode cX5_greatestLoad 7 = .ok (.if_icmp .ge 20, 3) := by decide +kernel
theorem dX5_greatestLoad_10 : decode cX5_greatestLoad 10 = .ok (.iload_n 1, 1) := by decide +kernel
theorem dX5_greatestLoad_11 : decode cX5_greatestLoad 11 = .ok (.aload_n 0, 1) := by decide +kernel
theorem dX5_greatestLoad_12 : decode cX5_greatestLoad 12 = .ok (.getfield 9, 3) := by decide +kernel
theorem dX5_greatestLoad_15 : decode cX5_greatestLoad 15 = .ok (.iload_n 2, 1) := by decide +kernel
theorem dX5_greatestLoad_16 : decode cX5_greatestLoad 16 = .ok (.iaload, 1) := by decide +kernel
theorem dX5_greatestLoad_17 : decode cX5_greatestLoad 17 = .ok (.invokestatic 42, 3) := by decide +kernel
theorem dX5_greatestLoad_20 : decode cX5_greatestLoad 20 = .ok (.istore_n 1, 1) := by decide +kernel
theorem dX5_greatestLoad_21 : decode cX5_greatestLoad 21 = .ok (.iinc 2 1, 3) := by decide +kernel
theorem dX5_greatestLoad_24 : decode cX5_greatestLoad 24 = .ok (.goto (-20), 3) := by decide +kernel
theorem dX5_greatestLoad_27 : decode cX5_greatestLoad 27 = .ok (.iload_n 1, 1) := by decide +kernel
theorem dX5_greatestLoad_28 : decode cX5_greatestLoad 28 = .ok (.ireturn, 1) := by decide +kernel
theorem dX5_dearest_0 : decode cX5_dearest 0 = .ok (.iconst 0, 1) := by decide +kernel
theorem dX5_dearest_1 : decode cX5_dearest 1 = .ok (.istore_n 3, 1) := by decide +kernel
theorem dX5_dearest_2 : decode cX5_dearest 2 = .ok (.iconst 0, 1) := by decide +kernel
theorem dX5_dearest_3 : decode cX5_dearest 3 = .ok (.istore 4, 2) := by decide +kernel
theorem dX5_dearest_5 : decode cX5_dearest 5 = .ok (.iconst 0, 1) := by decide +kernel
theorem dX5_dearest_6 : decode cX5_dearest 6 = .ok (.istore 5, 2) := by decide +kernel
theorem dX5_dearest_8 : decode cX5_dearest 8 = .ok (.iload 5, 2) := by decide +kernel
theorem dX5_dearest_10 : decode cX5_dearest 10 = .ok (.aload_n 1, 1) := by decide +kernel
theorem dX5_dearest_11 : decode cX5_dearest 11 = .ok (.invokevirtual 48, 3) := by decide +kernel
theorem dX5_dearest_14 : decode cX5_dearest 14 = .ok (.if_icmp .ge 40, 3) := by decide +kernel
theorem dX5_dearest_17 : decode cX5_dearest 17 = .ok (.iload_n 2, 1) := by decide +kernel
theorem dX5_dearest_18 : decode cX5_dearest 18 = .ok (.iload 5, 2) := by decide +kernel
theorem dX5_dearest_20 : decode cX5_dearest 20 = .ok (.invokestatic 52, 3) := by decide +kernel
theorem dX5_dearest_23 : decode cX5_dearest 23 = .ok (.ifCond .eq 25, 3) := by decide +kernel
theorem dX5_dearest_26 : decode cX5_dearest 26 = .ok (.aload_n 1, 1) := by decide +kernel
theorem dX5_dearest_27 : decode cX5_dearest 27 = .ok (.iload 5, 2) := by decide +kernel
theorem dX5_dearest_29 : decode cX5_dearest 29 = .ok (.invokevirtual 37, 3) := by decide +kernel
theorem dX5_dearest_32 : decode cX5_dearest 32 = .ok (.iload 4, 2) := by decide +kernel
theorem dX5_dearest_34 : decode cX5_dearest 34 = .ok (.if_icmp .le 14, 3) := by decide +kernel
theorem dX5_dearest_37 : decode cX5_dearest 37 = .ok (.iload 5, 2) := by decide +kernel
theorem dX5_dearest_39 : decode cX5_dearest 39 = .ok (.istore_n 3, 1) := by decide +kernel
theorem dX5_dearest_40 : decode cX5_dearest 40 = .ok (.aload_n 1, 1) := by decide +kernel
theorem dX5_dearest_41 : decode cX5_dearest 41 = .ok (.iload 5, 2) := by decide +kernel
theorem dX5_dearest_43 : decode cX5_dearest 43 = .ok (.invokevirtual 37, 3) := by decide +kernel
theorem dX5_dearest_46 : decode cX5_dearest 46 = .ok (.istore 4, 2) := by decide +kernel
theorem dX5_dearest_48 : decode cX5_dearest 48 = .ok (.iinc 5 1, 3) := by decide +kernel
theorem dX5_dearest_51 : decode cX5_dearest 51 = .ok (.goto (-43), 3) := by decide +kernel
theorem dX5_dearest_54 : decode cX5_dearest 54 = .ok (.iload_n 3, 1) := by decide +kernel
theorem dX5_dearest_55 : decode cX5_dearest 55 = .ok (.ireturn, 1) := by decide +kernel
theorem dX5_lightest_0 : decode cX5_lightest 0 = .ok (.iconst 0, 1) := by decide +kernel
theorem dX5_lightest_1 : decode cX5_lightest 1 = .ok (.istore_n 2, 1) := by decide +kernel
theorem dX5_lightest_2 : decode cX5_lightest 2 = .ok (.iconst 1, 1) := by decide +kernel
theorem dX5_lightest_3 : decode cX5_lightest 3 = .ok (.istore_n 3, 1) := by decide +kernel
theorem dX5_lightest_4 : decode cX5_lightest 4 = .ok (.iload_n 3, 1) := by decide +kernel
theorem dX5_lightest_5 : decode cX5_lightest 5 = .ok (.iload_n 1, 1) := by decide +kernel
theorem dX5_lightest_6 : decode cX5_lightest 6 = .ok (.if_icmp .ge 26, 3) := by decide +kernel
theorem dX5_lightest_9 : decode cX5_lightest 9 = .ok (.aload_n 0, 1) := by decide +kernel
theorem dX5_lightest_10 : decode cX5_lightest 10 = .ok (.getfield 9, 3) := by decide +kernel
theorem dX5_lightest_13 : decode cX5_lightest 13 = .ok (.iload_n 3, 1) := by decide +kernel
theorem dX5_lightest_14 : decode cX5_lightest 14 = .ok (.iaload, 1) := by decide +kernel
theorem dX5_lightest_15 : decode cX5_lightest 15 = .ok (.aload_n 0, 1) := by decide +kernel
theorem dX5_lightest_16 : decode cX5_lightest 16 = .ok (.getfield 9, 3) := by decide +kernel
theorem dX5_lightest_19 : decode cX5_lightest 19 = .ok (.iload_n 2, 1) := by decide +kernel
theorem dX5_lightest_20 : decode cX5_lightest 20 = .ok (.iaload, 1) := by decide +kernel
theorem dX5_lightest_21 : decode cX5_lightest 21 = .ok (.if_icmp .ge 5, 3) := by decide +kernel
theorem dX5_lightest_24 : decode cX5_lightest 24 = .ok (.iload_n 3, 1) := by decide +kernel
theorem dX5_lightest_25 : decode cX5_lightest 25 = .ok (.istore_n 2, 1) := by decide +kernel
theorem dX5_lightest_26 : decode cX5_lightest 26 = .ok (.iinc 3 1, 3) := by decide +kernel
theorem dX5_lightest_29 : decode cX5_lightest 29 = .ok (.goto (-25), 3) := by decide +kernel
theorem dX5_lightest_32 : decode cX5_lightest 32 = .ok (.iload_n 2, 1) := by decide +kernel
theorem dX5_lightest_33 : decode cX5_lightest 33 = .ok (.ireturn, 1) := by decide +kernel
theorem dX6_init_0 : decode cX6_init 0 = .ok (.aload_n 0, 1) := by decide +kernel
theorem dX6_init_1 : decode cX6_init 1 = .ok (.invokespecial 3, 3) := by decide +kernel
theorem dX6_init_4 : decode cX6_init 4 = .ok (.aload_n 0, 1) := by decide +kernel
theorem dX6_init_5 : decode cX6_init 5 = .ok (.bipush 24, 2) := by decide +kernel
theorem dX6_init_7 : decode cX6_init 7 = .ok (.newarray .char, 2) := by decide +kernel
theorem dX6_init_9 : decode cX6_init 9 = .ok (.putfield 9, 3) := by decide +kernel
theorem dX6_init_12 : decode cX6_init 12 = .ok (.return_, 1) := by decide +kernel
theorem dX6_size_0 : decode cX6_size 0 = .ok (.aload_n 0, 1) := by decide +kernel
theorem dX6_size_1 : decode cX6_size 1 = .ok (.getfield 15, 3) := by decide +kernel
theorem dX6_size_4 : decode cX6_size 4 = .ok (.ireturn, 1) := by decide +kernel
theorem dX6_isFull_0 : decode cX6_isFull 0 = .ok (.aload_n 0, 1) := by decide +kernel
theorem dX6_isFull_1 : decode cX6_isFull 1 = .ok (.getfield 15, 3) := by decide +kernel
theorem dX6_isFull_4 : decode cX6_isFull 4 = .ok (.bipush 24, 2) := by decide +kernel
theorem dX6_isFull_6 : decode cX6_isFull 6 = .ok (.if_icmp .lt 7, 3) := by decide +kernel
theorem dX6_isFull_9 : decode cX6_isFull 9 = .ok (.iconst 1, 1) := by decide +kernel
theorem dX6_isFull_10 : decode cX6_isFull 10 = .ok (.goto 4, 3) := by decide +kernel
theorem dX6_isFull_13 : decode cX6_isFull 13 = .ok (.iconst 0, 1) := by decide +kernel
theorem dX6_isFull_14 : decode cX6_isFull 14 = .ok (.ireturn, 1) := by decide +kernel
theorem dX6_append_0 : decode cX6_append 0 = .ok (.aload_n 0, 1) := by decide +kernel
theorem dX6_append_1 : decode cX6_append 1 = .ok (.getfield 9, 3) := by decide +kernel
theorem dX6_append_4 : decode cX6_append 4 = .ok (.aload_n 0, 1) := by decide +kernel
theorem dX6_append_5 : decode cX6_append 5 = .ok (.getfield 15, 3) := by decide +kernel
theorem dX6_append_8 : decode cX6_append 8 = .ok (.iload_n 1, 1) := by decide +kernel
theorem dX6_append_9 : decode cX6_append 9 = .ok (.castore, 1) := by decide +kernel
theorem dX6_append_10 : decode cX6_append 10 = .ok (.aload_n 0, 1) := by decide +kernel
theorem dX6_append_11 : decode cX6_append 11 = .ok (.dup, 1) := by decide +kernel
theorem dX6_append_12 : decode cX6_append 12 = .ok (.getfield 15, 3) := by decide +kernel
theorem dX6_append_15 : decode cX6_append 15 = .ok (.iconst 1, 1) := by decide +kernel
theorem dX6_append_16 : decode cX6_append 16 = .ok (.iadd, 1) := by decide +kernel
theorem dX6_append_17 : decode cX6_append 17 = .ok (.putfield 15, 3) := by decide +kernel
theorem dX6_append_20 : decode cX6_append 20 = .ok (.return_, 1) := by decide +kernel
theorem dX6_empty_0 : decode cX6_empty 0 = .ok (.aload_n 0, 1) := by decide +kernel
theorem dX6_empty_1 : decode cX6_empty 1 = .ok (.iconst 0, 1) := by decide +kernel
theorem dX6_empty_2 : decode cX6_empty 2 = .ok (.putfield 15, 3) := by decide +kernel
theorem dX6_empty_5 : decode cX6_empty 5 = .ok (.return_, 1) := by decide +kernel
theorem dX6_copyFrom_0 : decode cX6_copyFrom 0 = .ok (.aload_n 0, 1) := by decide +kernel
theorem dX6_copyFrom_1 : decode cX6_copyFrom 1 = .ok (.aload_n 1, 1) := by decide +kernel
theorem dX6_copyFrom_2 : decode cX6_copyFrom 2 = .ok (.getfield 15, 3) := by decide +kernel
theorem dX6_copyFrom_5 : decode cX6_copyFrom 5 = .ok (.putfield 15, 3) := by decide +kernel
theorem dX6_copyFrom_8 : decode cX6_copyFrom 8 = .ok (.iconst 0, 1) := by decide +kernel
theorem dX6_copyFrom_9 : decode cX6_copyFrom 9 = .ok (.istore_n 2, 1) := by decide +kernel
theorem dX6_copyFrom_10 : decode cX6_copyFrom 10 = .ok (.iload_n 2, 1) := by decide +kernel
theorem dX6_copyFrom_11 : decode cX6_copyFrom 11 = .ok (.aload_n 0, 1) := by decide +kernel
theorem dX6_copyFrom_12 : decode cX6_copyFrom 12 = .ok (.getfield 15, 3) := by decide +kernel
theorem dX6_copyFrom_15 : decode cX6_copyFrom 15 = .ok (.if_icmp .ge 21, 3) := by decide +kernel
theorem dX6_copyFrom_18 : decode cX6_copyFrom 18 = .ok (.aload_n 0, 1) := by decide +kernel
theorem dX6_copyFrom_19 : decode cX6_copyFrom 19 = .ok (.getfield 9, 3) := by decide +kernel
theorem dX6_copyFrom_22 : decode cX6_copyFrom 22 = .ok (.iload_n 2, 1) := by decide +kernel
theorem dX6_copyFrom_23 : decode cX6_copyFrom 23 = .ok (.aload_n 1, 1) := by decide +kernel
theorem dX6_copyFrom_24 : decode cX6_copyFrom 24 = .ok (.getfield 9, 3) := by decide +kernel
theorem dX6_copyFrom_27 : decode cX6_copyFrom 27 = .ok (.iload_n 2, 1) := by decide +kernel
theorem dX6_copyFrom_28 : decode cX6_copyFrom 28 = .ok (.caload, 1) := by decide +kernel
theorem dX6_copyFrom_29 : decode cX6_copyFrom 29 = .ok (.castore, 1) := by decide +kernel
theorem dX6_copyFrom_30 : decode cX6_copyFrom 30 = .ok (.iinc 2 1, 3) := by decide +kernel
theorem dX6_copyFrom_33 : decode cX6_copyFrom 33 = .ok (.goto (-23), 3) := by decide +kernel
theorem dX6_copyFrom_36 : decode cX6_copyFrom 36 = .ok (.return_, 1) := by decide +kernel
theorem dX6_isSameAs_0 : decode cX6_isSameAs 0 = .ok (.aload_n 0, 1) := by decide +kernel
theorem dX6_isSameAs_1 : decode cX6_isSameAs 1 = .ok (.getfield 15, 3) := by decide +kernel
theorem dX6_isSameAs_4 : decode cX6_isSameAs 4 = .ok (.aload_n 1, 1) := by decide +kernel
theorem dX6_isSameAs_5 : decode cX6_isSameAs 5 = .ok (.getfield 15, 3) := by decide +kernel
theorem dX6_isSameAs_8 : decode cX6_isSameAs 8 = .ok (.if_icmp .eq 5, 3) := by decide +kernel
theorem dX6_isSameAs_11 : decode cX6_isSameAs 11 = .ok (.iconst 0, 1) := by decide +kernel
theorem dX6_isSameAs_12 : decode cX6_isSameAs 12 = .ok (.ireturn, 1) := by decide +kernel
theorem dX6_isSameAs_13 : decode cX6_isSameAs 13 = .ok (.iconst 0, 1) := by decide +kernel
theorem dX6_isSameAs_14 : decode cX6_isSameAs 14 = .ok (.istore_n 2, 1) := by decide +kernel
theorem dX6_isSameAs_15 : decode cX6_isSameAs 15 = .ok (.iload_n 2, 1) := by decide +kernel
theorem dX6_isSameAs_16 : decode cX6_isSameAs 16 = .ok (.aload_n 0, 1) := by decide +kernel
theorem dX6_isSameAs_17 : decode cX6_isSameAs 17 = .ok (.getfield 15, 3) := by decide +kernel
theorem dX6_isSameAs_20 : decode cX6_isSameAs 20 = .ok (.if_icmp .ge 26, 3) := by decide +kernel
theorem dX6_isSameAs_23 : decode cX6_isSameAs 23 = .ok (.aload_n 0, 1) := by decide +kernel
theorem dX6_isSameAs_24 : decode cX6_isSameAs 24 = .ok (.getfield 9, 3) := by decide +kernel
theorem dX6_isSameAs_27 : decode cX6_isSameAs 27 = .ok (.iload_n 2, 1) := by decide +kernel
theorem dX6_isSameAs_28 : decode cX6_isSameAs 28 = .ok (.caload, 1) := by decide +kernel
theorem dX6_isSameAs_29 : decode cX6_isSameAs 29 = .ok (.aload_n 1, 1) := by decide +kernel
theorem dX6_isSameAs_30 : decode cX6_isSameAs 30 = .ok (.getfield 9, 3) := by decide +kernel
theorem dX6_isSameAs_33 : decode cX6_isSameAs 33 = .ok (.iload_n 2, 1) := by decide +kernel
theorem dX6_isSameAs_34 : decode cX6_isSameAs 34 = .ok (.caload, 1) := by decide +kernel
theorem dX6_isSameAs_35 : decode cX6_isSameAs 35 = .ok (.if_icmp .eq 5, 3) := by decide +kernel
theorem dX6_isSameAs_38 : decode cX6_isSameAs 38 = .ok (.iconst 0, 1) := by decide +kernel
theorem dX6_isSameAs_39 : decode cX6_isSameAs 39 = .ok (.ireturn, 1) := by decide +kernel
theorem dX6_isSameAs_40 : decode cX6_isSameAs 40 = .ok (.iinc 2 1, 3) := by decide +kernel
theorem dX6_isSameAs_43 : decode cX6_isSameAs 43 = .ok (.goto (-28), 3) := by decide +kernel
theorem dX6_isSameAs_46 : decode cX6_isSameAs 46 = .ok (.iconst 1, 1) := by decide +kernel
theorem dX6_isSameAs_47 : decode cX6_isSameAs 47 = .ok (.ireturn, 1) := by decide +kernel
theorem dX6_hasPathForm_0 : decode cX6_hasPathForm 0 = .ok (.iconst 0, 1) := by decide +kernel
theorem dX6_hasPathForm_1 : decode cX6_hasPathForm 1 = .ok (.istore_n 1, 1) := by decide +kernel
theorem dX6_hasPathForm_2 : decode cX6_hasPathForm 2 = .ok (.iload_n 1, 1) := by decide +kernel
theorem dX6_hasPathForm_3 : decode cX6_hasPathForm 3 = .ok (.aload_n 0, 1) := by decide +kernel
theorem dX6_hasPathForm_4 : decode cX6_hasPathForm 4 = .ok (.getfield 15, 3) := by decide +kernel
theorem dX6_hasPathForm_7 : decode cX6_hasPathForm 7 = .ok (.if_icmp .ge 33, 3) := by decide +kernel
theorem dX6_hasPathForm_10 : decode cX6_hasPathForm 10 = .ok (.aload_n 0, 1) := by decide +kernel
theorem dX6_hasPathForm_11 : decode cX6_hasPathForm 11 = .ok (.getfield 9, 3) := by decide +kernel
theorem dX6_hasPathForm_14 : decode cX6_hasPathForm 14 = .ok (.iload_n 1, 1) := by decide +kernel
theorem dX6_hasPathForm_15 : decode cX6_hasPathForm 15 = .ok (.caload, 1) := by decide +kernel
theorem dX6_hasPathForm_16 : decode cX6_hasPathForm 16 = .ok (.bipush 42, 2) := by decide +kernel
theorem dX6_hasPathForm_18 : decode cX6_hasPathForm 18 = .ok (.if_icmp .eq 14, 3) := by decide +kernel
theorem dX6_hasPathForm_21 : decode cX6_hasPathForm 21 = .ok (.aload_n 0, 1) := by decide +kernel
theorem dX6_hasPathForm_22 : decode cX6_hasPathForm 22 = .ok (.getfield 9, 3) := by decide +kernel
theorem dX6_hasPathForm_25 : decode cX6_hasPathForm 25 = .ok (.iload_n 1, 1) := by decide +kernel
theorem dX6_hasPathForm_26 : decode cX6_hasPathForm 26 = .ok (.caload, 1) := by decide +kernel
theorem dX6_hasPathForm_27 : decode cX6_hasPathForm 27 = .ok (.bipush 63, 2) := by decide +kernel
theorem dX6_hasPathForm_29 : decode cX6_hasPathForm 29 = .ok (.if_icmp .ne 5, 3) := by decide +kernel
theorem dX6_hasPathForm_32 : decode cX6_hasPathForm 32 = .ok (.iconst 0, 1) := by decide +kernel
theorem dX6_hasPathForm_33 : decode cX6_hasPathForm 33 = .ok (.ireturn, 1) := by decide +kernel
theorem dX6_hasPathForm_34 : decode cX6_hasPathForm 34 = .ok (.iinc 1 1, 3) := by decide +kernel
theorem dX6_hasPathForm_37 : decode cX6_hasPathForm 37 = .ok (.goto (-35), 3) := by decide +kernel
theorem dX6_hasPathForm_40 : decode cX6_hasPathForm 40 = .ok (.aload_n 0, 1) := by decide +kernel
theorem dX6_hasPathForm_41 : decode cX6_hasPathForm 41 = .ok (.invokevirtual 19, 3) := by decide +kernel
theorem dX6_hasPathForm_44 : decode cX6_hasPathForm 44 = .ok (.ifCond .ne 7, 3) := by decide +kernel
theorem dX6_hasPathForm_47 : decode cX6_hasPathForm 47 = .ok (.iconst 1, 1) := by decide +kernel
theorem dX6_hasPathForm_48 : decode cX6_hasPathForm 48 = .ok (.goto 4, 3) := by decide +kernel
theorem dX6_hasPathForm_51 : decode cX6_hasPathForm 51 = .ok (.iconst 0, 1) := by decide +kernel
theorem dX6_hasPathForm_52 : decode cX6_hasPathForm 52 = .ok (.ireturn, 1) := by decide +kernel
theorem dX6_hasGlobForm_0 : decode cX6_hasGlobForm 0 = .ok (.iconst 0, 1) := by decide +kernel
theorem dX6_hasGlobForm_1 : decode cX6_hasGlobForm 1 = .ok (.istore_n 1, 1) := by decide +kernel
theorem dX6_hasGlobForm_2 : decode cX6_hasGlobForm 2 = .ok (.iload_n 1, 1) := by decide +kernel
theorem dX6_hasGlobForm_3 : decode cX6_hasGlobForm 3 = .ok (.aload_n 0, 1) := by decide +kernel
theorem dX6_hasGlobForm_4 : decode cX6_hasGlobForm 4 = .ok (.getfield 15, 3) := by decide +kernel
theorem dX6_hasGlobForm_7 : decode cX6_hasGlobForm 7 = .ok (.if_icmp .ge 43, 3) := by decide +kernel
theorem dX6_hasGlobForm_10 : decode cX6_hasGlobForm 10 = .ok (.aload_n 0, 1) := by decide +kernel
theorem dX6_hasGlobForm_11 : decode cX6_hasGlobForm 11 = .ok (.iload_n 1, 1) := by decide +kernel
theorem dX6_hasGlobForm_12 : decode cX6_hasGlobForm 12 = .ok (.invokevirtual 23, 3) := by decide +kernel
theorem dX6_hasGlobForm_15 : decode cX6_hasGlobForm 15 = .ok (.ifCond .eq 29, 3) := by decide +kernel
theorem dX6_hasGlobForm_18 : decode cX6_hasGlobForm 18 = .ok (.aload_n 0, 1) := by decide +kernel
theorem dX6_hasGlobForm_19 : decode cX6_hasGlobForm 19 = .ok (.iload_n 1, 1) := by decide +kernel
theorem dX6_hasGlobForm_20 : decode cX6_hasGlobForm 20 = .ok (.iconst 1, 1) := by decide +kernel
theorem dX6_hasGlobForm_21 : decode cX6_hasGlobForm 21 = .ok (.isub, 1) := by decide +kernel
theorem dX6_hasGlobForm_22 : decode cX6_hasGlobForm 22 = .ok (.invokevirtual 27, 3) := by decide +kernel
theorem dX6_hasGlobForm_25 : decode cX6_hasGlobForm 25 = .ok (.bipush 47, 2) := by decide +kernel
theorem dX6_hasGlobForm_27 : decode cX6_hasGlobForm 27 = .ok (.if_icmp .ne 15, 3) := by decide +kernel
theorem dX6_hasGlobForm_30 : decode cX6_hasGlobForm 30 = .ok (.aload_n 0, 1) := by decide +kernel
theorem dX6_hasGlobForm_31 : decode cX6_hasGlobForm 31 = .ok (.iload_n 1, 1) := by decide +kernel
theorem dX6_hasGlobForm_32 : decode cX6_hasGlobForm 32 = .ok (.iconst 2, 1) := by decide +kernel
theorem dX6_hasGlobForm_33 : decode cX6_hasGlobForm 33 = .ok (.iadd, 1) := by decide +kernel
theorem dX6_hasGlobForm_34 : decode cX6_hasGlobForm 34 = .ok (.invokevirtual 27, 3) := by decide +kernel
theorem dX6_hasGlobForm_37 : decode cX6_hasGlobForm 37 = .ok (.bipush 47, 2) := by decide +kernel
theorem dX6_hasGlobForm_39 : decode cX6_hasGlobForm 39 = .ok (.if_icmp .eq 5, 3) := by decide +kernel
theorem dX6_hasGlobForm_42 : decode cX6_hasGlobForm 42 = .ok (.iconst 0, 1) := by decide +kernel
theorem dX6_hasGlobForm_43 : decode cX6_hasGlobForm 43 = .ok (.ireturn, 1) := by decide +kernel
theorem dX6_hasGlobForm_44 : decode cX6_hasGlobForm 44 = .ok (.iinc 1 1, 3) := by decide +kernel
theorem dX6_hasGlobForm_47 : decode cX6_hasGlobForm 47 = .ok (.goto (-45), 3) := by decide +kernel
theorem dX6_hasGlobForm_50 : decode cX6_hasGlobForm 50 = .ok (.aload_n 0, 1) := by decide +kernel
theorem dX6_hasGlobForm_51 : decode cX6_hasGlobForm 51 = .ok (.invokevirtual 19, 3) := by decide +kernel
theorem dX6_hasGlobForm_54 : decode cX6_hasGlobForm 54 = .ok (.ifCond .ne 7, 3) := by decide +kernel
theorem dX6_hasGlobForm_57 : decode cX6_hasGlobForm 57 = .ok (.iconst 1, 1) := by decide +kernel
theorem dX6_hasGlobForm_58 : decode cX6_hasGlobForm 58 = .ok (.goto 4, 3) := by decide +kernel
theorem dX6_hasGlobForm_61 : decode cX6_hasGlobForm 61 = .ok (.iconst 0, 1) := by decide +kernel
theorem dX6_hasGlobForm_62 : decode cX6_hasGlobForm 62 = .ok (.ireturn, 1) := by decide +kernel
theorem dX6_covers_0 : decode cX6_covers 0 = .ok (.iconst 1, 1) := by decide +kernel
theorem dX6_covers_1 : decode cX6_covers 1 = .ok (.istore_n 2, 1) := by decide +kernel
theorem dX6_covers_2 : decode cX6_covers 2 = .ok (.iconst 0, 1) := by decide +kernel
theorem dX6_covers_3 : decode cX6_covers 3 = .ok (.istore_n 3, 1) := by decide +kernel
theorem dX6_covers_4 : decode cX6_covers 4 = .ok (.iload_n 3, 1) := by decide +kernel
theorem dX6_covers_5 : decode cX6_covers 5 = .ok (.aload_n 0, 1) := by decide +kernel
theorem dX6_covers_6 : decode cX6_covers 6 = .ok (.getfield 15, 3) := by decide +kernel
theorem dX6_covers_9 : decode cX6_covers 9 = .ok (.if_icmp .gt 59, 3) := by decide +kernel
theorem dX6_covers_12 : decode cX6_covers 12 = .ok (.aload_n 0, 1) := by decide +kernel
theorem dX6_covers_13 : decode cX6_covers 13 = .ok (.iload_n 3, 1) := by decide +kernel
theorem dX6_covers_14 : decode cX6_covers 14 = .ok (.invokevirtual 23, 3) := by decide +kernel
theorem dX6_covers_17 : decode cX6_covers 17 = .ok (.ifCond .eq 15, 3) := by decide +kernel
theorem dX6_covers_20 : decode cX6_covers 20 = .ok (.aload_n 1, 1) := by decide +kernel
theorem dX6_covers_21 : decode cX6_covers 21 = .ok (.iload_n 2, 1) := by decide +kernel
theorem dX6_covers_22 : decode cX6_covers 22 = .ok (.invokevirtual 31, 3) := by decide +kernel
theorem dX6_covers_25 : decode cX6_covers 25 = .ok (.istore_n 2, 1) := by decide +kernel
theorem dX6_covers_26 : decode cX6_covers 26 = .ok (.iinc 3 3, 3) := by decide +kernel
theorem dX6_covers_29 : decode cX6_covers 29 = .ok (.goto (-25), 3) := by decide +kernel
theorem dX6_covers_32 : decode cX6_covers 32 = .ok (.aload_n 0, 1) := by decide +kernel
theorem dX6_covers_33 : decode cX6_covers 33 = .ok (.iload_n 3, 1) := by decide +kernel
theorem dX6_covers_34 : decode cX6_covers 34 = .ok (.invokevirtual 27, 3) := by decide +kernel
theorem dX6_covers_37 : decode cX6_covers 37 = .ok (.istore 4, 2) := by decide +kernel
theorem dX6_covers_39 : decode cX6_covers 39 = .ok (.iload 4, 2) := by decide +kernel
theorem dX6_covers_41 : decode cX6_covers 41 = .ok (.bipush 42, 2) := by decide +kernel
theorem dX6_covers_43 : decode cX6_covers 43 = .ok (.if_icmp .ne 11, 3) := by decide +kernel
theorem dX6_covers_46 : decode cX6_covers 46 = .ok (.aload_n 1, 1) := by decide +kernel
theorem dX6_covers_47 : decode cX6_covers 47 = .ok (.iload_n 2, 1) := by decide +kernel
theorem dX6_covers_48 : decode cX6_covers 48 = .ok (.invokevirtual 35, 3) := by decide +kernel
theorem dX6_covers_51 : decode cX6_covers 51 = .ok (.goto 10, 3) := by decide +kernel
theorem dX6_covers_54 : decode cX6_covers 54 = .ok (.aload_n 1, 1) := by decide +kernel
theorem dX6_covers_55 : decode cX6_covers 55 = .ok (.iload_n 2, 1) := by decide +kernel
theorem dX6_covers_56 : decode cX6_covers 56 = .ok (.iload 4, 2) := by decide +kernel
theorem dX6_covers_58 : decode cX6_covers 58 = .ok (.invokevirtual 38, 3) := by decide +kernel
theorem dX6_covers_61 : decode cX6_covers 61 = .ok (.istore_n 2, 1) := by decide +kernel
theorem dX6_covers_62 : decode cX6_covers 62 = .ok (.iinc 3 1, 3) := by decide +kernel
theorem dX6_covers_65 : decode cX6_covers 65 = .ok (.goto (-61), 3) := by decide +kernel
theorem dX6_covers_68 : decode cX6_covers 68 = .ok (.iload_n 2, 1) := by decide +kernel
theorem dX6_covers_69 : decode cX6_covers 69 = .ok (.aload_n 1, 1) := by decide +kernel
theorem dX6_covers_70 : decode cX6_covers 70 = .ok (.getfield 15, 3) := by decide +kernel
theorem dX6_covers_73 : decode cX6_covers 73 = .ok (.iconst 1, 1) := by decide +kernel
theorem dX6_covers_74 : decode cX6_covers 74 = .ok (.iadd, 1) := by decide +kernel
theorem dX6_covers_75 : decode cX6_covers 75 = .ok (.invokestatic 42, 3) := by decide +kernel
theorem dX6_covers_78 : decode cX6_covers 78 = .ok (.ireturn, 1) := by decide +kernel
theorem dX6_signAt_0 : decode cX6_signAt 0 = .ok (.iload_n 1, 1) := by decide +kernel
theorem dX6_signAt_1 : decode cX6_signAt 1 = .ok (.ifCond .lt 20, 3) := by decide +kernel
theorem dX6_signAt_4 : decode cX6_signAt 4 = .ok (.iload_n 1, 1) := by decide +kernel
theorem dX6_signAt_5 : decode cX6_signAt 5 = .ok (.aload_n 0, 1) := by decide +kernel
theorem dX6_signAt_6 : decode cX6_signAt 6 = .ok (.getfield 15, 3) := by decide +kernel
theorem dX6_signAt_9 : decode cX6_signAt 9 = .ok (.if_icmp .ge 12, 3) := by decide +kernel
theorem dX6_signAt_12 : decode cX6_signAt 12 = .ok (.aload_n 0, 1) := by decide +kernel
theorem dX6_signAt_13 : decode cX6_signAt 13 = .ok (.getfield 9, 3) := by decide +kernel
theorem dX6_signAt_16 : decode cX6_signAt 16 = .ok (.iload_n 1, 1) := by decide +kernel
theorem dX6_signAt_17 : decode cX6_signAt 17 = .ok (.caload, 1) := by decide +kernel
theorem dX6_signAt_18 : decode cX6_signAt 18 = .ok (.goto 5, 3) := by decide +kernel
theorem dX6_signAt_21 : decode cX6_signAt 21 = .ok (.bipush 47, 2) := by decide +kernel
theorem dX6_signAt_23 : decode cX6_signAt 23 = .ok (.ireturn, 1) := by decide +kernel
theorem dX6_isDoubleStar_0 : decode cX6_isDoubleStar 0 = .ok (.aload_n 0, 1) := by decide +kernel
theorem dX6_isDoubleStar_1 : decode cX6_isDoubleStar 1 = .ok (.iload_n 1, 1) := by decide +kernel
theorem dX6_isDoubleStar_2 : decode cX6_isDoubleStar 2 = .ok (.invokevirtual 27, 3) := by decide +kernel
theorem dX6_isDoubleStar_5 : decode cX6_isDoubleStar 5 = .ok (.bipush 42, 2) := by decide +kernel
theorem dX6_isDoubleStar_7 : decode cX6_isDoubleStar 7 = .ok (.if_icmp .ne 19, 3) := by decide +kernel
theorem dX6_isDoubleStar_10 : decode cX6_isDoubleStar 10 = .ok (.aload_n 0, 1) := by decide +kernel
theorem dX6_isDoubleStar_11 : decode cX6_isDoubleStar 11 = .ok (.iload_n 1, 1) := by decide +kernel
theorem dX6_isDoubleStar_12 : decode cX6_isDoubleStar 12 = .ok (.iconst 1, 1) := by decide +kernel
theorem dX6_isDoubleStar_13 : decode cX6_isDoubleStar 13 = .ok (.iadd, 1) := by decide +kernel
theorem dX6_isDoubleStar_14 : decode cX6_isDoubleStar 14 = .ok (.invokevirtual 27, 3) := by decide +kernel
theorem dX6_isDoubleStar_17 : decode cX6_isDoubleStar 17 = .ok (.bipush 42, 2) := by decide +kernel
theorem dX6_isDoubleStar_19 : decode cX6_isDoubleStar 19 = .ok (.if_icmp .ne 7, 3) := by decide +kernel
theorem dX6_isDoubleStar_22 : decode cX6_isDoubleStar 22 = .ok (.iconst 1, 1) := by decide +kernel
theorem dX6_isDoubleStar_23 : decode cX6_isDoubleStar 23 = .ok (.goto 4, 3) := by decide +kernel
theorem dX6_isDoubleStar_26 : decode cX6_isDoubleStar 26 = .ok (.iconst 0, 1) := by decide +kernel
theorem dX6_isDoubleStar_27 : decode cX6_isDoubleStar 27 = .ok (.ireturn, 1) := by decide +kernel
theorem dX6_hasEmptySegment_0 : decode cX6_hasEmptySegment 0 = .ok (.iconst 0, 1) := by decide +kernel
theorem dX6_hasEmptySegment_1 : decode cX6_hasEmptySegment 1 = .ok (.istore_n 1, 1) := by decide +kernel
theorem dX6_hasEmptySegment_2 : decode cX6_hasEmptySegment 2 = .ok (.iload_n 1, 1) := by decide +kernel
theorem dX6_hasEmptySegment_3 : decode cX6_hasEmptySegment 3 = .ok (.aload_n 0, 1) := by decide +kernel
theorem dX6_hasEmptySegment_4 : decode cX6_hasEmptySegment 4 = .ok (.getfield 15, 3) := by decide +kernel
theorem dX6_hasEmptySegment_7 : decode cX6_hasEmptySegment 7 = .ok (.if_icmp .gt 33, 3) := by decide +kernel
theorem dX6_hasEmptySegment_10 : decode cX6_hasEmptySegment 10 = .ok (.aload_n 0, 1) := by decide +kernel
theorem dX6_hasEmptySegment_11 : decode cX6_hasEmptySegment 11 = .ok (.iload_n 1, 1) := by decide +kernel
theorem dX6_hasEmptySegment_12 : decode cX6_hasEmptySegment 12 = .ok (.iconst 1, 1) := by decide +kernel
theorem dX6_hasEmptySegment_13 : decode cX6_hasEmptySegment 13 = .ok (.isub, 1) := by decide +kernel
theorem dX6_hasEmptySegment_14 : decode cX6_hasEmptySegment 14 = .ok (.invokevirtual 27, 3) := by decide +kernel
theorem dX6_hasEmptySegment_17 : decode cX6_hasEmptySegment 17 = .ok (.bipush 47, 2) := by decide +kernel
theorem dX6_hasEmptySegment_19 : decode cX6_hasEmptySegment 19 = .ok (.if_icmp .ne 15, 3) := by decide +kernel
theorem dX6_hasEmptySegment_22 : decode cX6_hasEmptySegment 22 = .ok (.aload_n 0, 1) := by decide +kernel
theorem dX6_hasEmptySegment_23 : decode cX6_hasEmptySegment 23 = .ok (.iload_n 1, 1) := by decide +kernel
theorem dX6_hasEmptySegment_24 : decode cX6_hasEmptySegment 24 = .ok (.invokevirtual 27, 3) := by decide +kernel
theorem dX6_hasEmptySegment_27 : decode cX6_hasEmptySegment 27 = .ok (.bipush 47, 2) := by decide +kernel
theorem dX6_hasEmptySegment_29 : decode cX6_hasEmptySegment 29 = .ok (.if_icmp .ne 5, 3) := by decide +kernel
theorem dX6_hasEmptySegment_32 : decode cX6_hasEmptySegment 32 = .ok (.iconst 1, 1) := by decide +kernel
theorem dX6_hasEmptySegment_33 : decode cX6_hasEmptySegment 33 = .ok (.ireturn, 1) := by decide +kernel
theorem dX6_hasEmptySegment_34 : decode cX6_hasEmptySegment 34 = .ok (.iinc 1 1, 3) := by decide +kernel
theorem dX6_hasEmptySegment_37 : decode cX6_hasEmptySegment 37 = .ok (.goto (-35), 3) := by decide +kernel
theorem dX6_hasEmptySegment_40 : decode cX6_hasEmptySegment 40 = .ok (.iconst 0, 1) := by decide +kernel
theorem dX6_hasEmptySegment_41 : decode cX6_hasEmptySegment 41 = .ok (.ireturn, 1) := by decide +kernel
theorem dX6_startsFrom_0 : decode cX6_startsFrom 0 = .ok (.iconst 0, 1) := by decide +kernel
theorem dX6_startsFrom_1 : decode cX6_startsFrom 1 = .ok (.istore_n 2, 1) := by decide +kernel
theorem dX6_startsFrom_2 : decode cX6_startsFrom 2 = .ok (.iconst 0, 1) := by decide +kernel
theorem dX6_startsFrom_3 : decode cX6_startsFrom 3 = .ok (.istore_n 3, 1) := by decide +kernel
theorem dX6_startsFrom_4 : decode cX6_startsFrom 4 = .ok (.iconst 0, 1) := by decide +kernel
theorem dX6_startsFrom_5 : decode cX6_startsFrom 5 = .ok (.istore 4, 2) := by decide +kernel
theorem dX6_startsFrom_7 : decode cX6_startsFrom 7 = .ok (.iload 4, 2) := by decide +kernel
theorem dX6_startsFrom_9 : decode cX6_startsFrom 9 = .ok (.aload_n 0, 1) := by decide +kernel
theorem dX6_startsFrom_10 : decode cX6_startsFrom 10 = .ok (.getfield 15, 3) := by decide +kernel
theorem dX6_startsFrom_13 : decode cX6_startsFrom 13 = .ok (.iconst 1, 1) := by decide +kernel
theorem dX6_startsFrom_14 : decode cX6_startsFrom 14 = .ok (.iadd, 1) := by decide +kernel
theorem dX6_startsFrom_15 : decode cX6_startsFrom 15 = .ok (.if_icmp .gt 52, 3) := by decide +kernel
theorem dX6_startsFrom_18 : decode cX6_startsFrom 18 = .ok (.iload_n 3, 1) := by decide +kernel
theorem dX6_startsFrom_19 : decode cX6_startsFrom 19 = .ok (.ifCond .ne 12, 3) := by decide +kernel
theorem dX6_startsFrom_22 : decode cX6_startsFrom 22 = .ok (.iload_n 1, 1) := by decide +kernel
theorem dX6_startsFrom_23 : decode cX6_startsFrom 23 = .ok (.iload 4, 2) := by decide +kernel
theorem dX6_startsFrom_25 : decode cX6_startsFrom 25 = .ok (.invokestatic 42, 3) := by decide +kernel
theorem dX6_startsFrom_28 : decode cX6_startsFrom 28 = .ok (.ifCond .eq 7, 3) := by decide +kernel
theorem dX6_startsFrom_31 : decode cX6_startsFrom 31 = .ok (.iconst 1, 1) := by decide +kernel
theorem dX6_startsFrom_32 : decode cX6_startsFrom 32 = .ok (.goto 4, 3) := by decide +kernel
theorem dX6_startsFrom_35 : decode cX6_startsFrom 35 = .ok (.iconst 0, 1) := by decide +kernel
theorem dX6_startsFrom_36 : decode cX6_startsFrom 36 = .ok (.istore_n 3, 1) := by decide +kernel
theorem dX6_startsFrom_37 : decode cX6_startsFrom 37 = .ok (.iload_n 3, 1) := by decide +kernel
theorem dX6_startsFrom_38 : decode cX6_startsFrom 38 = .ok (.ifCond .eq 23, 3) := by decide +kernel
theorem dX6_startsFrom_41 : decode cX6_startsFrom 41 = .ok (.aload_n 0, 1) := by decide +kernel
theorem dX6_startsFrom_42 : decode cX6_startsFrom 42 = .ok (.iload 4, 2) := by decide +kernel
theorem dX6_startsFrom_44 : decode cX6_startsFrom 44 = .ok (.iconst 1, 1) := by decide +kernel
theorem dX6_startsFrom_45 : decode cX6_startsFrom 45 = .ok (.isub, 1) := by decide +kernel
theorem dX6_startsFrom_46 : decode cX6_startsFrom 46 = .ok (.invokevirtual 27, 3) := by decide +kernel
theorem dX6_startsFrom_49 : decode cX6_startsFrom 49 = .ok (.bipush 47, 2) := by decide +kernel
theorem dX6_startsFrom_51 : decode cX6_startsFrom 51 = .ok (.if_icmp .ne 10, 3) := by decide +kernel
theorem dX6_startsFrom_54 : decode cX6_startsFrom 54 = .ok (.iload_n 2, 1) := by decide +kernel
theorem dX6_startsFrom_55 : decode cX6_startsFrom 55 = .ok (.iconst 1, 1) := by decide +kernel
theorem dX6_startsFrom_56 : decode cX6_startsFrom 56 = .ok (.iload 4, 2) := by decide +kernel
theorem dX6_startsFrom_58 : decode cX6_startsFrom 58 = .ok (.ishl, 1) := by decide +kernel
theorem dX6_startsFrom_59 : decode cX6_startsFrom 59 = .ok (.ior, 1) := by decide +kernel
theorem dX6_startsFrom_60 : decode cX6_startsFrom 60 = .ok (.istore_n 2, 1) := by decide +kernel
theorem dX6_startsFrom_61 : decode cX6_startsFrom 61 = .ok (.iinc 4 1, 3) := by decide +kernel
theorem dX6_startsFrom_64 : decode cX6_startsFrom 64 = .ok (.goto (-57), 3) := by decide +kernel
theorem dX6_startsFrom_67 : decode cX6_startsFrom 67 = .ok (.iload_n 2, 1) := by decide +kernel
theorem dX6_startsFrom_68 : decode cX6_startsFrom 68 = .ok (.ireturn, 1) := by decide +kernel
theorem dX6_overLetters_0 : decode cX6_overLetters 0 = .ok (.iload_n 1, 1) := by decide +kernel
theorem dX6_overLetters_1 : decode cX6_overLetters 1 = .ok (.istore_n 2, 1) := by decide +kernel
theorem dX6_overLetters_2 : decode cX6_overLetters 2 = .ok (.iconst 0, 1) := by decide +kernel
theorem dX6_overLetters_3 : decode cX6_overLetters 3 = .ok (.istore_n 3, 1) := by decide +kernel
theorem dX6_overLetters_4 : decode cX6_overLetters 4 = .ok (.iload_n 3, 1) := by decide +kernel
theorem dX6_overLetters_5 : decode cX6_overLetters 5 = .ok (.aload_n 0, 1) := by decide +kernel
theorem dX6_overLetters_6 : decode cX6_overLetters 6 = .ok (.getfield 15, 3) := by decide +kernel
theorem dX6_overLetters_9 : decode cX6_overLetters 9 = .ok (.if_icmp .ge 36, 3) := by decide +kernel
theorem dX6_overLetters_12 : decode cX6_overLetters 12 = .ok (.iload_n 2, 1) := by decide +kernel
theorem dX6_overLetters_13 : decode cX6_overLetters 13 = .ok (.iload_n 3, 1) := by decide +kernel
theorem dX6_overLetters_14 : decode cX6_overLetters 14 = .ok (.invokestatic 42, 3) := by decide +kernel
theorem dX6_overLetters_17 : decode cX6_overLetters 17 = .ok (.ifCond .eq 22, 3) := by decide +kernel
theorem dX6_overLetters_20 : decode cX6_overLetters 20 = .ok (.aload_n 0, 1) := by decide +kernel
theorem dX6_overLetters_21 : decode cX6_overLetters 21 = .ok (.getfield 9, 3) := by decide +kernel
theorem dX6_overLetters_24 : decode cX6_overLetters 24 = .ok (.iload_n 3, 1) := by decide +kernel
theorem dX6_overLetters_25 : decode cX6_overLetters 25 = .ok (.caload, 1) := by decide +kernel
theorem dX6_overLetters_26 : decode cX6_overLetters 26 = .ok (.bipush 47, 2) := by decide +kernel
theorem dX6_overLetters_28 : decode cX6_overLetters 28 = .ok (.if_icmp .eq 11, 3) := by decide +kernel
theorem dX6_overLetters_31 : decode cX6_overLetters 31 = .ok (.iload_n 2, 1) := by decide +kernel
theorem dX6_overLetters_32 : decode cX6_overLetters 32 = .ok (.iconst 1, 1) := by decide +kernel
theorem dX6_overLetters_33 : decode cX6_overLetters 33 = .ok (.iload_n 3, 1) := by decide +kernel
theorem dX6_overLetters_34 : decode cX6_overLetters 34 = .ok (.iconst 1, 1) := by decide +kernel
theorem dX6_overLetters_35 : decode cX6_overLetters 35 = .ok (.iadd, 1) := by decide +kernel
theorem dX6_overLetters_36 : decode cX6_overLetters 36 = .ok (.ishl, 1) := by decide +kernel
theorem dX6_overLetters_37 : decode cX6_overLetters 37 = .ok (.ior, 1) := by decide +kernel
theorem dX6_overLetters_38 : decode cX6_overLetters 38 = .ok (.istore_n 2, 1) := by decide +kernel
theorem dX6_overLetters_39 : decode cX6_overLetters 39 = .ok (.iinc 3 1, 3) := by decide +kernel
theorem dX6_overLetters_42 : decode cX6_overLetters 42 = .ok (.goto (-38), 3) := by decide +kernel
theorem dX6_overLetters_45 : decode cX6_overLetters 45 = .ok (.iload_n 2, 1) := by decide +kernel
theorem dX6_overLetters_46 : decode cX6_overLetters 46 = .ok (.ireturn, 1) := by decide +kernel
theorem dX6_overSign_0 : decode cX6_overSign 0 = .ok (.iconst 0, 1) := by decide +kernel
theorem dX6_overSign_1 : decode cX6_overSign 1 = .ok (.istore_n 3, 1) := by decide +kernel
theorem dX6_overSign_2 : decode cX6_overSign 2 = .ok (.iconst 0, 1) := by decide +kernel
theorem dX6_overSign_3 : decode cX6_overSign 3 = .ok (.istore 4, 2) := by decide +kernel
theorem dX6_overSign_5 : decode cX6_overSign 5 = .ok (.iload 4, 2) := by decide +kernel
theorem dX6_overSign_7 : decode cX6_overSign 7 = .ok (.aload_n 0, 1) := by decide +kernel
theorem dX6_overSign_8 : decode cX6_overSign 8 = .ok (.getfield 15, 3) := by decide +kernel
theorem dX6_overSign_11 : decode cX6_overSign 11 = .ok (.if_icmp .gt 74, 3) := by decide +kernel
theorem dX6_overSign_14 : decode cX6_overSign 14 = .ok (.iload_n 2, 1) := by decide +kernel
theorem dX6_overSign_15 : decode cX6_overSign 15 = .ok (.bipush 63, 2) := by decide +kernel
theorem dX6_overSign_17 : decode cX6_overSign 17 = .ok (.if_icmp .ne 22, 3) := by decide +kernel
theorem dX6_overSign_20 : decode cX6_overSign 20 = .ok (.aload_n 0, 1) := by decide +kernel
theorem dX6_overSign_21 : decode cX6_overSign 21 = .ok (.iload 4, 2) := by decide +kernel
theorem dX6_overSign_23 : decode cX6_overSign 23 = .ok (.invokevirtual 27, 3) := by decide +kernel
theorem dX6_overSign_26 : decode cX6_overSign 26 = .ok (.bipush 47, 2) := by decide +kernel
theorem dX6_overSign_28 : decode cX6_overSign 28 = .ok (.if_icmp .eq 7, 3) := by decide +kernel
theorem dX6_overSign_31 : decode cX6_overSign 31 = .ok (.iconst 1, 1) := by decide +kernel
theorem dX6_overSign_32 : decode cX6_overSign 32 = .ok (.goto 22, 3) := by decide +kernel
theorem dX6_overSign_35 : decode cX6_overSign 35 = .ok (.iconst 0, 1) := by decide +kernel
theorem dX6_overSign_36 : decode cX6_overSign 36 = .ok (.goto 18, 3) := by decide +kernel
theorem dX6_overSign_39 : decode cX6_overSign 39 = .ok (.aload_n 0, 1) := by decide +kernel
theorem dX6_overSign_40 : decode cX6_overSign 40 = .ok (.iload 4, 2) := by decide +kernel
theorem dX6_overSign_42 : decode cX6_overSign 42 = .ok (.invokevirtual 27, 3) := by decide +kernel
theorem dX6_overSign_45 : decode cX6_overSign 45 = .ok (.iload_n 2, 1) := by decide +kernel
theorem dX6_overSign_46 : decode cX6_overSign 46 = .ok (.if_icmp .ne 7, 3) := by decide +kernel
theorem dX6_overSign_49 : decode cX6_overSign 49 = .ok (.iconst 1, 1) := by decide +kernel
theorem dX6_overSign_50 : decode cX6_overSign 50 = .ok (.goto 4, 3) := by decide +kernel
theorem dX6_overSign_53 : decode cX6_overSign 53 = .ok (.iconst 0, 1) := by decide +kernel
theorem dX6_overSign_54 : decode cX6_overSign 54 = .ok (.istore 5, 2) := by decide +kernel
theorem dX6_overSign_56 : decode cX6_overSign 56 = .ok (.iload 5, 2) := by decide +kernel
theorem dX6_overSign_58 : decode cX6_overSign 58 = .ok (.ifCond .eq 21, 3) := by decide +kernel
theorem dX6_overSign_61 : decode cX6_overSign 61 = .ok (.iload_n 1, 1) := by decide +kernel
theorem dX6_overSign_62 : decode cX6_overSign 62 = .ok (.iload 4, 2) := by decide +kernel
theorem dX6_overSign_64 : decode cX6_overSign 64 = .ok (.invokestatic 42, 3) := by decide +kernel
theorem dX6_overSign_67 : decode cX6_overSign 67 = .ok (.ifCond .eq 12, 3) := by decide +kernel
theorem dX6_overSign_70 : decode cX6_overSign 70 = .ok (.iload_n 3, 1) := by decide +kernel
theorem dX6_overSign_71 : decode cX6_overSign 71 = .ok (.iconst 1, 1) := by decide +kernel
theorem dX6_overSign_72 : decode cX6_overSign 72 = .ok (.iload 4, 2) := by decide +kernel
theorem dX6_overSign_74 : decode cX6_overSign 74 = .ok (.iconst 1, 1) := by decide +kernel
theorem dX6_overSign_75 : decode cX6_overSign 75 = .ok (.iadd, 1) := by decide +kernel
theorem dX6_overSign_76 : decode cX6_overSign 76 = .ok (.ishl, 1) := by decide +kernel
theorem dX6_overSign_77 : decode cX6_overSign 77 = .ok (.ior, 1) := by decide +kernel
theorem dX6_overSign_78 : decode cX6_overSign 78 = .ok (.istore_n 3, 1) := by decide +kernel
theorem dX6_overSign_79 : decode cX6_overSign 79 = .ok (.iinc 4 1, 3) := by decide +kernel
theorem dX6_overSign_82 : decode cX6_overSign 82 = .ok (.goto (-77), 3) := by decide +kernel
theorem dX6_overSign_85 : decode cX6_overSign 85 = .ok (.iload_n 3, 1) := by decide +kernel
theorem dX6_overSign_86 : decode cX6_overSign 86 = .ok (.ireturn, 1) := by decide +kernel
theorem dX7_init_0 : decode cX7_init 0 = .ok (.aload_n 0, 1) := by decide +kernel
theorem dX7_init_1 : decode cX7_init 1 = .ok (.invokespecial 1, 3) := by decide +kernel
theorem dX7_init_4 : decode cX7_init 4 = .ok (.aload_n 0, 1) := by decide +kernel
theorem dX7_init_5 : decode cX7_init 5 = .ok (.new 7, 3) := by decide +kernel
theorem dX7_init_8 : decode cX7_init 8 = .ok (.dup, 1) := by decide +kernel
theorem dX7_init_9 : decode cX7_init 9 = .ok (.invokespecial 9, 3) := by decide +kernel
theorem dX7_init_12 : decode cX7_init 12 = .ok (.putfield 10, 3) := by decide +kernel
theorem dX7_init_15 : decode cX7_init 15 = .ok (.aload_n 0, 1) := by decide +kernel
theorem dX7_init_16 : decode cX7_init 16 = .ok (.new 16, 3) := by decide +kernel
theorem dX7_init_19 : decode cX7_init 19 = .ok (.dup, 1) := by decide +kernel
theorem dX7_init_20 : decode cX7_init 20 = .ok (.invokespecial 18, 3) := by decide +kernel
theorem dX7_init_23 : decode cX7_init 23 = .ok (.putfield 19, 3) := by decide +kernel
theorem dX7_init_26 : decode cX7_init 26 = .ok (.aload_n 0, 1) := by decide +kernel
theorem dX7_init_27 : decode cX7_init 27 = .ok (.new 23, 3) := by decide +kernel
theorem dX7_init_30 : decode cX7_init 30 = .ok (.dup, 1) := by decide +kernel
theorem dX7_init_31 : decode cX7_init 31 = .ok (.invokespecial 25, 3) := by decide +kernel
theorem dX7_init_34 : decode cX7_init 34 = .ok (.putfield 26, 3) := by decide +kernel
theorem dX7_init_37 : decode cX7_init 37 = .ok (.aload_n 0, 1) := by decide +kernel
theorem dX7_init_38 : decode cX7_init 38 = .ok (.new 30, 3) := by decide +kernel
theorem dX7_init_41 : decode cX7_init 41 = .ok (.dup, 1) := by decide +kernel
theorem dX7_init_42 : decode cX7_init 42 = .ok (.aload_n 0, 1) := by decide +kernel
theorem dX7_init_43 : decode cX7_init 43 = .ok (.getfield 19, 3) := by decide +kernel
theorem dX7_init_46 : decode cX7_init 46 = .ok (.aload_n 0, 1) := by decide +kernel
theorem dX7_init_47 : decode cX7_init 47 = .ok (.getfield 26, 3) := by decide +kernel
theorem dX7_init_50 : decode cX7_init 50 = .ok (.invokespecial 32, 3) := by decide +kernel
theorem dX7_init_53 : decode cX7_init 53 = .ok (.putfield 35, 3) := by decide +kernel
theorem dX7_init_56 : decode cX7_init 56 = .ok (.aload_n 0, 1) := by decide +kernel
theorem dX7_init_57 : decode cX7_init 57 = .ok (.new 39, 3) := by decide +kernel
theorem dX7_init_60 : decode cX7_init 60 = .ok (.dup, 1) := by decide +kernel
theorem dX7_init_61 : decode cX7_init 61 = .ok (.invokespecial 41, 3) := by decide +kernel
theorem dX7_init_64 : decode cX7_init 64 = .ok (.putfield 42, 3) := by decide +kernel
theorem dX7_init_67 : decode cX7_init 67 = .ok (.aload_n 0, 1) := by decide +kernel
theorem dX7_init_68 : decode cX7_init 68 = .ok (.new 46, 3) := by decide +kernel
theorem dX7_init_71 : decode cX7_init 71 = .ok (.dup, 1) := by decide +kernel
theorem dX7_init_72 : decode cX7_init 72 = .ok (.invokespecial 48, 3) := by decide +kernel
theorem dX7_init_75 : decode cX7_init 75 = .ok (.putfield 49, 3) := by decide +kernel
theorem dX7_init_78 : decode cX7_init 78 = .ok (.return_, 1) := by decide +kernel
theorem dX7_type_0 : decode cX7_type 0 = .ok (.iload_n 1, 1) := by decide +kernel
theorem dX7_type_1 : decode cX7_type 1 = .ok (.invokestatic 53, 3) := by decide +kernel
theorem dX7_type_4 : decode cX7_type 4 = .ok (.ifCond .ne 13, 3) := by decide +kernel
theorem dX7_type_7 : decode cX7_type 7 = .ok (.new 57, 3) := by decide +kernel
theorem dX7_type_10 : decode cX7_type 10 = .ok (.dup, 1) := by decide +kernel
theorem dX7_type_11 : decode cX7_type 11 = .ok (.ldc 59, 2) := by decide +kernel
theorem dX7_type_13 : decode cX7_type 13 = .ok (.invokespecial 61, 3) := by decide +kernel
theorem dX7_type_16 : decode cX7_type 16 = .ok (.athrow, 1) := by decide +kernel
theorem dX7_type_17 : decode cX7_type 17 = .ok (.aload_n 0, 1) := by decide +kernel
theorem dX7_type_18 : decode cX7_type 18 = .ok (.getfield 10, 3) := by decide +kernel
theorem dX7_type_21 : decode cX7_type 21 = .ok (.invokevirtual 64, 3) := by decide +kernel
theorem dX7_type_24 : decode cX7_type 24 = .ok (.ifCond .eq 13, 3) := by decide +kernel
theorem dX7_type_27 : decode cX7_type 27 = .ok (.new 68, 3) := by decide +kernel
theorem dX7_type_30 : decode cX7_type 30 = .ok (.dup, 1) := by decide +kernel
theorem dX7_type_31 : decode cX7_type 31 = .ok (.ldc 70, 2) := by decide +kernel
theorem dX7_type_33 : decode cX7_type 33 = .ok (.invokespecial 72, 3) := by decide +kernel
theorem dX7_type_36 : decode cX7_type 36 = .ok (.athrow, 1) := by decide +kernel
theorem dX7_type_37 : decode cX7_type 37 = .ok (.aload_n 0, 1) := by decide +kernel
theorem dX7_type_38 : decode cX7_type 38 = .ok (.getfield 10, 3) := by decide +kernel
theorem dX7_type_41 : decode cX7_type 41 = .ok (.iload_n 1, 1) := by decide +kernel
theorem dX7_type_42 : decode cX7_type 42 = .ok (.invokevirtual 73, 3) := by decide +kernel
theorem dX7_type_45 : decode cX7_type 45 = .ok (.aload_n 0, 1) := by decide +kernel
theorem dX7_type_46 : decode cX7_type 46 = .ok (.getfield 10, 3) := by decide +kernel
theorem dX7_type_49 : decode cX7_type 49 = .ok (.invokevirtual 77, 3) := by decide +kernel
theorem dX7_type_52 : decode cX7_type 52 = .ok (.ireturn, 1) := by decide +kernel
theorem dX7_clearText_0 : decode cX7_clearText 0 = .ok (.aload_n 0, 1) := by decide +kernel
theorem dX7_clearText_1 : decode cX7_clearText 1 = .ok (.getfield 10, 3) := by decide +kernel
theorem dX7_clearText_4 : decode cX7_clearText 4 = .ok (.invokevirtual 77, 3) := by decide +kernel
theorem dX7_clearText_7 : decode cX7_clearText 7 = .ok (.istore_n 1, 1) := by decide +kernel
theorem dX7_clearText_8 : decode cX7_clearText 8 = .ok (.aload_n 0, 1) := by decide +kernel
theorem dX7_clearText_9 : decode cX7_clearText 9 = .ok (.getfield 10, 3) := by decide +kernel
theorem dX7_clearText_12 : decode cX7_clearText 12 = .ok (.invokevirtual 81, 3) := by decide +kernel
theorem dX7_clearText_15 : decode cX7_clearText 15 = .ok (.iload_n 1, 1) := by decide +kernel
theorem dX7_clearText_16 : decode cX7_clearText 16 = .ok (.ireturn, 1) := by decide +kernel
theorem dX7_isPath_0 : decode cX7_isPath 0 = .ok (.aload_n 0, 1) := by decide +kernel
theorem dX7_isPath_1 : decode cX7_isPath 1 = .ok (.getfield 10, 3) := by decide +kernel
theorem dX7_isPath_4 : decode cX7_isPath 4 = .ok (.invokevirtual 84, 3) := by decide +kernel
theorem dX7_isPath_7 : decode cX7_isPath 7 = .ok (.ireturn, 1) := by decide +kernel
theorem dX7_isGlob_0 : decode cX7_isGlob 0 = .ok (.aload_n 0, 1) := by decide +kernel
theorem dX7_isGlob_1 : decode cX7_isGlob 1 = .ok (.getfield 10, 3) := by decide +kernel
theorem dX7_isGlob_4 : decode cX7_isGlob 4 = .ok (.invokevirtual 87, 3) := by decide +kernel
theorem dX7_isGlob_7 : decode cX7_isGlob 7 = .ok (.ireturn, 1) := by decide +kernel
theorem dX7_addFile_0 : decode cX7_addFile 0 = .ok (.aload_n 0, 1) := by decide +kernel
theorem dX7_addFile_1 : decode cX7_addFile 1 = .ok (.iload_n 1, 1) := by decide +kernel
theorem dX7_addFile_2 : decode cX7_addFile 2 = .ok (.invokevirtual 90, 3) := by decide +kernel
theorem dX7_addFile_5 : decode cX7_addFile 5 = .ok (.aload_n 0, 1) := by decide +kernel
theorem dX7_addFile_6 : decode cX7_addFile 6 = .ok (.getfield 10, 3) := by decide +kernel
theorem dX7_addFile_9 : decode cX7_addFile 9 = .ok (.invokevirtual 84, 3) := by decide +kernel
theorem dX7_addFile_12 : decode cX7_addFile 12 = .ok (.ifCond .ne 13, 3) := by decide +kernel
theorem dX7_addFile_15 : decode cX7_addFile 15 = .ok (.new 57, 3) := by decide +kernel
theorem dX7_addFile_18 : decode cX7_addFile 18 = .ok (.dup, 1) := by decide +kernel
theorem dX7_addFile_19 : decode cX7_addFile 19 = .ok (.ldc 94, 2) := by decide +kernel
theorem dX7_addFile_21 : decode cX7_addFile 21 = .ok (.invokespecial 61, 3) := by decide +kernel
theorem dX7_addFile_24 : decode cX7_addFile 24 = .ok (.athrow, 1) := by decide +kernel
theorem dX7_addFile_25 : decode cX7_addFile 25 = .ok (.aload_n 0, 1) := by decide +kernel
theorem dX7_addFile_26 : decode cX7_addFile 26 = .ok (.getfield 19, 3) := by decide +kernel
theorem dX7_addFile_29 : decode cX7_addFile 29 = .ok (.aload_n 0, 1) := by decide +kernel
theorem dX7_addFile_30 : decode cX7_addFile 30 = .ok (.getfield 10, 3) := by decide +kernel
theorem dX7_addFile_33 : decode cX7_addFile 33 = .ok (.invokevirtual 96, 3) := by decide +kernel
theorem dX7_addFile_36 : decode cX7_addFile 36 = .ok (.istore_n 2, 1) := by decide +kernel
theorem dX7_addFile_37 : decode cX7_addFile 37 = .ok (.aload_n 0, 1) := by decide +kernel
theorem dX7_addFile_38 : decode cX7_addFile 38 = .ok (.getfield 19, 3) := by decide +kernel
theorem dX7_addFile_41 : decode cX7_addFile 41 = .ok (.iload_n 2, 1) := by decide +kernel
theorem dX7_addFile_42 : decode cX7_addFile 42 = .ok (.invokevirtual 100, 3) := by decide +kernel
theorem dX7_addFile_45 : decode cX7_addFile 45 = .ok (.ifCond .eq 13, 3) := by decide +kernel
theorem dX7_addFile_48 : decode cX7_addFile 48 = .ok (.new 68, 3) := by decide +kernel
theorem dX7_addFile_51 : decode cX7_addFile 51 = .ok (.dup, 1) := by decide +kernel
theorem dX7_addFile_52 : decode cX7_addFile 52 = .ok (.ldc 104, 2) := by decide +kernel
theorem dX7_addFile_54 : decode cX7_addFile 54 = .ok (.invokespecial 72, 3) := by decide +kernel
theorem dX7_addFile_57 : decode cX7_addFile 57 = .ok (.athrow, 1) := by decide +kernel
theorem dX7_addFile_58 : decode cX7_addFile 58 = .ok (.iload_n 2, 1) := by decide +kernel
theorem dX7_addFile_59 : decode cX7_addFile 59 = .ok (.iconst (-1), 1) := by decide +kernel
theorem dX7_addFile_60 : decode cX7_addFile 60 = .ok (.if_icmp .ne 23, 3) := by decide +kernel
theorem dX7_addFile_63 : decode cX7_addFile 63 = .ok (.aload_n 0, 1) := by decide +kernel
theorem dX7_addFile_64 : decode cX7_addFile 64 = .ok (.getfield 19, 3) := by decide +kernel
theorem dX7_addFile_67 : decode cX7_addFile 67 = .ok (.invokevirtual 106, 3) := by decide +kernel
theorem dX7_addFile_70 : decode cX7_addFile 70 = .ok (.ifCond .eq 13, 3) := by decide +kernel
theorem dX7_addFile_73 : decode cX7_addFile 73 = .ok (.new 68, 3) := by decide +kernel
theorem dX7_addFile_76 : decode cX7_addFile 76 = .ok (.dup, 1) := by decide +kernel
theorem dX7_addFile_77 : decode cX7_addFile 77 = .ok (.ldc 107, 2) := by decide +kernel
theorem dX7_addFile_79 : decode cX7_addFile 79 = .ok (.invokespecial 72, 3) := by decide +kernel
theorem dX7_addFile_82 : decode cX7_addFile 82 = .ok (.athrow, 1) := by decide +kernel
theorem dX7_addFile_83 : decode cX7_addFile 83 = .ok (.iload_n 2, 1) := by decide +kernel
theorem dX7_addFile_84 : decode cX7_addFile 84 = .ok (.iconst (-1), 1) := by decide +kernel
theorem dX7_addFile_85 : decode cX7_addFile 85 = .ok (.if_icmp .ne 8, 3) := by decide +kernel
theorem dX7_addFile_88 : decode cX7_addFile 88 = .ok (.aload_n 0, 1) := by decide +kernel
theorem dX7_addFile_89 : decode cX7_addFile 89 = .ok (.invokevirtual 109, 3) := by decide +kernel
theorem dX7_addFile_92 : decode cX7_addFile 92 = .ok (.istore_n 2, 1) := by decide +kernel
theorem dX7_addFile_93 : decode cX7_addFile 93 = .ok (.aload_n 0, 1) := by decide +kernel
theorem dX7_addFile_94 : decode cX7_addFile 94 = .ok (.getfield 19, 3) := by decide +kernel
theorem dX7_addFile_97 : decode cX7_addFile 97 = .ok (.iload_n 2, 1) := by decide +kernel
theorem dX7_addFile_98 : decode cX7_addFile 98 = .ok (.iload_n 1, 1) := by decide +kernel
theorem dX7_addFile_99 : decode cX7_addFile 99 = .ok (.invokevirtual 112, 3) := by decide +kernel
theorem dX7_addFile_102 : decode cX7_addFile 102 = .ok (.iload_n 2, 1) := by decide +kernel
theorem dX7_addFile_103 : decode cX7_addFile 103 = .ok (.ireturn, 1) := by decide +kernel
theorem dX7_findFile_0 : decode cX7_findFile 0 = .ok (.aload_n 0, 1) := by decide +kernel
theorem dX7_findFile_1 : decode cX7_findFile 1 = .ok (.getfield 19, 3) := by decide +kernel
theorem dX7_findFile_4 : decode cX7_findFile 4 = .ok (.aload_n 0, 1) := by decide +kernel
theorem dX7_findFile_5 : decode cX7_findFile 5 = .ok (.getfield 10, 3) := by decide +kernel
theorem dX7_findFile_8 : decode cX7_findFile 8 = .ok (.invokevirtual 96, 3) := by decide +kernel
theorem dX7_findFile_11 : decode cX7_findFile 11 = .ok (.ireturn, 1) := by decide +kernel
theorem dX7_edit_0 : decode cX7_edit 0 = .ok (.aload_n 0, 1) := by decide +kernel
theorem dX7_edit_1 : decode cX7_edit 1 = .ok (.iload_n 1, 1) := by decide +kernel
theorem dX7_edit_2 : decode cX7_edit 2 = .ok (.invokevirtual 116, 3) := by decide +kernel
theorem dX7_edit_5 : decode cX7_edit 5 = .ok (.aload_n 0, 1) := by decide +kernel
theorem dX7_edit_6 : decode cX7_edit 6 = .ok (.iload_n 2, 1) := by decide +kernel
theorem dX7_edit_7 : decode cX7_edit 7 = .ok (.invokevirtual 90, 3) := by decide +kernel
theorem dX7_edit_10 : decode cX7_edit 10 = .ok (.aload_n 0, 1) := by decide +kernel
theorem dX7_edit_11 : decode cX7_edit 11 = .ok (.getfield 19, 3) := by decide +kernel
theorem dX7_edit_14 : decode cX7_edit 14 = .ok (.iload_n 1, 1) := by decide +kernel
theorem dX7_edit_15 : decode cX7_edit 15 = .ok (.invokevirtual 119, 3) := by decide +kernel
theorem dX7_edit_18 : decode cX7_edit 18 = .ok (.istore_n 3, 1) := by decide +kernel
theorem dX7_edit_19 : decode cX7_edit 19 = .ok (.aload_n 0, 1) := by decide +kernel
theorem dX7_edit_20 : decode cX7_edit 20 = .ok (.getfield 19, 3) := by decide +kernel
theorem dX7_edit_23 : decode cX7_edit 23 = .ok (.iload_n 1, 1) := by decide +kernel
theorem dX7_edit_24 : decode cX7_edit 24 = .ok (.iload_n 2, 1) := by decide +kernel
theorem dX7_edit_25 : decode cX7_edit 25 = .ok (.invokevirtual 112, 3) := by decide +kernel
theorem dX7_edit_28 : decode cX7_edit 28 = .ok (.iload_n 3, 1) := by decide +kernel
theorem dX7_edit_29 : decode cX7_edit 29 = .ok (.ireturn, 1) := by decide +kernel
theorem dX7_delete_0 : decode cX7_delete 0 = .ok (.aload_n 0, 1) := by decide +kernel
theorem dX7_delete_1 : decode cX7_delete 1 = .ok (.iload_n 1, 1) := by decide +kernel
theorem dX7_delete_2 : decode cX7_delete 2 = .ok (.invokevirtual 116, 3) := by decide +kernel
theorem dX7_delete_5 : decode cX7_delete 5 = .ok (.aload_n 0, 1) := by decide +kernel
theorem dX7_delete_6 : decode cX7_delete 6 = .ok (.getfield 19, 3) := by decide +kernel
theorem dX7_delete_9 : decode cX7_delete 9 = .ok (.iload_n 1, 1) := by decide +kernel
theorem dX7_delete_10 : decode cX7_delete 10 = .ok (.invokevirtual 123, 3) := by decide +kernel
theorem dX7_delete_13 : decode cX7_delete 13 = .ok (.aload_n 0, 1) := by decide +kernel
theorem dX7_delete_14 : decode cX7_delete 14 = .ok (.getfield 19, 3) := by decide +kernel
theorem dX7_delete_17 : decode cX7_delete 17 = .ok (.iload_n 1, 1) := by decide +kernel
theorem dX7_delete_18 : decode cX7_delete 18 = .ok (.invokevirtual 119, 3) := by decide +kernel
theorem dX7_delete_21 : decode cX7_delete 21 = .ok (.ireturn, 1) := by decide +kernel
theorem dX7_files_0 : decode cX7_files 0 = .ok (.aload_n 0, 1) := by decide +kernel
theorem dX7_files_1 : decode cX7_files 1 = .ok (.getfield 19, 3) := by decide +kernel
theorem dX7_files_4 : decode cX7_files 4 = .ok (.invokevirtual 126, 3) := by decide +kernel
theorem dX7_files_7 : decode cX7_files 7 = .ok (.ireturn, 1) := by decide +kernel
theorem dX7_matches_0 : decode cX7_matches 0 = .ok (.aload_n 0, 1) := by decide +kernel
theorem dX7_matches_1 : decode cX7_matches 1 = .ok (.iload_n 1, 1) := by decide +kernel
theorem dX7_matches_2 : decode cX7_matches 2 = .ok (.invokevirtual 129, 3) := by decide +kernel
theorem dX7_matches_5 : decode cX7_matches 5 = .ok (.aload_n 0, 1) := by decide +kernel
theorem dX7_matches_6 : decode cX7_matches 6 = .ok (.getfield 10, 3) := by decide +kernel
theorem dX7_matches_9 : decode cX7_matches 9 = .ok (.invokevirtual 87, 3) := by decide +kernel
theorem dX7_matches_12 : decode cX7_matches 12 = .ok (.ifCond .ne 13, 3) := by decide +kernel
theorem dX7_matches_15 : decode cX7_matches 15 = .ok (.new 68, 3) := by decide +kernel
theorem dX7_matches_18 : decode cX7_matches 18 = .ok (.dup, 1) := by decide +kernel
theorem dX7_matches_19 : decode cX7_matches 19 = .ok (.ldc 132, 2) := by decide +kernel
theorem dX7_matches_21 : decode cX7_matches 21 = .ok (.invokespecial 72, 3) := by decide +kernel
theorem dX7_matches_24 : decode cX7_matches 24 = .ok (.athrow, 1) := by decide +kernel
theorem dX7_matches_25 : decode cX7_matches 25 = .ok (.aload_n 0, 1) := by decide +kernel
theorem dX7_matches_26 : decode cX7_matches 26 = .ok (.getfield 10, 3) := by decide +kernel
theorem dX7_matches_29 : decode cX7_matches 29 = .ok (.aload_n 0, 1) := by decide +kernel
theorem dX7_matches_30 : decode cX7_matches 30 = .ok (.getfield 19, 3) := by decide +kernel
theorem dX7_matches_33 : decode cX7_matches 33 = .ok (.iload_n 1, 1) := by decide +kernel
theorem dX7_matches_34 : decode cX7_matches 34 = .ok (.invokevirtual 134, 3) := by decide +kernel
theorem dX7_matches_37 : decode cX7_matches 37 = .ok (.invokevirtual 138, 3) := by decide +kernel
theorem dX7_matches_40 : decode cX7_matches 40 = .ok (.ireturn, 1) := by decide +kernel
theorem dX7_addTarget_0 : decode cX7_addTarget 0 = .ok (.iload_n 1, 1) := by decide +kernel
theorem dX7_addTarget_1 : decode cX7_addTarget 1 = .ok (.iconst 1, 1) := by decide +kernel
theorem dX7_addTarget_2 : decode cX7_addTarget 2 = .ok (.if_icmp .lt 10, 3) := by decide +kernel
theorem dX7_addTarget_5 : decode cX7_addTarget 5 = .ok (.iload_n 1, 1) := by decide +kernel
theorem dX7_addTarget_6 : decode cX7_addTarget 6 = .ok (.sipush 1000, 3) := by decide +kernel
theorem dX7_addTarget_9 : decode cX7_addTarget 9 = .ok (.if_icmp .le 13, 3) := by decide +kernel
theorem dX7_addTarget_12 : decode cX7_addTarget 12 = .ok (.new 57, 3) := by decide +kernel
theorem dX7_addTarget_15 : decode cX7_addTarget 15 = .ok (.dup, 1) := by decide +kernel
theorem dX7_addTarget_16 : decode cX7_addTarget 16 = .ok (.ldc 142, 2) := by decide +kernel
theorem dX7_addTarget_18 : decode cX7_addTarget 18 = .ok (.invokespecial 61, 3) := by decide +kernel
theorem dX7_addTarget_21 : decode cX7_addTarget 21 = .ok (.athrow, 1) := by decide +kernel
theorem dX7_addTarget_22 : decode cX7_addTarget 22 = .ok (.aload_n 0, 1) := by decide +kernel
theorem dX7_addTarget_23 : decode cX7_addTarget 23 = .ok (.getfield 26, 3) := by decide +kernel
theorem dX7_addTarget_26 : decode cX7_addTarget 26 = .ok (.invokevirtual 144, 3) := by decide +kernel
theorem dX7_addTarget_29 : decode cX7_addTarget 29 = .ok (.ifCond .eq 13, 3) := by decide +kernel
theorem dX7_addTarget_32 : decode cX7_addTarget 32 = .ok (.new 68, 3) := by decide +kernel
theorem dX7_addTarget_35 : decode cX7_addTarget 35 = .ok (.dup, 1) := by decide +kernel
theorem dX7_addTarget_36 : decode cX7_addTarget 36 = .ok (.ldc 145, 2) := by decide +kernel
theorem dX7_addTarget_38 : decode cX7_addTarget 38 = .ok (.invokespecial 72, 3) := by decide +kernel
theorem dX7_addTarget_41 : decode cX7_addTarget 41 = .ok (.athrow, 1) := by decide +kernel
theorem dX7_addTarget_42 : decode cX7_addTarget 42 = .ok (.aload_n 0, 1) := by decide +kernel
theorem dX7_addTarget_43 : decode cX7_addTarget 43 = .ok (.getfield 26, 3) := by decide +kernel
theorem dX7_addTarget_46 : decode cX7_addTarget 46 = .ok (.iload_n 1, 1) := by decide +kernel
theorem dX7_addTarget_47 : decode cX7_addTarget 47 = .ok (.invokevirtual 147, 3) := by decide +kernel
theorem dX7_addTarget_50 : decode cX7_addTarget 50 = .ok (.ireturn, 1) := by decide +kernel
theorem dX7_addGlob_0 : decode cX7_addGlob 0 = .ok (.aload_n 0, 1) := by decide +kernel
theorem dX7_addGlob_1 : decode cX7_addGlob 1 = .ok (.iload_n 1, 1) := by decide +kernel
theorem dX7_addGlob_2 : decode cX7_addGlob 2 = .ok (.invokevirtual 150, 3) := by decide +kernel
theorem dX7_addGlob_5 : decode cX7_addGlob 5 = .ok (.aload_n 0, 1) := by decide +kernel
theorem dX7_addGlob_6 : decode cX7_addGlob 6 = .ok (.invokevirtual 153, 3) := by decide +kernel
theorem dX7_addGlob_9 : decode cX7_addGlob 9 = .ok (.aload_n 0, 1) := by decide +kernel
theorem dX7_addGlob_10 : decode cX7_addGlob 10 = .ok (.getfield 26, 3) := by decide +kernel
theorem dX7_addGlob_13 : decode cX7_addGlob 13 = .ok (.iload_n 1, 1) := by decide +kernel
theorem dX7_addGlob_14 : decode cX7_addGlob 14 = .ok (.invokevirtual 156, 3) := by decide +kernel
theorem dX7_addGlob_17 : decode cX7_addGlob 17 = .ok (.astore_n 2, 1) := by decide +kernel
theorem dX7_addGlob_18 : decode cX7_addGlob 18 = .ok (.aload_n 2, 1) := by decide +kernel
theorem dX7_addGlob_19 : decode cX7_addGlob 19 = .ok (.invokevirtual 160, 3) := by decide +kernel
theorem dX7_addGlob_22 : decode cX7_addGlob 22 = .ok (.ifCond .eq 13, 3) := by decide +kernel
theorem dX7_addGlob_25 : decode cX7_addGlob 25 = .ok (.new 68, 3) := by decide +kernel
theorem dX7_addGlob_28 : decode cX7_addGlob 28 = .ok (.dup, 1) := by decide +kernel
theorem dX7_addGlob_29 : decode cX7_addGlob 29 = .ok (.ldc 163, 2) := by decide +kernel
theorem dX7_addGlob_31 : decode cX7_addGlob 31 = .ok (.invokespecial 72, 3) := by decide +kernel
theorem dX7_addGlob_34 : decode cX7_addGlob 34 = .ok (.athrow, 1) := by decide +kernel
theorem dX7_addGlob_35 : decode cX7_addGlob 35 = .ok (.aload_n 2, 1) := by decide +kernel
theorem dX7_addGlob_36 : decode cX7_addGlob 36 = .ok (.aload_n 0, 1) := by decide +kernel
theorem dX7_addGlob_37 : decode cX7_addGlob 37 = .ok (.getfield 10, 3) := by decide +kernel
theorem dX7_addGlob_40 : decode cX7_addGlob 40 = .ok (.aload_n 0, 1) := by decide +kernel
theorem dX7_addGlob_41 : decode cX7_addGlob 41 = .ok (.getfield 19, 3) := by decide +kernel
theorem dX7_addGlob_44 : decode cX7_addGlob 44 = .ok (.aload_n 0, 1) := by decide +kernel
theorem dX7_addGlob_45 : decode cX7_addGlob 45 = .ok (.getfield 10, 3) := by decide +kernel
theorem dX7_addGlob_48 : decode cX7_addGlob 48 = .ok (.invokevirtual 165, 3) := by decide +kernel
theorem dX7_addGlob_51 : decode cX7_addGlob 51 = .ok (.invokevirtual 168, 3) := by decide +kernel
theorem dX7_addGlob_54 : decode cX7_addGlob 54 = .ok (.aload_n 2, 1) := by decide +kernel
theorem dX7_addGlob_55 : decode cX7_addGlob 55 = .ok (.invokevirtual 171, 3) := by decide +kernel
theorem dX7_addGlob_58 : decode cX7_addGlob 58 = .ok (.aload_n 0, 1) := by decide +kernel
theorem dX7_addGlob_59 : decode cX7_addGlob 59 = .ok (.getfield 19, 3) := by decide +kernel
theorem dX7_addGlob_62 : decode cX7_addGlob 62 = .ok (.invokevirtual 126, 3) := by decide +kernel
theorem dX7_addGlob_65 : decode cX7_addGlob 65 = .ok (.iand, 1) := by decide +kernel
theorem dX7_addGlob_66 : decode cX7_addGlob 66 = .ok (.invokestatic 174, 3) := by decide +kernel
theorem dX7_addGlob_69 : decode cX7_addGlob 69 = .ok (.ireturn, 1) := by decide +kernel
theorem dX7_depend_0 : decode cX7_depend 0 = .ok (.aload_n 0, 1) := by decide +kernel
theorem dX7_depend_1 : decode cX7_depend 1 = .ok (.iload_n 1, 1) := by decide +kernel
theorem dX7_depend_2 : decode cX7_depend 2 = .ok (.invokevirtual 150, 3) := by decide +kernel
theorem dX7_depend_5 : decode cX7_depend 5 = .ok (.aload_n 0, 1) := by decide +kernel
theorem dX7_depend_6 : decode cX7_depend 6 = .ok (.iload_n 2, 1) := by decide +kernel
theorem dX7_depend_7 : decode cX7_depend 7 = .ok (.invokevirtual 150, 3) := by decide +kernel
theorem dX7_depend_10 : decode cX7_depend 10 = .ok (.aload_n 0, 1) := by decide +kernel
theorem dX7_depend_11 : decode cX7_depend 11 = .ok (.getfield 26, 3) := by decide +kernel
theorem dX7_depend_14 : decode cX7_depend 14 = .ok (.iload_n 1, 1) := by decide +kernel
theorem dX7_depend_15 : decode cX7_depend 15 = .ok (.invokevirtual 179, 3) := by decide +kernel
theorem dX7_depend_18 : decode cX7_depend 18 = .ok (.iload_n 2, 1) := by decide +kernel
theorem dX7_depend_19 : decode cX7_depend 19 = .ok (.invokestatic 182, 3) := by decide +kernel
theorem dX7_depend_22 : decode cX7_depend 22 = .ok (.ifCond .eq 13, 3) := by decide +kernel
theorem dX7_depend_25 : decode cX7_depend 25 = .ok (.new 68, 3) := by decide +kernel
theorem dX7_depend_28 : decode cX7_depend 28 = .ok (.dup, 1) := by decide +kernel
theorem dX7_depend_29 : decode cX7_depend 29 = .ok (.ldc 186, 2) := by decide +kernel
theorem dX7_depend_31 : decode cX7_depend 31 = .ok (.invokespecial 72, 3) := by decide +kernel
theorem dX7_depend_34 : decode cX7_depend 34 = .ok (.athrow, 1) := by decide +kernel
theorem dX7_depend_35 : decode cX7_depend 35 = .ok (.aload_n 0, 1) := by decide +kernel
theorem dX7_depend_36 : decode cX7_depend 36 = .ok (.getfield 26, 3) := by decide +kernel
theorem dX7_depend_39 : decode cX7_depend 39 = .ok (.iconst 1, 1) := by decide +kernel
theorem dX7_depend_40 : decode cX7_depend 40 = .ok (.iload_n 1, 1) := by decide +kernel
theorem dX7_depend_41 : decode cX7_depend 41 = .ok (.ishl, 1) := by decide +kernel
theorem dX7_depend_42 : decode cX7_depend 42 = .ok (.invokevirtual 188, 3) := by decide +kernel
theorem dX7_depend_45 : decode cX7_depend 45 = .ok (.iload_n 2, 1) := by decide +kernel
theorem dX7_depend_46 : decode cX7_depend 46 = .ok (.invokestatic 182, 3) := by decide +kernel
theorem dX7_depend_49 : decode cX7_depend 49 = .ok (.ifCond .eq 13, 3) := by decide +kernel
theorem dX7_depend_52 : decode cX7_depend 52 = .ok (.new 68, 3) := by decide +kernel
theorem dX7_depend_55 : decode cX7_depend 55 = .ok (.dup, 1) := by decide +kernel
theorem dX7_depend_56 : decode cX7_depend 56 = .ok (.ldc 191, 2) := by decide +kernel
theorem dX7_depend_58 : decode cX7_depend 58 = .ok (.invokespecial 72, 3) := by decide +kernel
theorem dX7_depend_61 : decode cX7_depend 61 = .ok (.athrow, 1) := by decide +kernel
theorem dX7_depend_62 : decode cX7_depend 62 = .ok (.aload_n 0, 1) := by decide +kernel
theorem dX7_depend_63 : decode cX7_depend 63 = .ok (.getfield 26, 3) := by decide +kernel
theorem dX7_depend_66 : decode cX7_depend 66 = .ok (.iload_n 1, 1) := by decide +kernel
theorem dX7_depend_67 : decode cX7_depend 67 = .ok (.iload_n 2, 1) := by decide +kernel
theorem dX7_depend_68 : decode cX7_depend 68 = .ok (.invokevirtual 193, 3) := by decide +kernel
theorem dX7_depend_71 : decode cX7_depend 71 = .ok (.aload_n 0, 1) := by decide +kernel
theorem dX7_depend_72 : decode cX7_depend 72 = .ok (.getfield 26, 3) := by decide +kernel
theorem dX7_depend_75 : decode cX7_depend 75 = .ok (.iload_n 1, 1) := by decide +kernel
theorem dX7_depend_76 : decode cX7_depend 76 = .ok (.invokevirtual 179, 3) := by decide +kernel
theorem dX7_depend_79 : decode cX7_depend 79 = .ok (.invokestatic 174, 3) := by decide +kernel
theorem dX7_depend_82 : decode cX7_depend 82 = .ok (.ireturn, 1) := by decide +kernel
theorem dX7_targets_0 : decode cX7_targets 0 = .ok (.aload_n 0, 1) := by decide +kernel
theorem dX7_targets_1 : decode cX7_targets 1 = .ok (.getfield 26, 3) := by decide +kernel
theorem dX7_targets_4 : decode cX7_targets 4 = .ok (.invokevirtual 196, 3) := by decide +kernel
theorem dX7_targets_7 : decode cX7_targets 7 = .ok (.ireturn, 1) := by decide +kernel
theorem dX7_inputs_0 : decode cX7_inputs 0 = .ok (.aload_n 0, 1) := by decide +kernel
theorem dX7_inputs_1 : decode cX7_inputs 1 = .ok (.iload_n 1, 1) := by decide +kernel
theorem dX7_inputs_2 : decode cX7_inputs 2 = .ok (.invokevirtual 150, 3) := by decide +kernel
theorem dX7_inputs_5 : decode cX7_inputs 5 = .ok (.aload_n 0, 1) := by decide +kernel
theorem dX7_inputs_6 : decode cX7_inputs 6 = .ok (.getfield 26, 3) := by decide +kernel
theorem dX7_inputs_9 : decode cX7_inputs 9 = .ok (.iload_n 1, 1) := by decide +kernel
theorem dX7_inputs_10 : decode cX7_inputs 10 = .ok (.invokevirtual 156, 3) := by decide +kernel
theorem dX7_inputs_13 : decode cX7_inputs 13 = .ok (.invokevirtual 171, 3) := by decide +kernel
theorem dX7_inputs_16 : decode cX7_inputs 16 = .ok (.aload_n 0, 1) := by decide +kernel
theorem dX7_inputs_17 : decode cX7_inputs 17 = .ok (.getfield 19, 3) := by decide +kernel
theorem dX7_inputs_20 : decode cX7_inputs 20 = .ok (.invokevirtual 126, 3) := by decide +kernel
theorem dX7_inputs_23 : decode cX7_inputs 23 = .ok (.iand, 1) := by decide +kernel
theorem dX7_inputs_24 : decode cX7_inputs 24 = .ok (.ireturn, 1) := by decide +kernel
theorem dX7_above_0 : decode cX7_above 0 = .ok (.aload_n 0, 1) := by decide +kernel
theorem dX7_above_1 : decode cX7_above 1 = .ok (.iload_n 1, 1) := by decide +kernel
theorem dX7_above_2 : decode cX7_above 2 = .ok (.invokevirtual 150, 3) := by decide +kernel
theorem dX7_above_5 : decode cX7_above 5 = .ok (.iconst 1, 1) := by decide +kernel
theorem dX7_above_6 : decode cX7_above 6 = .ok (.iload_n 1, 1) := by decide +kernel
theorem dX7_above_7 : decode cX7_above 7 = .ok (.ishl, 1) := by decide +kernel
theorem dX7_above_8 : decode cX7_above 8 = .ok (.istore_n 2, 1) := by decide +kernel
theorem dX7_above_9 : decode cX7_above 9 = .ok (.aload_n 0, 1) := by decide +kernel
theorem dX7_above_10 : decode cX7_above 10 = .ok (.getfield 26, 3) := by decide +kernel
theorem dX7_above_13 : decode cX7_above 13 = .ok (.iload_n 2, 1) := by decide +kernel
theorem dX7_above_14 : decode cX7_above 14 = .ok (.invokevirtual 188, 3) := by decide +kernel
theorem dX7_above_17 : decode cX7_above 17 = .ok (.iload_n 2, 1) := by decide +kernel
theorem dX7_above_18 : decode cX7_above 18 = .ok (.iconst (-1), 1) := by decide +kernel
theorem dX7_above_19 : decode cX7_above 19 = .ok (.ixor, 1) := by decide +kernel
theorem dX7_above_20 : decode cX7_above 20 = .ok (.iand, 1) := by decide +kernel
theorem dX7_above_21 : decode cX7_above 21 = .ok (.ireturn, 1) := by decide +kernel
theorem dX7_orderAt_0 : decode cX7_orderAt 0 = .ok (.iload_n 1, 1) := by decide +kernel
theorem dX7_orderAt_1 : decode cX7_orderAt 1 = .ok (.ifCond .lt 14, 3) := by decide +kernel
theorem dX7_orderAt_4 : decode cX7_orderAt 4 = .ok (.iload_n 1, 1) := by decide +kernel
theorem dX7_orderAt_5 : decode cX7_orderAt 5 = .ok (.aload_n 0, 1) := by decide +kernel
theorem dX7_orderAt_6 : decode cX7_orderAt 6 = .ok (.getfield 26, 3) := by decide +kernel
theorem dX7_orderAt_9 : decode cX7_orderAt 9 = .ok (.invokevirtual 196, 3) := by decide +kernel
theorem dX7_orderAt_12 : decode cX7_orderAt 12 = .ok (.if_icmp .lt 13, 3) := by decide +kernel
theorem dX7_orderAt_15 : decode cX7_orderAt 15 = .ok (.new 197, 3) := by decide +kernel
theorem dX7_orderAt_18 : decode cX7_orderAt 18 = .ok (.dup, 1) := by decide +kernel
theorem dX7_orderAt_19 : decode cX7_orderAt 19 = .ok (.ldc 199, 2) := by decide +kernel
theorem dX7_orderAt_21 : decode cX7_orderAt 21 = .ok (.invokespecial 201, 3) := by decide +kernel
theorem dX7_orderAt_24 : decode cX7_orderAt 24 = .ok (.athrow, 1) := by decide +kernel
theorem dX7_orderAt_25 : decode cX7_orderAt 25 = .ok (.aload_n 0, 1) := by decide +kernel
theorem dX7_orderAt_26 : decode cX7_orderAt 26 = .ok (.getfield 26, 3) := by decide +kernel
theorem dX7_orderAt_29 : decode cX7_orderAt 29 = .ok (.invokevirtual 202, 3) := by decide +kernel
theorem dX7_orderAt_32 : decode cX7_orderAt 32 = .ok (.aload_n 0, 1) := by decide +kernel
theorem dX7_orderAt_33 : decode cX7_orderAt 33 = .ok (.getfield 26, 3) := by decide +kernel
theorem dX7_orderAt_36 : decode cX7_orderAt 36 = .ok (.iload_n 1, 1) := by decide +kernel
theorem dX7_orderAt_37 : decode cX7_orderAt 37 = .ok (.invokevirtual 205, 3) := by decide +kernel
theorem dX7_orderAt_40 : decode cX7_orderAt 40 = .ok (.ireturn, 1) := by decide +kernel
theorem dX7_affectedBy_0 : decode cX7_affectedBy 0 = .ok (.aload_n 0, 1) := by decide +kernel
theorem dX7_affectedBy_1 : decode cX7_affectedBy 1 = .ok (.iload_n 1, 1) := by decide +kernel
theorem dX7_affectedBy_2 : decode cX7_affectedBy 2 = .ok (.invokevirtual 129, 3) := by decide +kernel
theorem dX7_affectedBy_5 : decode cX7_affectedBy 5 = .ok (.aload_n 0, 1) := by decide +kernel
theorem dX7_affectedBy_6 : decode cX7_affectedBy 6 = .ok (.getfield 26, 3) := by decide +kernel
theorem dX7_affectedBy_9 : decode cX7_affectedBy 9 = .ok (.aload_n 0, 1) := by decide +kernel
theorem dX7_affectedBy_10 : decode cX7_affectedBy 10 = .ok (.getfield 26, 3) := by decide +kernel
theorem dX7_affectedBy_13 : decode cX7_affectedBy 13 = .ok (.iload_n 1, 1) := by decide +kernel
theorem dX7_affectedBy_14 : decode cX7_affectedBy 14 = .ok (.invokevirtual 208, 3) := by decide +kernel
theorem dX7_affectedBy_17 : decode cX7_affectedBy 17 = .ok (.invokevirtual 188, 3) := by decide +kernel
theorem dX7_affectedBy_20 : decode cX7_affectedBy 20 = .ok (.ireturn, 1) := by decide +kernel
theorem dX7_affectedByGoingDown_0 : decode cX7_affectedByGoingDown 0 = .ok (.aload_n 0, 1) := by decide +kernel
theorem dX7_affectedByGoingDown_1 : decode cX7_affectedByGoingDown 1 = .ok (.iload_n 1, 1) := by decide +kernel
theorem dX7_affectedByGoingDown_2 : decode cX7_affectedByGoingDown 2 = .ok (.invokevirtual 129, 3) := by decide +kernel
theorem dX7_affectedByGoingDown_5 : decode cX7_affectedByGoingDown 5 = .ok (.aload_n 0, 1) := by decide +kernel
theorem dX7_affectedByGoingDown_6 : decode cX7_affectedByGoingDown 6 = .ok (.getfield 26, 3) := by decide +kernel
theorem dX7_affectedByGoingDown_9 : decode cX7_affectedByGoingDown 9 = .ok (.aload_n 0, 1) := by decide +kernel
theorem dX7_affectedByGoingDown_10 : decode cX7_affectedByGoingDown 10 = .ok (.getfield 26, 3) := by decide +kernel
theorem dX7_affectedByGoingDown_13 : decode cX7_affectedByGoingDown 13 = .ok (.iload_n 1, 1) := by decide +kernel
theorem dX7_affectedByGoingDown_14 : decode cX7_affectedByGoingDown 14 = .ok (.invokevirtual 208, 3) := by decide +kernel
theorem dX7_affectedByGoingDown_17 : decode cX7_affectedByGoingDown 17 = .ok (.invokevirtual 211, 3) := by decide +kernel
theorem dX7_affectedByGoingDown_20 : decode cX7_affectedByGoingDown 20 = .ok (.ireturn, 1) := by decide +kernel
theorem dX7_keyOf_0 : decode cX7_keyOf 0 = .ok (.aload_n 0, 1) := by decide +kernel
theorem dX7_keyOf_1 : decode cX7_keyOf 1 = .ok (.iload_n 1, 1) := by decide +kernel
theorem dX7_keyOf_2 : decode cX7_keyOf 2 = .ok (.invokevirtual 150, 3) := by decide +kernel
theorem dX7_keyOf_5 : decode cX7_keyOf 5 = .ok (.aload_n 0, 1) := by decide +kernel
theorem dX7_keyOf_6 : decode cX7_keyOf 6 = .ok (.getfield 35, 3) := by decide +kernel
theorem dX7_keyOf_9 : decode cX7_keyOf 9 = .ok (.invokevirtual 214, 3) := by decide +kernel
theorem dX7_keyOf_12 : decode cX7_keyOf 12 = .ok (.aload_n 0, 1) := by decide +kernel
theorem dX7_keyOf_13 : decode cX7_keyOf 13 = .ok (.getfield 35, 3) := by decide +kernel
theorem dX7_keyOf_16 : decode cX7_keyOf 16 = .ok (.iload_n 1, 1) := by decide +kernel
theorem dX7_keyOf_17 : decode cX7_keyOf 17 = .ok (.invokevirtual 217, 3) := by decide +kernel
theorem dX7_keyOf_20 : decode cX7_keyOf 20 = .ok (.ireturn, 1) := by decide +kernel
theorem dX7_needed_0 : decode cX7_needed 0 = .ok (.aload_n 0, 1) := by decide +kernel
theorem dX7_needed_1 : decode cX7_needed 1 = .ok (.getfield 35, 3) := by decide +kernel
theorem dX7_needed_4 : decode cX7_needed 4 = .ok (.invokevirtual 214, 3) := by decide +kernel
theorem dX7_needed_7 : decode cX7_needed 7 = .ok (.aload_n 0, 1) := by decide +kernel
theorem dX7_needed_8 : decode cX7_needed 8 = .ok (.getfield 35, 3) := by decide +kernel
theorem dX7_needed_11 : decode cX7_needed 11 = .ok (.invokevirtual 220, 3) := by decide +kernel
theorem dX7_needed_14 : decode cX7_needed 14 = .ok (.ireturn, 1) := by decide +kernel
theorem dX7_whyRun_0 : decode cX7_whyRun 0 = .ok (.aload_n 0, 1) := by decide +kernel
theorem dX7_whyRun_1 : decode cX7_whyRun 1 = .ok (.iload_n 1, 1) := by decide +kernel
theorem dX7_whyRun_2 : decode cX7_whyRun 2 = .ok (.invokevirtual 150, 3) := by decide +kernel
theorem dX7_whyRun_5 : decode cX7_whyRun 5 = .ok (.aload_n 0, 1) := by decide +kernel
theorem dX7_whyRun_6 : decode cX7_whyRun 6 = .ok (.getfield 35, 3) := by decide +kernel
theorem dX7_whyRun_9 : decode cX7_whyRun 9 = .ok (.invokevirtual 214, 3) := by decide +kernel
theorem dX7_whyRun_12 : decode cX7_whyRun 12 = .ok (.aload_n 0, 1) := by decide +kernel
theorem dX7_whyRun_13 : decode cX7_whyRun 13 = .ok (.getfield 35, 3) := by decide +kernel
theorem dX7_whyRun_16 : decode cX7_whyRun 16 = .ok (.iload_n 1, 1) := by decide +kernel
theorem dX7_whyRun_17 : decode cX7_whyRun 17 = .ok (.invokevirtual 217, 3) := by decide +kernel
theorem dX7_whyRun_20 : decode cX7_whyRun 20 = .ok (.ifCond .eq 5, 3) := by decide +kernel
theorem dX7_whyRun_23 : decode cX7_whyRun 23 = .ok (.iconst 0, 1) := by decide +kernel
theorem dX7_whyRun_24 : decode cX7_whyRun 24 = .ok (.ireturn, 1) := by decide +kernel
theorem dX7_whyRun_25 : decode cX7_whyRun 25 = .ok (.aload_n 0, 1) := by decide +kernel
theorem dX7_whyRun_26 : decode cX7_whyRun 26 = .ok (.getfield 35, 3) := by decide +kernel
theorem dX7_whyRun_29 : decode cX7_whyRun 29 = .ok (.iload_n 1, 1) := by decide +kernel
theorem dX7_whyRun_30 : decode cX7_whyRun 30 = .ok (.invokevirtual 223, 3) := by decide +kernel
theorem dX7_whyRun_33 : decode cX7_whyRun 33 = .ok (.ifCond .ne 5, 3) := by decide +kernel
theorem dX7_whyRun_36 : decode cX7_whyRun 36 = .ok (.iconst 1, 1) := by decide +kernel
theorem dX7_whyRun_37 : decode cX7_whyRun 37 = .ok (.ireturn, 1) := by decide +kernel
theorem dX7_whyRun_38 : decode cX7_whyRun 38 = .ok (.aload_n 0, 1) := by decide +kernel
theorem dX7_whyRun_39 : decode cX7_whyRun 39 = .ok (.getfield 35, 3) := by decide +kernel
theorem dX7_whyRun_42 : decode cX7_whyRun 42 = .ok (.iload_n 1, 1) := by decide +kernel
theorem dX7_whyRun_43 : decode cX7_whyRun 43 = .ok (.invokevirtual 226, 3) := by decide +kernel
theorem dX7_whyRun_46 : decode cX7_whyRun 46 = .ok (.ifCond .eq 7, 3) := by decide +kernel
theorem dX7_whyRun_49 : decode cX7_whyRun 49 = .ok (.iconst 3, 1) := by decide +kernel
theorem dX7_whyRun_50 : decode cX7_whyRun 50 = .ok (.goto 4, 3) := by decide +kernel
theorem dX7_whyRun_53 : decode cX7_whyRun 53 = .ok (.iconst 2, 1) := by decide +kernel
theorem dX7_whyRun_54 : decode cX7_whyRun 54 = .ok (.ireturn, 1) := by decide +kernel
theorem dX7_run_0 : decode cX7_run 0 = .ok (.aload_n 0, 1) := by decide +kernel
theorem dX7_run_1 : decode cX7_run 1 = .ok (.iload_n 1, 1) := by decide +kernel
theorem dX7_run_2 : decode cX7_run 2 = .ok (.invokevirtual 150, 3) := by decide +kernel
theorem dX7_run_5 : decode cX7_run 5 = .ok (.aload_n 0, 1) := by decide +kernel
theorem dX7_run_6 : decode cX7_run 6 = .ok (.getfield 35, 3) := by decide +kernel
theorem dX7_run_9 : decode cX7_run 9 = .ok (.invokevirtual 214, 3) := by decide +kernel
theorem dX7_run_12 : decode cX7_run 12 = .ok (.aload_n 0, 1) := by decide +kernel
theorem dX7_run_13 : decode cX7_run 13 = .ok (.getfield 26, 3) := by decide +kernel
theorem dX7_run_16 : decode cX7_run 16 = .ok (.iload_n 1, 1) := by decide +kernel
theorem dX7_run_17 : decode cX7_run 17 = .ok (.invokevirtual 179, 3) := by decide +kernel
theorem dX7_run_20 : decode cX7_run 20 = .ok (.aload_n 0, 1) := by decide +kernel
theorem dX7_run_21 : decode cX7_run 21 = .ok (.getfield 35, 3) := by decide +kernel
theorem dX7_run_24 : decode cX7_run 24 = .ok (.invokevirtual 220, 3) := by decide +kernel
theorem dX7_run_27 : decode cX7_run 27 = .ok (.iand, 1) := by decide +kernel
theorem dX7_run_28 : decode cX7_run 28 = .ok (.ifCond .eq 13, 3) := by decide +kernel
theorem dX7_run_31 : decode cX7_run 31 = .ok (.new 68, 3) := by decide +kernel
theorem dX7_run_34 : decode cX7_run 34 = .ok (.dup, 1) := by decide +kernel
theorem dX7_run_35 : decode cX7_run 35 = .ok (.ldc 229, 2) := by decide +kernel
theorem dX7_run_37 : decode cX7_run 37 = .ok (.invokespecial 72, 3) := by decide +kernel
theorem dX7_run_40 : decode cX7_run 40 = .ok (.athrow, 1) := by decide +kernel
theorem dX7_run_41 : decode cX7_run 41 = .ok (.aload_n 0, 1) := by decide +kernel
theorem dX7_run_42 : decode cX7_run 42 = .ok (.getfield 35, 3) := by decide +kernel
theorem dX7_run_45 : decode cX7_run 45 = .ok (.iload_n 1, 1) := by decide +kernel
theorem dX7_run_46 : decode cX7_run 46 = .ok (.invokevirtual 217, 3) := by decide +kernel
theorem dX7_run_49 : decode cX7_run 49 = .ok (.ifCond .ne 26, 3) := by decide +kernel
theorem dX7_run_52 : decode cX7_run 52 = .ok (.aload_n 0, 1) := by decide +kernel
theorem dX7_run_53 : decode cX7_run 53 = .ok (.getfield 35, 3) := by decide +kernel
theorem dX7_run_56 : decode cX7_run 56 = .ok (.invokevirtual 231, 3) := by decide +kernel
theorem dX7_run_59 : decode cX7_run 59 = .ok (.sipush 200, 3) := by decide +kernel
theorem dX7_run_62 : decode cX7_run 62 = .ok (.if_icmp .lt 13, 3) := by decide +kernel
theorem dX7_run_65 : decode cX7_run 65 = .ok (.new 68, 3) := by decide +kernel
theorem dX7_run_68 : decode cX7_run 68 = .ok (.dup, 1) := by decide +kernel
theorem dX7_run_69 : decode cX7_run 69 = .ok (.ldc 234, 2) := by decide +kernel
theorem dX7_run_71 : decode cX7_run 71 = .ok (.invokespecial 72, 3) := by decide +kernel
theorem dX7_run_74 : decode cX7_run 74 = .ok (.athrow, 1) := by decide +kernel
theorem dX7_run_75 : decode cX7_run 75 = .ok (.aload_n 0, 1) := by decide +kernel
theorem dX7_run_76 : decode cX7_run 76 = .ok (.getfield 35, 3) := by decide +kernel
theorem dX7_run_79 : decode cX7_run 79 = .ok (.iload_n 1, 1) := by decide +kernel
theorem dX7_run_80 : decode cX7_run 80 = .ok (.invokevirtual 236, 3) := by decide +kernel
theorem dX7_run_83 : decode cX7_run 83 = .ok (.ireturn, 1) := by decide +kernel
theorem dX7_runAll_0 : decode cX7_runAll 0 = .ok (.aload_n 0, 1) := by decide +kernel
theorem dX7_runAll_1 : decode cX7_runAll 1 = .ok (.getfield 35, 3) := by decide +kernel
theorem dX7_runAll_4 : decode cX7_runAll 4 = .ok (.invokevirtual 214, 3) := by decide +kernel
theorem dX7_runAll_7 : decode cX7_runAll 7 = .ok (.aload_n 0, 1) := by decide +kernel
theorem dX7_runAll_8 : decode cX7_runAll 8 = .ok (.getfield 35, 3) := by decide +kernel
theorem dX7_runAll_11 : decode cX7_runAll 11 = .ok (.invokevirtual 220, 3) := by decide +kernel
theorem dX7_runAll_14 : decode cX7_runAll 14 = .ok (.invokestatic 174, 3) := by decide +kernel
theorem dX7_runAll_17 : decode cX7_runAll 17 = .ok (.istore_n 1, 1) := by decide +kernel
theorem dX7_runAll_18 : decode cX7_runAll 18 = .ok (.aload_n 0, 1) := by decide +kernel
theorem dX7_runAll_19 : decode cX7_runAll 19 = .ok (.getfield 35, 3) := by decide +kernel
theorem dX7_runAll_22 : decode cX7_runAll 22 = .ok (.invokevirtual 231, 3) := by decide +kernel
theorem dX7_runAll_25 : decode cX7_runAll 25 = .ok (.iload_n 1, 1) := by decide +kernel
theorem dX7_runAll_26 : decode cX7_runAll 26 = .ok (.iadd, 1) := by decide +kernel
theorem dX7_runAll_27 : decode cX7_runAll 27 = .ok (.sipush 200, 3) := by decide +kernel
theorem dX7_runAll_30 : decode cX7_runAll 30 = .ok (.if_icmp .le 13, 3) := by decide +kernel
theorem dX7_runAll_33 : decode cX7_runAll 33 = .ok (.new 68, 3) := by decide +kernel
theorem dX7_runAll_36 : decode cX7_runAll 36 = .ok (.dup, 1) := by decide +kernel
theorem dX7_runAll_37 : decode cX7_runAll 37 = .ok (.ldc 239, 2) := by decide +kernel
theorem dX7_runAll_39 : decode cX7_runAll 39 = .ok (.invokespecial 72, 3) := by decide +kernel
theorem dX7_runAll_42 : decode cX7_runAll 42 = .ok (.athrow, 1) := by decide +kernel
theorem dX7_runAll_43 : decode cX7_runAll 43 = .ok (.aload_n 0, 1) := by decide +kernel
theorem dX7_runAll_44 : decode cX7_runAll 44 = .ok (.getfield 35, 3) := by decide +kernel
theorem dX7_runAll_47 : decode cX7_runAll 47 = .ok (.invokevirtual 241, 3) := by decide +kernel
theorem dX7_runAll_50 : decode cX7_runAll 50 = .ok (.iload_n 1, 1) := by decide +kernel
theorem dX7_runAll_51 : decode cX7_runAll 51 = .ok (.ireturn, 1) := by decide +kernel
theorem dX7_keys_0 : decode cX7_keys 0 = .ok (.aload_n 0, 1) := by decide +kernel
theorem dX7_keys_1 : decode cX7_keys 1 = .ok (.getfield 35, 3) := by decide +kernel
theorem dX7_keys_4 : decode cX7_keys 4 = .ok (.invokevirtual 231, 3) := by decide +kernel
theorem dX7_keys_7 : decode cX7_keys 7 = .ok (.ireturn, 1) := by decide +kernel
theorem dX7_shardOf_0 : decode cX7_shardOf 0 = .ok (.aload_n 0, 1) := by decide +kernel
theorem dX7_shardOf_1 : decode cX7_shardOf 1 = .ok (.iload_n 1, 1) := by decide +kernel
theorem dX7_shardOf_2 : decode cX7_shardOf 2 = .ok (.invokevirtual 150, 3) := by decide +kernel
theorem dX7_shardOf_5 : decode cX7_shardOf 5 = .ok (.aload_n 0, 1) := by decide +kernel
theorem dX7_shardOf_6 : decode cX7_shardOf 6 = .ok (.iload_n 2, 1) := by decide +kernel
theorem dX7_shardOf_7 : decode cX7_shardOf 7 = .ok (.invokevirtual 244, 3) := by decide +kernel
theorem dX7_shardOf_10 : decode cX7_shardOf 10 = .ok (.aload_n 0, 1) := by decide +kernel
theorem dX7_shardOf_11 : decode cX7_shardOf 11 = .ok (.getfield 35, 3) := by decide +kernel
theorem dX7_shardOf_14 : decode cX7_shardOf 14 = .ok (.invokevirtual 214, 3) := by decide +kernel
theorem dX7_shardOf_17 : decode cX7_shardOf 17 = .ok (.aload_n 0, 1) := by decide +kernel
theorem dX7_shardOf_18 : decode cX7_shardOf 18 = .ok (.getfield 42, 3) := by decide +kernel
theorem dX7_shardOf_21 : decode cX7_shardOf 21 = .ok (.aload_n 0, 1) := by decide +kernel
theorem dX7_shardOf_22 : decode cX7_shardOf 22 = .ok (.getfield 26, 3) := by decide +kernel
theorem dX7_shardOf_25 : decode cX7_shardOf 25 = .ok (.aload_n 0, 1) := by decide +kernel
theorem dX7_shardOf_26 : decode cX7_shardOf 26 = .ok (.getfield 35, 3) := by decide +kernel
theorem dX7_shardOf_29 : decode cX7_shardOf 29 = .ok (.invokevirtual 220, 3) := by decide +kernel
theorem dX7_shardOf_32 : decode cX7_shardOf 32 = .ok (.iload_n 2, 1) := by decide +kernel
theorem dX7_shardOf_33 : decode cX7_shardOf 33 = .ok (.invokevirtual 247, 3) := by decide +kernel
theorem dX7_shardOf_36 : decode cX7_shardOf 36 = .ok (.aload_n 0, 1) := by decide +kernel
theorem dX7_shardOf_37 : decode cX7_shardOf 37 = .ok (.getfield 42, 3) := by decide +kernel
theorem dX7_shardOf_40 : decode cX7_shardOf 40 = .ok (.iload_n 1, 1) := by decide +kernel
theorem dX7_shardOf_41 : decode cX7_shardOf 41 = .ok (.invokevirtual 251, 3) := by decide +kernel
theorem dX7_shardOf_44 : decode cX7_shardOf 44 = .ok (.ireturn, 1) := by decide +kernel
theorem dX7_longestShard_0 : decode cX7_longestShard 0 = .ok (.aload_n 0, 1) := by decide +kernel
theorem dX7_longestShard_1 : decode cX7_longestShard 1 = .ok (.iload_n 1, 1) := by decide +kernel
theorem dX7_longestShard_2 : decode cX7_longestShard 2 = .ok (.invokevirtual 244, 3) := by decide +kernel
theorem dX7_longestShard_5 : decode cX7_longestShard 5 = .ok (.aload_n 0, 1) := by decide +kernel
theorem dX7_longestShard_6 : decode cX7_longestShard 6 = .ok (.getfield 35, 3) := by decide +kernel
theorem dX7_longestShard_9 : decode cX7_longestShard 9 = .ok (.invokevirtual 214, 3) := by decide +kernel
theorem dX7_longestShard_12 : decode cX7_longestShard 12 = .ok (.aload_n 0, 1) := by decide +kernel
theorem dX7_longestShard_13 : decode cX7_longestShard 13 = .ok (.getfield 42, 3) := by decide +kernel
theorem dX7_longestShard_16 : decode cX7_longestShard 16 = .ok (.aload_n 0, 1) := by decide +kernel
theorem dX7_longestShard_17 : decode cX7_longestShard 17 = .ok (.getfield 26, 3) := by decide +kernel
theorem dX7_longestShard_20 : decode cX7_longestShard 20 = .ok (.aload_n 0, 1) := by decide +kernel
theorem dX7_longestShard_21 : decode cX7_longestShard 21 = .ok (.getfield 35, 3) := by decide +kernel
theorem dX7_longestShard_24 : decode cX7_longestShard 24 = .ok (.invokevirtual 220, 3) := by decide +kernel
theorem dX7_longestShard_27 : decode cX7_longestShard 27 = .ok (.iload_n 1, 1) := by decide +kernel
theorem dX7_longestShard_28 : decode cX7_longestShard 28 = .ok (.invokevirtual 247, 3) := by decide +kernel
theorem dX7_longestShard_31 : decode cX7_longestShard 31 = .ok (.aload_n 0, 1) := by decide +kernel
theorem dX7_longestShard_32 : decode cX7_longestShard 32 = .ok (.getfield 42, 3) := by decide +kernel
theorem dX7_longestShard_35 : decode cX7_longestShard 35 = .ok (.invokevirtual 254, 3) := by decide +kernel
theorem dX7_longestShard_38 : decode cX7_longestShard 38 = .ok (.ireturn, 1) := by decide +kernel
theorem dX7_shardsFor_0 : decode cX7_shardsFor 0 = .ok (.iload_n 1, 1) := by decide +kernel
theorem dX7_shardsFor_1 : decode cX7_shardsFor 1 = .ok (.iconst 1, 1) := by decide +kernel
theorem dX7_shardsFor_2 : decode cX7_shardsFor 2 = .ok (.if_icmp .lt 10, 3) := by decide +kernel
theorem dX7_shardsFor_5 : decode cX7_shardsFor 5 = .ok (.iload_n 1, 1) := by decide +kernel
theorem dX7_shardsFor_6 : decode cX7_shardsFor 6 = .ok (.sipush 16000, 3) := by decide +kernel
theorem dX7_shardsFor_9 : decode cX7_shardsFor 9 = .ok (.if_icmp .le 14, 3) := by decide +kernel
theorem dX7_shardsFor_12 : decode cX7_shardsFor 12 = .ok (.new 57, 3) := by decide +kernel
theorem dX7_shardsFor_15 : decode cX7_shardsFor 15 = .ok (.dup, 1) := by decide +kernel
theorem dX7_shardsFor_16 : decode cX7_shardsFor 16 = .ok (.ldc_w 257, 3) := by decide +kernel
theorem dX7_shardsFor_19 : decode cX7_shardsFor 19 = .ok (.invokespecial 61, 3) := by decide +kernel
theorem dX7_shardsFor_22 : decode cX7_shardsFor 22 = .ok (.athrow, 1) := by decide +kernel
theorem dX7_shardsFor_23 : decode cX7_shardsFor 23 = .ok (.aload_n 0, 1) := by decide +kernel
theorem dX7_shardsFor_24 : decode cX7_shardsFor 24 = .ok (.getfield 35, 3) := by decide +kernel
theorem dX7_shardsFor_27 : decode cX7_shardsFor 27 = .ok (.invokevirtual 214, 3) := by decide +kernel
theorem dX7_shardsFor_30 : decode cX7_shardsFor 30 = .ok (.iconst 1, 1) := by decide +kernel
theorem dX7_shardsFor_31 : decode cX7_shardsFor 31 = .ok (.istore_n 2, 1) := by decide +kernel
theorem dX7_shardsFor_32 : decode cX7_shardsFor 32 = .ok (.iload_n 2, 1) := by decide +kernel
theorem dX7_shardsFor_33 : decode cX7_shardsFor 33 = .ok (.bipush 8, 2) := by decide +kernel
theorem dX7_shardsFor_35 : decode cX7_shardsFor 35 = .ok (.if_icmp .gt 41, 3) := by decide +kernel
theorem dX7_shardsFor_38 : decode cX7_shardsFor 38 = .ok (.aload_n 0, 1) := by decide +kernel
theorem dX7_shardsFor_39 : decode cX7_shardsFor 39 = .ok (.getfield 42, 3) := by decide +kernel
theorem dX7_shardsFor_42 : decode cX7_shardsFor 42 = .ok (.aload_n 0, 1) := by decide +kernel
theorem dX7_shardsFor_43 : decode cX7_shardsFor 43 = .ok (.getfield 26, 3) := by decide +kernel
theorem dX7_shardsFor_46 : decode cX7_shardsFor 46 = .ok (.aload_n 0, 1) := by decide +kernel
theorem dX7_shardsFor_47 : decode cX7_shardsFor 47 = .ok (.getfield 35, 3) := by decide +kernel
theorem dX7_shardsFor_50 : decode cX7_shardsFor 50 = .ok (.invokevirtual 220, 3) := by decide +kernel
theorem dX7_shardsFor_53 : decode cX7_shardsFor 53 = .ok (.iload_n 2, 1) := by decide +kernel
theorem dX7_shardsFor_54 : decode cX7_shardsFor 54 = .ok (.invokevirtual 247, 3) := by decide +kernel
theorem dX7_shardsFor_57 : decode cX7_shardsFor 57 = .ok (.aload_n 0, 1) := by decide +kernel
theorem dX7_shardsFor_58 : decode cX7_shardsFor 58 = .ok (.getfield 42, 3) := by decide +kernel
theorem dX7_shardsFor_61 : decode cX7_shardsFor 61 = .ok (.invokevirtual 254, 3) := by decide +kernel
theorem dX7_shardsFor_64 : decode cX7_shardsFor 64 = .ok (.iload_n 1, 1) := by decide +kernel
theorem dX7_shardsFor_65 : decode cX7_shardsFor 65 = .ok (.if_icmp .gt 5, 3) := by decide +kernel
theorem dX7_shardsFor_68 : decode cX7_shardsFor 68 = .ok (.iload_n 2, 1) := by decide +kernel
theorem dX7_shardsFor_69 : decode cX7_shardsFor 69 = .ok (.ireturn, 1) := by decide +kernel
theorem dX7_shardsFor_70 : decode cX7_shardsFor 70 = .ok (.iinc 2 1, 3) := by decide +kernel
theorem dX7_shardsFor_73 : decode cX7_shardsFor 73 = .ok (.goto (-41), 3) := by decide +kernel
theorem dX7_shardsFor_76 : decode cX7_shardsFor 76 = .ok (.iconst (-1), 1) := by decide +kernel
theorem dX7_shardsFor_77 : decode cX7_shardsFor 77 = .ok (.ireturn, 1) := by decide +kernel
theorem dX7_addRule_0 : decode cX7_addRule 0 = .ok (.iload_n 1, 1) := by decide +kernel
theorem dX7_addRule_1 : decode cX7_addRule 1 = .ok (.ifCond .lt 9, 3) := by decide +kernel
theorem dX7_addRule_4 : decode cX7_addRule 4 = .ok (.iload_n 1, 1) := by decide +kernel
theorem dX7_addRule_5 : decode cX7_addRule 5 = .ok (.bipush 7, 2) := by decide +kernel
theorem dX7_addRule_7 : decode cX7_addRule 7 = .ok (.if_icmp .le 14, 3) := by decide +kernel
theorem dX7_addRule_10 : decode cX7_addRule 10 = .ok (.new 197, 3) := by decide +kernel
theorem dX7_addRule_13 : decode cX7_addRule 13 = .ok (.dup, 1) := by decide +kernel
theorem dX7_addRule_14 : decode cX7_addRule 14 = .ok (.ldc_w 259, 3) := by decide +kernel
theorem dX7_addRule_17 : decode cX7_addRule 17 = .ok (.invokespecial 201, 3) := by decide +kernel
theorem dX7_addRule_20 : decode cX7_addRule 20 = .ok (.athrow, 1) := by decide +kernel
theorem dX7_addRule_21 : decode cX7_addRule 21 = .ok (.aload_n 0, 1) := by decide +kernel
theorem dX7_addRule_22 : decode cX7_addRule 22 = .ok (.invokevirtual 153, 3) := by decide +kernel
theorem dX7_addRule_25 : decode cX7_addRule 25 = .ok (.aload_n 0, 1) := by decide +kernel
theorem dX7_addRule_26 : decode cX7_addRule 26 = .ok (.getfield 49, 3) := by decide +kernel
theorem dX7_addRule_29 : decode cX7_addRule 29 = .ok (.invokevirtual 261, 3) := by decide +kernel
theorem dX7_addRule_32 : decode cX7_addRule 32 = .ok (.ifCond .eq 14, 3) := by decide +kernel
theorem dX7_addRule_35 : decode cX7_addRule 35 = .ok (.new 68, 3) := by decide +kernel
theorem dX7_addRule_38 : decode cX7_addRule 38 = .ok (.dup, 1) := by decide +kernel
theorem dX7_addRule_39 : decode cX7_addRule 39 = .ok (.ldc_w 262, 3) := by decide +kernel
theorem dX7_addRule_42 : decode cX7_addRule 42 = .ok (.invokespecial 72, 3) := by decide +kernel
theorem dX7_addRule_45 : decode cX7_addRule 45 = .ok (.athrow, 1) := by decide +kernel
theorem dX7_addRule_46 : decode cX7_addRule 46 = .ok (.aload_n 0, 1) := by decide +kernel
theorem dX7_addRule_47 : decode cX7_addRule 47 = .ok (.getfield 49, 3) := by decide +kernel
theorem dX7_addRule_50 : decode cX7_addRule 50 = .ok (.aload_n 0, 1) := by decide +kernel
theorem dX7_addRule_51 : decode cX7_addRule 51 = .ok (.getfield 10, 3) := by decide +kernel
theorem dX7_addRule_54 : decode cX7_addRule 54 = .ok (.aload_n 0, 1) := by decide +kernel
theorem dX7_addRule_55 : decode cX7_addRule 55 = .ok (.getfield 19, 3) := by decide +kernel
theorem dX7_addRule_58 : decode cX7_addRule 58 = .ok (.aload_n 0, 1) := by decide +kernel
theorem dX7_addRule_59 : decode cX7_addRule 59 = .ok (.getfield 10, 3) := by decide +kernel
theorem dX7_addRule_62 : decode cX7_addRule 62 = .ok (.invokevirtual 165, 3) := by decide +kernel
theorem dX7_addRule_65 : decode cX7_addRule 65 = .ok (.iload_n 1, 1) := by decide +kernel
theorem dX7_addRule_66 : decode cX7_addRule 66 = .ok (.invokevirtual 264, 3) := by decide +kernel
theorem dX7_addRule_69 : decode cX7_addRule 69 = .ok (.aload_n 0, 1) := by decide +kernel
theorem dX7_addRule_70 : decode cX7_addRule 70 = .ok (.getfield 49, 3) := by decide +kernel
theorem dX7_addRule_73 : decode cX7_addRule 73 = .ok (.invokevirtual 267, 3) := by decide +kernel
theorem dX7_addRule_76 : decode cX7_addRule 76 = .ok (.ireturn, 1) := by decide +kernel
theorem dX7_ownerOf_0 : decode cX7_ownerOf 0 = .ok (.aload_n 0, 1) := by decide +kernel
theorem dX7_ownerOf_1 : decode cX7_ownerOf 1 = .ok (.iload_n 1, 1) := by decide +kernel
theorem dX7_ownerOf_2 : decode cX7_ownerOf 2 = .ok (.invokevirtual 129, 3) := by decide +kernel
theorem dX7_ownerOf_5 : decode cX7_ownerOf 5 = .ok (.aload_n 0, 1) := by decide +kernel
theorem dX7_ownerOf_6 : decode cX7_ownerOf 6 = .ok (.getfield 49, 3) := by decide +kernel
theorem dX7_ownerOf_9 : decode cX7_ownerOf 9 = .ok (.iload_n 1, 1) := by decide +kernel
theorem dX7_ownerOf_10 : decode cX7_ownerOf 10 = .ok (.invokevirtual 268, 3) := by decide +kernel
theorem dX7_ownerOf_13 : decode cX7_ownerOf 13 = .ok (.ireturn, 1) := by decide +kernel
theorem dX7_mark_0 : decode cX7_mark 0 = .ok (.aload_n 0, 1) := by decide +kernel
theorem dX7_mark_1 : decode cX7_mark 1 = .ok (.getfield 19, 3) := by decide +kernel
theorem dX7_mark_4 : decode cX7_mark 4 = .ok (.invokevirtual 271, 3) := by decide +kernel
theorem dX7_mark_7 : decode cX7_mark 7 = .ok (.aload_n 0, 1) := by decide +kernel
theorem dX7_mark_8 : decode cX7_mark 8 = .ok (.getfield 19, 3) := by decide +kernel
theorem dX7_mark_11 : decode cX7_mark 11 = .ok (.invokevirtual 126, 3) := by decide +kernel
theorem dX7_mark_14 : decode cX7_mark 14 = .ok (.invokestatic 174, 3) := by decide +kernel
theorem dX7_mark_17 : decode cX7_mark 17 = .ok (.ireturn, 1) := by decide +kernel
theorem dX7_changed_0 : decode cX7_changed 0 = .ok (.aload_n 0, 1) := by decide +kernel
theorem dX7_changed_1 : decode cX7_changed 1 = .ok (.getfield 19, 3) := by decide +kernel
theorem dX7_changed_4 : decode cX7_changed 4 = .ok (.invokevirtual 274, 3) := by decide +kernel
theorem dX7_changed_7 : decode cX7_changed 7 = .ok (.ireturn, 1) := by decide +kernel
theorem dX7_reviewers_0 : decode cX7_reviewers 0 = .ok (.aload_n 0, 1) := by decide +kernel
theorem dX7_reviewers_1 : decode cX7_reviewers 1 = .ok (.getfield 49, 3) := by decide +kernel
theorem dX7_reviewers_4 : decode cX7_reviewers 4 = .ok (.aload_n 0, 1) := by decide +kernel
theorem dX7_reviewers_5 : decode cX7_reviewers 5 = .ok (.getfield 19, 3) := by decide +kernel
theorem dX7_reviewers_8 : decode cX7_reviewers 8 = .ok (.invokevirtual 274, 3) := by decide +kernel
theorem dX7_reviewers_11 : decode cX7_reviewers 11 = .ok (.invokevirtual 277, 3) := by decide +kernel
theorem dX7_reviewers_14 : decode cX7_reviewers 14 = .ok (.ireturn, 1) := by decide +kernel
theorem dX7_requireContent_0 : decode cX7_requireContent 0 = .ok (.iload_n 1, 1) := by decide +kernel
theorem dX7_requireContent_1 : decode cX7_requireContent 1 = .ok (.ifCond .lt 10, 3) := by decide +kernel
theorem dX7_requireContent_4 : decode cX7_requireContent 4 = .ok (.iload_n 1, 1) := by decide +kernel
theorem dX7_requireContent_5 : decode cX7_requireContent 5 = .ok (.sipush 9999, 3) := by decide +kernel
theorem dX7_requireContent_8 : decode cX7_requireContent 8 = .ok (.if_icmp .le 14, 3) := by decide +kernel
theorem dX7_requireContent_11 : decode cX7_requireContent 11 = .ok (.new 57, 3) := by decide +kernel
theorem dX7_requireContent_14 : decode cX7_requireContent 14 = .ok (.dup, 1) := by decide +kernel
theorem dX7_requireContent_15 : decode cX7_requireContent 15 = .ok (.ldc_w 280, 3) := by decide +kernel
theorem dX7_requireContent_18 : decode cX7_requireContent 18 = .ok (.invokespecial 61, 3) := by decide +kernel
theorem dX7_requireContent_21 : decode cX7_requireContent 21 = .ok (.athrow, 1) := by decide +kernel
theorem dX7_requireContent_22 : decode cX7_requireContent 22 = .ok (.return_, 1) := by decide +kernel
theorem dX7_requireFile_0 : decode cX7_requireFile 0 = .ok (.aload_n 0, 1) := by decide +kernel
theorem dX7_requireFile_1 : decode cX7_requireFile 1 = .ok (.getfield 19, 3) := by decide +kernel
theorem dX7_requireFile_4 : decode cX7_requireFile 4 = .ok (.iload_n 1, 1) := by decide +kernel
theorem dX7_requireFile_5 : decode cX7_requireFile 5 = .ok (.invokevirtual 282, 3) := by decide +kernel
theorem dX7_requireFile_8 : decode cX7_requireFile 8 = .ok (.ifCond .ne 14, 3) := by decide +kernel
theorem dX7_requireFile_11 : decode cX7_requireFile 11 = .ok (.new 197, 3) := by decide +kernel
theorem dX7_requireFile_14 : decode cX7_requireFile 14 = .ok (.dup, 1) := by decide +kernel
theorem dX7_requireFile_15 : decode cX7_requireFile 15 = .ok (.ldc_w 285, 3) := by decide +kernel
theorem dX7_requireFile_18 : decode cX7_requireFile 18 = .ok (.invokespecial 201, 3) := by decide +kernel
theorem dX7_requireFile_21 : decode cX7_requireFile 21 = .ok (.athrow, 1) := by decide +kernel
theorem dX7_requireFile_22 : decode cX7_requireFile 22 = .ok (.return_, 1) := by decide +kernel
theorem dX7_requireFileThere_0 : decode cX7_requireFileThere 0 = .ok (.aload_n 0, 1) := by decide +kernel
theorem dX7_requireFileThere_1 : decode cX7_requireFileThere 1 = .ok (.getfield 19, 3) := by decide +kernel
theorem dX7_requireFileThere_4 : decode cX7_requireFileThere 4 = .ok (.iload_n 1, 1) := by decide +kernel
theorem dX7_requireFileThere_5 : decode cX7_requireFileThere 5 = .ok (.invokevirtual 100, 3) := by decide +kernel
theorem dX7_requireFileThere_8 : decode cX7_requireFileThere 8 = .ok (.ifCond .ne 14, 3) := by decide +kernel
theorem dX7_requireFileThere_11 : decode cX7_requireFileThere 11 = .ok (.new 197, 3) := by decide +kernel
theorem dX7_requireFileThere_14 : decode cX7_requireFileThere 14 = .ok (.dup, 1) := by decide +kernel
theorem dX7_requireFileThere_15 : decode cX7_requireFileThere 15 = .ok (.ldc_w 287, 3) := by decide +kernel
theorem dX7_requireFileThere_18 : decode cX7_requireFileThere 18 = .ok (.invokespecial 201, 3) := by decide +kernel
theorem dX7_requireFileThere_21 : decode cX7_requireFileThere 21 = .ok (.athrow, 1) := by decide +kernel
theorem dX7_requireFileThere_22 : decode cX7_requireFileThere 22 = .ok (.return_, 1) := by decide +kernel
theorem dX7_requireTarget_0 : decode cX7_requireTarget 0 = .ok (.aload_n 0, 1) := by decide +kernel
theorem dX7_requireTarget_1 : decode cX7_requireTarget 1 = .ok (.getfield 26, 3) := by decide +kernel
theorem dX7_requireTarget_4 : decode cX7_requireTarget 4 = .ok (.iload_n 1, 1) := by decide +kernel
theorem dX7_requireTarget_5 : decode cX7_requireTarget 5 = .ok (.invokevirtual 289, 3) := by decide +kernel
theorem dX7_requireTarget_8 : decode cX7_requireTarget 8 = .ok (.ifCond .ne 14, 3) := by decide +kernel
theorem dX7_requireTarget_11 : decode cX7_requireTarget 11 = .ok (.new 197, 3) := by decide +kernel
theorem dX7_requireTarget_14 : decode cX7_requireTarget 14 = .ok (.dup, 1) := by decide +kernel
theorem dX7_requireTarget_15 : decode cX7_requireTarget 15 = .ok (.ldc_w 290, 3) := by decide +kernel
theorem dX7_requireTarget_18 : decode cX7_requireTarget 18 = .ok (.invokespecial 201, 3) := by decide +kernel
theorem dX7_requireTarget_21 : decode cX7_requireTarget 21 = .ok (.athrow, 1) := by decide +kernel
theorem dX7_requireTarget_22 : decode cX7_requireTarget 22 = .ok (.return_, 1) := by decide +kernel
theorem dX7_requireGlob_0 : decode cX7_requireGlob 0 = .ok (.aload_n 0, 1) := by decide +kernel
theorem dX7_requireGlob_1 : decode cX7_requireGlob 1 = .ok (.getfield 10, 3) := by decide +kernel
theorem dX7_requireGlob_4 : decode cX7_requireGlob 4 = .ok (.invokevirtual 87, 3) := by decide +kernel
theorem dX7_requireGlob_7 : decode cX7_requireGlob 7 = .ok (.ifCond .ne 13, 3) := by decide +kernel
theorem dX7_requireGlob_10 : decode cX7_requireGlob 10 = .ok (.new 57, 3) := by decide +kernel
theorem dX7_requireGlob_13 : decode cX7_requireGlob 13 = .ok (.dup, 1) := by decide +kernel
theorem dX7_requireGlob_14 : decode cX7_requireGlob 14 = .ok (.ldc 132, 2) := by decide +kernel
theorem dX7_requireGlob_16 : decode cX7_requireGlob 16 = .ok (.invokespecial 61, 3) := by decide +kernel
theorem dX7_requireGlob_19 : decode cX7_requireGlob 19 = .ok (.athrow, 1) := by decide +kernel
theorem dX7_requireGlob_20 : decode cX7_requireGlob 20 = .ok (.return_, 1) := by decide +kernel
theorem dX7_requireShards_0 : decode cX7_requireShards 0 = .ok (.iload_n 1, 1) := by decide +kernel
theorem dX7_requireShards_1 : decode cX7_requireShards 1 = .ok (.iconst 1, 1) := by decide +kernel
theorem dX7_requireShards_2 : decode cX7_requireShards 2 = .ok (.if_icmp .lt 9, 3) := by decide +kernel
theorem dX7_requireShards_5 : decode cX7_requireShards 5 = .ok (.iload_n 1, 1) := by decide +kernel
theorem dX7_requireShards_6 : decode cX7_requireShards 6 = .ok (.bipush 8, 2) := by decide +kernel
theorem dX7_requireShards_8 : decode cX7_requireShards 8 = .ok (.if_icmp .le 14, 3) := by decide +kernel
theorem dX7_requireShards_11 : decode cX7_requireShards 11 = .ok (.new 57, 3) := by decide +kernel
theorem dX7_requireShards_14 : decode cX7_requireShards 14 = .ok (.dup, 1) := by decide +kernel
theorem dX7_requireShards_15 : decode cX7_requireShards 15 = .ok (.ldc_w 292, 3) := by decide +kernel
theorem dX7_requireShards_18 : decode cX7_requireShards 18 = .ok (.invokespecial 61, 3) := by decide +kernel
theorem dX7_requireShards_21 : decode cX7_requireShards 21 = .ok (.athrow, 1) := by decide +kernel
theorem dX7_requireShards_22 : decode cX7_requireShards 22 = .ok (.return_, 1) := by decide +kernel
theorem dX7_numberNewPath_0 : decode cX7_numberNewPath 0 = .ok (.aload_n 0, 1) := by decide +kernel
theorem dX7_numberNewPath_1 : decode cX7_numberNewPath 1 = .ok (.getfield 19, 3) := by decide +kernel
theorem dX7_numberNewPath_4 : decode cX7_numberNewPath 4 = .ok (.aload_n 0, 1) := by decide +kernel
theorem dX7_numberNewPath_5 : decode cX7_numberNewPath 5 = .ok (.getfield 10, 3) := by decide +kernel
theorem dX7_numberNewPath_8 : decode cX7_numberNewPath 8 = .ok (.invokevirtual 294, 3) := by decide +kernel
theorem dX7_numberNewPath_11 : decode cX7_numberNewPath 11 = .ok (.istore_n 1, 1) := by decide +kernel
theorem dX7_numberNewPath_12 : decode cX7_numberNewPath 12 = .ok (.aload_n 0, 1) := by decide +kernel
theorem dX7_numberNewPath_13 : decode cX7_numberNewPath 13 = .ok (.getfield 26, 3) := by decide +kernel
theorem dX7_numberNewPath_16 : decode cX7_numberNewPath 16 = .ok (.iload_n 1, 1) := by decide +kernel
theorem dX7_numberNewPath_17 : decode cX7_numberNewPath 17 = .ok (.aload_n 0, 1) := by decide +kernel
theorem dX7_numberNewPath_18 : decode cX7_numberNewPath 18 = .ok (.getfield 10, 3) := by decide +kernel
theorem dX7_numberNewPath_21 : decode cX7_numberNewPath 21 = .ok (.invokevirtual 297, 3) := by decide +kernel
theorem dX7_numberNewPath_24 : decode cX7_numberNewPath 24 = .ok (.aload_n 0, 1) := by decide +kernel
theorem dX7_numberNewPath_25 : decode cX7_numberNewPath 25 = .ok (.getfield 49, 3) := by decide +kernel
theorem dX7_numberNewPath_28 : decode cX7_numberNewPath 28 = .ok (.iload_n 1, 1) := by decide +kernel
theorem dX7_numberNewPath_29 : decode cX7_numberNewPath 29 = .ok (.aload_n 0, 1) := by decide +kernel
theorem dX7_numberNewPath_30 : decode cX7_numberNewPath 30 = .ok (.getfield 10, 3) := by decide +kernel
theorem dX7_numberNewPath_33 : decode cX7_numberNewPath 33 = .ok (.invokevirtual 301, 3) := by decide +kernel
theorem dX7_numberNewPath_36 : decode cX7_numberNewPath 36 = .ok (.iload_n 1, 1) := by decide +kernel
theorem dX7_numberNewPath_37 : decode cX7_numberNewPath 37 = .ok (.ireturn, 1) := by decide +kernel
theorem dX7_isSign_0 : decode cX7_isSign 0 = .ok (.iload_n 0, 1) := by decide +kernel
theorem dX7_isSign_1 : decode cX7_isSign 1 = .ok (.bipush 97, 2) := by decide +kernel
theorem dX7_isSign_3 : decode cX7_isSign 3 = .ok (.if_icmp .lt 9, 3) := by decide +kernel
theorem dX7_isSign_6 : decode cX7_isSign 6 = .ok (.iload_n 0, 1) := by decide +kernel
theorem dX7_isSign_7 : decode cX7_isSign 7 = .ok (.bipush 122, 2) := by decide +kernel
theorem dX7_isSign_9 : decode cX7_isSign 9 = .ok (.if_icmp .le 21, 3) := by decide +kernel
theorem dX7_isSign_12 : decode cX7_isSign 12 = .ok (.iload_n 0, 1) := by decide +kernel
theorem dX7_isSign_13 : decode cX7_isSign 13 = .ok (.bipush 47, 2) := by decide +kernel
theorem dX7_isSign_15 : decode cX7_isSign 15 = .ok (.if_icmp .eq 15, 3) := by decide +kernel
theorem dX7_isSign_18 : decode cX7_isSign 18 = .ok (.iload_n 0, 1) := by decide +kernel
theorem dX7_isSign_19 : decode cX7_isSign 19 = .ok (.bipush 42, 2) := by decide +kernel
theorem dX7_isSign_21 : decode cX7_isSign 21 = .ok (.if_icmp .eq 9, 3) := by decide +kernel
theorem dX7_isSign_24 : decode cX7_isSign 24 = .ok (.iload_n 0, 1) := by decide +kernel
theorem dX7_isSign_25 : decode cX7_isSign 25 = .ok (.bipush 63, 2) := by decide +kernel
theorem dX7_isSign_27 : decode cX7_isSign 27 = .ok (.if_icmp .ne 7, 3) := by decide +kernel
theorem dX7_isSign_30 : decode cX7_isSign 30 = .ok (.iconst 1, 1) := by decide +kernel
theorem dX7_isSign_31 : decode cX7_isSign 31 = .ok (.goto 4, 3) := by decide +kernel
theorem dX7_isSign_34 : decode cX7_isSign 34 = .ok (.iconst 0, 1) := by decide +kernel
theorem dX7_isSign_35 : decode cX7_isSign 35 = .ok (.ireturn, 1) := by decide +kernel
theorem dX7_holds_0 : decode cX7_holds 0 = .ok (.iload_n 0, 1) := by decide +kernel
theorem dX7_holds_1 : decode cX7_holds 1 = .ok (.iload_n 1, 1) := by decide +kernel
theorem dX7_holds_2 : decode cX7_holds 2 = .ok (.ishr, 1) := by decide +kernel
theorem dX7_holds_3 : decode cX7_holds 3 = .ok (.iconst 1, 1) := by decide +kernel
theorem dX7_holds_4 : decode cX7_holds 4 = .ok (.iand, 1) := by decide +kernel
theorem dX7_holds_5 : decode cX7_holds 5 = .ok (.iconst 1, 1) := by decide +kernel
theorem dX7_holds_6 : decode cX7_holds 6 = .ok (.if_icmp .ne 7, 3) := by decide +kernel
theorem dX7_holds_9 : decode cX7_holds 9 = .ok (.iconst 1, 1) := by decide +kernel
theorem dX7_holds_10 : decode cX7_holds 10 = .ok (.goto 4, 3) := by decide +kernel
theorem dX7_holds_13 : decode cX7_holds 13 = .ok (.iconst 0, 1) := by decide +kernel
theorem dX7_holds_14 : decode cX7_holds 14 = .ok (.ireturn, 1) := by decide +kernel
theorem dJ6_bitCount_0f7a4_0 : decode cJ6_bitCount_0f7a4 0 = .ok (.iload_n 0, 1) := by decide +kernel
theorem dJ6_bitCount_0f7a4_1 : decode cJ6_bitCount_0f7a4 1 = .ok (.iload_n 0, 1) := by decide +kernel
theorem dJ6_bitCount_0f7a4_2 : decode cJ6_bitCount_0f7a4 2 = .ok (.iconst 1, 1) := by decide +kernel
theorem dJ6_bitCount_0f7a4_3 : decode cJ6_bitCount_0f7a4 3 = .ok (.iushr, 1) := by decide +kernel
theorem dJ6_bitCount_0f7a4_4 : decode cJ6_bitCount_0f7a4 4 = .ok (.ldc_w 265, 3) := by decide +kernel
theorem dJ6_bitCount_0f7a4_7 : decode cJ6_bitCount_0f7a4 7 = .ok (.iand, 1) := by decide +kernel
theorem dJ6_bitCount_0f7a4_8 : decode cJ6_bitCount_0f7a4 8 = .ok (.isub, 1) := by decide +kernel
theorem dJ6_bitCount_0f7a4_9 : decode cJ6_bitCount_0f7a4 9 = .ok (.istore_n 0, 1) := by decide +kernel
theorem dJ6_bitCount_0f7a4_10 : decode cJ6_bitCount_0f7a4 10 = .ok (.iload_n 0, 1) := by decide +kernel
theorem dJ6_bitCount_0f7a4_11 : decode cJ6_bitCount_0f7a4 11 = .ok (.ldc_w 266, 3) := by decide +kernel
theorem dJ6_bitCount_0f7a4_14 : decode cJ6_bitCount_0f7a4 14 = .ok (.iand, 1) := by decide +kernel
theorem dJ6_bitCount_0f7a4_15 : decode cJ6_bitCount_0f7a4 15 = .ok (.iload_n 0, 1) := by decide +kernel
theorem dJ6_bitCount_0f7a4_16 : decode cJ6_bitCount_0f7a4 16 = .ok (.iconst 2, 1) := by decide +kernel
theorem dJ6_bitCount_0f7a4_17 : decode cJ6_bitCount_0f7a4 17 = .ok (.iushr, 1) := by decide +kernel
theorem dJ6_bitCount_0f7a4_18 : decode cJ6_bitCount_0f7a4 18 = .ok (.ldc_w 266, 3) := by decide +kernel
theorem dJ6_bitCount_0f7a4_21 : decode cJ6_bitCount_0f7a4 21 = .ok (.iand, 1) := by decide +kernel
theorem dJ6_bitCount_0f7a4_22 : decode cJ6_bitCount_0f7a4 22 = .ok (.iadd, 1) := by decide +kernel
theorem dJ6_bitCount_0f7a4_23 : decode cJ6_bitCount_0f7a4 23 = .ok (.istore_n 0, 1) := by decide +kernel
theorem dJ6_bitCount_0f7a4_24 : decode cJ6_bitCount_0f7a4 24 = .ok (.iload_n 0, 1) := by decide +kernel
theorem dJ6_bitCount_0f7a4_25 : decode cJ6_bitCount_0f7a4 25 = .ok (.iload_n 0, 1) := by decide +kernel
theorem dJ6_bitCount_0f7a4_26 : decode cJ6_bitCount_0f7a4 26 = .ok (.iconst 4, 1) := by decide +kernel
theorem dJ6_bitCount_0f7a4_27 : decode cJ6_bitCount_0f7a4 27 = .ok (.iushr, 1) := by decide +kernel
theorem dJ6_bitCount_0f7a4_28 : decode cJ6_bitCount_0f7a4 28 = .ok (.iadd, 1) := by decide +kernel
theorem dJ6_bitCount_0f7a4_29 : decode cJ6_bitCount_0f7a4 29 = .ok (.ldc_w 267, 3) := by decide +kernel
theorem dJ6_bitCount_0f7a4_32 : decode cJ6_bitCount_0f7a4 32 = .ok (.iand, 1) := by decide +kernel
theorem dJ6_bitCount_0f7a4_33 : decode cJ6_bitCount_0f7a4 33 = .ok (.istore_n 0, 1) := by decide +kernel
theorem dJ6_bitCount_0f7a4_34 : decode cJ6_bitCount_0f7a4 34 = .ok (.iload_n 0, 1) := by decide +kernel
theorem dJ6_bitCount_0f7a4_35 : decode cJ6_bitCount_0f7a4 35 = .ok (.iload_n 0, 1) := by decide +kernel
theorem dJ6_bitCount_0f7a4_36 : decode cJ6_bitCount_0f7a4 36 = .ok (.bipush 8, 2) := by decide +kernel
theorem dJ6_bitCount_0f7a4_38 : decode cJ6_bitCount_0f7a4 38 = .ok (.iushr, 1) := by decide +kernel
theorem dJ6_bitCount_0f7a4_39 : decode cJ6_bitCount_0f7a4 39 = .ok (.iadd, 1) := by decide +kernel
theorem dJ6_bitCount_0f7a4_40 : decode cJ6_bitCount_0f7a4 40 = .ok (.istore_n 0, 1) := by decide +kernel
theorem dJ6_bitCount_0f7a4_41 : decode cJ6_bitCount_0f7a4 41 = .ok (.iload_n 0, 1) := by decide +kernel
theorem dJ6_bitCount_0f7a4_42 : decode cJ6_bitCount_0f7a4 42 = .ok (.iload_n 0, 1) := by decide +kernel
theorem dJ6_bitCount_0f7a4_43 : decode cJ6_bitCount_0f7a4 43 = .ok (.bipush 16, 2) := by decide +kernel
theorem dJ6_bitCount_0f7a4_45 : decode cJ6_bitCount_0f7a4 45 = .ok (.iushr, 1) := by decide +kernel
theorem dJ6_bitCount_0f7a4_46 : decode cJ6_bitCount_0f7a4 46 = .ok (.iadd, 1) := by decide +kernel
theorem dJ6_bitCount_0f7a4_47 : decode cJ6_bitCount_0f7a4 47 = .ok (.istore_n 0, 1) := by decide +kernel
theorem dJ6_bitCount_0f7a4_48 : decode cJ6_bitCount_0f7a4 48 = .ok (.iload_n 0, 1) := by decide +kernel
theorem dJ6_bitCount_0f7a4_49 : decode cJ6_bitCount_0f7a4 49 = .ok (.bipush 63, 2) := by decide +kernel
theorem dJ6_bitCount_0f7a4_51 : decode cJ6_bitCount_0f7a4 51 = .ok (.iand, 1) := by decide +kernel
theorem dJ6_bitCount_0f7a4_52 : decode cJ6_bitCount_0f7a4 52 = .ok (.ireturn, 1) := by decide +kernel
theorem dJ9_max_7cf53_0 : decode cJ9_max_7cf53 0 = .ok (.iload_n 0, 1) := by decide +kernel
theorem dJ9_max_7cf53_1 : decode cJ9_max_7cf53 1 = .ok (.iload_n 1, 1) := by decide +kernel
theorem dJ9_max_7cf53_2 : decode cJ9_max_7cf53 2 = .ok (.if_icmp .lt 7, 3) := by decide +kernel
theorem dJ9_max_7cf53_5 : decode cJ9_max_7cf53 5 = .ok (.iload_n 0, 1) := by decide +kernel
theorem dJ9_max_7cf53_6 : decode cJ9_max_7cf53 6 = .ok (.goto 4, 3) := by decide +kernel
theorem dJ9_max_7cf53_9 : decode cJ9_max_7cf53 9 = .ok (.iload_n 1, 1) := by decide +kernel
theorem dJ9_max_7cf53_10 : decode cJ9_max_7cf53 10 = .ok (.ireturn, 1) := by decide +kernel
theorem dJ7_fill_53178_0 : decode cJ7_fill_53178 0 = .ok (.iconst 0, 1) := by decide +kernel
theorem dJ7_fill_53178_1 : decode cJ7_fill_53178 1 = .ok (.istore_n 2, 1) := by decide +kernel
theorem dJ7_fill_53178_2 : decode cJ7_fill_53178 2 = .ok (.aload_n 0, 1) := by decide +kernel
theorem dJ7_fill_53178_3 : decode cJ7_fill_53178 3 = .ok (.arraylength, 1) := by decide +kernel
theorem dJ7_fill_53178_4 : decode cJ7_fill_53178 4 = .ok (.istore_n 3, 1) := by decide +kernel
theorem dJ7_fill_53178_5 : decode cJ7_fill_53178 5 = .ok (.iload_n 2, 1) := by decide +kernel
theorem dJ7_fill_53178_6 : decode cJ7_fill_53178 6 = .ok (.iload_n 3, 1) := by decide +kernel
theorem dJ7_fill_53178_7 : decode cJ7_fill_53178 7 = .ok (.if_icmp .ge 13, 3) := by decide +kernel
theorem dJ7_fill_53178_10 : decode cJ7_fill_53178 10 = .ok (.aload_n 0, 1) := by decide +kernel
theorem dJ7_fill_53178_11 : decode cJ7_fill_53178 11 = .ok (.iload_n 2, 1) := by decide +kernel
theorem dJ7_fill_53178_12 : decode cJ7_fill_53178 12 = .ok (.iload_n 1, 1) := by decide +kernel
theorem dJ7_fill_53178_13 : decode cJ7_fill_53178 13 = .ok (.iastore, 1) := by decide +kernel
theorem dJ7_fill_53178_14 : decode cJ7_fill_53178 14 = .ok (.iinc 2 1, 3) := by decide +kernel
theorem dJ7_fill_53178_17 : decode cJ7_fill_53178 17 = .ok (.goto (-12), 3) := by decide +kernel
theorem dJ7_fill_53178_20 : decode cJ7_fill_53178 20 = .ok (.return_, 1) := by decide +kernel
