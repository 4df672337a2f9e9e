theorem dL_globs_989 : decode cL_globs 989 = .ok (.bipush 97, 2) := by decide +kernel
theorem dL_globs_991 : decode cL_globs 991 = .ok (.iconst 0, 1) := by decide +kernel
theorem dL_globs_992 : decode cL_globs 992 = .ok (.invokestatic 86, 3) := by decide +kernel
theorem dL_globs_995 : decode cL_globs 995 = .ok (.bipush (-33), 2) := by decide +kernel
theorem dL_globs_997 : decode cL_globs 997 = .ok (.if_icmp .ne 29, 3) := by decide +kernel
theorem dL_globs_1000 : decode cL_globs 1000 = .ok (.aload_n 0, 1) := by decide +kernel
theorem dL_globs_1001 : decode cL_globs 1001 = .ok (.iconst 0, 1) := by decide +kernel
theorem dL_globs_1002 : decode cL_globs 1002 = .ok (.bipush 65, 2) := by decide +kernel
theorem dL_globs_1004 : decode cL_globs 1004 = .ok (.iconst 0, 1) := by decide +kernel
theorem dL_globs_1005 : decode cL_globs 1005 = .ok (.invokestatic 86, 3) := by decide +kernel
theorem dL_globs_1008 : decode cL_globs 1008 = .ok (.bipush (-32), 2) := by decide +kernel
theorem dL_globs_1010 : decode cL_globs 1010 = .ok (.if_icmp .ne 16, 3) := by decide +kernel
theorem dL_globs_1013 : decode cL_globs 1013 = .ok (.aload_n 0, 1) := by decide +kernel
theorem dL_globs_1014 : decode cL_globs 1014 = .ok (.invokevirtual 92, 3) := by decide +kernel
theorem dL_globs_1017 : decode cL_globs 1017 = .ok (.bipush 24, 2) := by decide +kernel
theorem dL_globs_1019 : decode cL_globs 1019 = .ok (.if_icmp .ne 7, 3) := by decide +kernel
theorem dL_globs_1022 : decode cL_globs 1022 = .ok (.iconst 1, 1) := by decide +kernel
theorem dL_globs_1023 : decode cL_globs 1023 = .ok (.goto 4, 3) := by decide +kernel
theorem dL_globs_1026 : decode cL_globs 1026 = .ok (.iconst 0, 1) := by decide +kernel
theorem dL_globs_1027 : decode cL_globs 1027 = .ok (.ireturn, 1) := by decide +kernel
