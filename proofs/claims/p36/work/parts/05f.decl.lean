theorem dL_runs_953 : decode cL_runs 953 = .ok (.invokevirtual 77, 3) := by decide +kernel
theorem dL_runs_956 : decode cL_runs 956 = .ok (.iconst 3, 1) := by decide +kernel
theorem dL_runs_957 : decode cL_runs 957 = .ok (.if_icmp .ne 161, 3) := by decide +kernel
theorem dL_runs_960 : decode cL_runs 960 = .ok (.aload_n 0, 1) := by decide +kernel
theorem dL_runs_961 : decode cL_runs 961 = .ok (.iconst 1, 1) := by decide +kernel
theorem dL_runs_962 : decode cL_runs 962 = .ok (.invokevirtual 77, 3) := by decide +kernel
theorem dL_runs_965 : decode cL_runs 965 = .ok (.iconst 5, 1) := by decide +kernel
theorem dL_runs_966 : decode cL_runs 966 = .ok (.if_icmp .ne 152, 3) := by decide +kernel
theorem dL_runs_969 : decode cL_runs 969 = .ok (.aload_n 0, 1) := by decide +kernel
theorem dL_runs_970 : decode cL_runs 970 = .ok (.invokevirtual 128, 3) := by decide +kernel
theorem dL_runs_973 : decode cL_runs 973 = .ok (.iconst 5, 1) := by decide +kernel
theorem dL_runs_974 : decode cL_runs 974 = .ok (.if_icmp .ne 144, 3) := by decide +kernel
theorem dL_runs_977 : decode cL_runs 977 = .ok (.aload_n 0, 1) := by decide +kernel
theorem dL_runs_978 : decode cL_runs 978 = .ok (.invokevirtual 142, 3) := by decide +kernel
theorem dL_runs_981 : decode cL_runs 981 = .ok (.bipush 40, 2) := by decide +kernel
theorem dL_runs_983 : decode cL_runs 983 = .ok (.if_icmp .ne 135, 3) := by decide +kernel
theorem dL_runs_986 : decode cL_runs 986 = .ok (.aload_n 0, 1) := by decide +kernel
theorem dL_runs_987 : decode cL_runs 987 = .ok (.invokevirtual 145, 3) := by decide +kernel
theorem dL_runs_990 : decode cL_runs 990 = .ok (.iconst 2, 1) := by decide +kernel
theorem dL_runs_991 : decode cL_runs 991 = .ok (.if_icmp .ne 127, 3) := by decide +kernel
theorem dL_runs_994 : decode cL_runs 994 = .ok (.aload_n 0, 1) := by decide +kernel
theorem dL_runs_995 : decode cL_runs 995 = .ok (.invokevirtual 128, 3) := by decide +kernel
theorem dL_runs_998 : decode cL_runs 998 = .ok (.ifCond .ne 120, 3) := by decide +kernel
theorem dL_runs_1001 : decode cL_runs 1001 = .ok (.aload_n 0, 1) := by decide +kernel
theorem dL_runs_1002 : decode cL_runs 1002 = .ok (.invokevirtual 142, 3) := by decide +kernel
theorem dL_runs_1005 : decode cL_runs 1005 = .ok (.ifCond .ne 113, 3) := by decide +kernel
theorem dL_runs_1008 : decode cL_runs 1008 = .ok (.aload_n 0, 1) := by decide +kernel
theorem dL_runs_1009 : decode cL_runs 1009 = .ok (.iconst 2, 1) := by decide +kernel
theorem dL_runs_1010 : decode cL_runs 1010 = .ok (.iconst 4, 1) := by decide +kernel
theorem dL_runs_1011 : decode cL_runs 1011 = .ok (.invokevirtual 17, 3) := by decide +kernel
theorem dL_runs_1014 : decode cL_runs 1014 = .ok (.iconst 4, 1) := by decide +kernel
theorem dL_runs_1015 : decode cL_runs 1015 = .ok (.if_icmp .ne 103, 3) := by decide +kernel
theorem dL_runs_1018 : decode cL_runs 1018 = .ok (.aload_n 0, 1) := by decide +kernel
theorem dL_runs_1019 : decode cL_runs 1019 = .ok (.invokevirtual 128, 3) := by decide +kernel
theorem dL_runs_1022 : decode cL_runs 1022 = .ok (.ifCond .ne 96, 3) := by decide +kernel
theorem dL_runs_1025 : decode cL_runs 1025 = .ok (.aload_n 0, 1) := by decide +kernel
theorem dL_runs_1026 : decode cL_runs 1026 = .ok (.iconst 2, 1) := by decide +kernel
theorem dL_runs_1027 : decode cL_runs 1027 = .ok (.bipush 8, 2) := by decide +kernel
theorem dL_runs_1029 : decode cL_runs 1029 = .ok (.invokevirtual 17, 3) := by decide +kernel
theorem dL_runs_1032 : decode cL_runs 1032 = .ok (.iconst 4, 1) := by decide +kernel
theorem dL_runs_1033 : decode cL_runs 1033 = .ok (.if_icmp .ne 85, 3) := by decide +kernel
theorem dL_runs_1036 : decode cL_runs 1036 = .ok (.aload_n 0, 1) := by decide +kernel
theorem dL_runs_1037 : decode cL_runs 1037 = .ok (.invokevirtual 128, 3) := by decide +kernel
theorem dL_runs_1040 : decode cL_runs 1040 = .ok (.iconst 4, 1) := by decide +kernel
theorem dL_runs_1041 : decode cL_runs 1041 = .ok (.if_icmp .ne 77, 3) := by decide +kernel
theorem dL_runs_1044 : decode cL_runs 1044 = .ok (.aload_n 0, 1) := by decide +kernel
theorem dL_runs_1045 : decode cL_runs 1045 = .ok (.invokevirtual 142, 3) := by decide +kernel
theorem dL_runs_1048 : decode cL_runs 1048 = .ok (.bipush 8, 2) := by decide +kernel
theorem dL_runs_1050 : decode cL_runs 1050 = .ok (.if_icmp .ne 68, 3) := by decide +kernel
theorem dL_runs_1053 : decode cL_runs 1053 = .ok (.aload_n 0, 1) := by decide +kernel
theorem dL_runs_1054 : decode cL_runs 1054 = .ok (.iconst 0, 1) := by decide +kernel
theorem dL_runs_1055 : decode cL_runs 1055 = .ok (.invokevirtual 21, 3) := by decide +kernel
theorem dL_runs_1058 : decode cL_runs 1058 = .ok (.iconst 1, 1) := by decide +kernel
theorem dL_runs_1059 : decode cL_runs 1059 = .ok (.if_icmp .ne 59, 3) := by decide +kernel
theorem dL_runs_1062 : decode cL_runs 1062 = .ok (.aload_n 0, 1) := by decide +kernel
theorem dL_runs_1063 : decode cL_runs 1063 = .ok (.invokevirtual 128, 3) := by decide +kernel
theorem dL_runs_1066 : decode cL_runs 1066 = .ok (.iconst 5, 1) := by decide +kernel
theorem dL_runs_1067 : decode cL_runs 1067 = .ok (.if_icmp .ne 51, 3) := by decide +kernel
theorem dL_runs_1070 : decode cL_runs 1070 = .ok (.aload_n 0, 1) := by decide +kernel
theorem dL_runs_1071 : decode cL_runs 1071 = .ok (.invokevirtual 142, 3) := by decide +kernel
theorem dL_runs_1074 : decode cL_runs 1074 = .ok (.bipush 40, 2) := by decide +kernel
theorem dL_runs_1076 : decode cL_runs 1076 = .ok (.if_icmp .ne 42, 3) := by decide +kernel
theorem dL_runs_1079 : decode cL_runs 1079 = .ok (.aload_n 0, 1) := by decide +kernel
theorem dL_runs_1080 : decode cL_runs 1080 = .ok (.bipush 97, 2) := by decide +kernel
theorem dL_runs_1082 : decode cL_runs 1082 = .ok (.bipush 47, 2) := by decide +kernel
theorem dL_runs_1084 : decode cL_runs 1084 = .ok (.bipush 98, 2) := by decide +kernel
theorem dL_runs_1086 : decode cL_runs 1086 = .ok (.bipush 46, 2) := by decide +kernel
theorem dL_runs_1088 : decode cL_runs 1088 = .ok (.bipush 46, 2) := by decide +kernel
theorem dL_runs_1090 : decode cL_runs 1090 = .ok (.bipush 46, 2) := by decide +kernel
theorem dL_runs_1092 : decode cL_runs 1092 = .ok (.bipush 46, 2) := by decide +kernel
theorem dL_runs_1094 : decode cL_runs 1094 = .ok (.bipush 46, 2) := by decide +kernel
theorem dL_runs_1096 : decode cL_runs 1096 = .ok (.invokestatic 121, 3) := by decide +kernel
theorem dL_runs_1099 : decode cL_runs 1099 = .ok (.ifCond .eq 19, 3) := by decide +kernel
theorem dL_runs_1102 : decode cL_runs 1102 = .ok (.aload_n 0, 1) := by decide +kernel
theorem dL_runs_1103 : decode cL_runs 1103 = .ok (.iconst 1, 1) := by decide +kernel
theorem dL_runs_1104 : decode cL_runs 1104 = .ok (.invokevirtual 13, 3) := by decide +kernel
theorem dL_runs_1107 : decode cL_runs 1107 = .ok (.ifCond .ne 11, 3) := by decide +kernel
theorem dL_runs_1110 : decode cL_runs 1110 = .ok (.aload_n 0, 1) := by decide +kernel
theorem dL_runs_1111 : decode cL_runs 1111 = .ok (.invokevirtual 128, 3) := by decide +kernel
theorem dL_runs_1114 : decode cL_runs 1114 = .ok (.iconst 4, 1) := by decide +kernel
theorem dL_runs_1115 : decode cL_runs 1115 = .ok (.if_icmp .eq 5, 3) := by decide +kernel
theorem dL_runs_1118 : decode cL_runs 1118 = .ok (.iconst 0, 1) := by decide +kernel
theorem dL_runs_1119 : decode cL_runs 1119 = .ok (.ireturn, 1) := by decide +kernel
theorem dL_runs_1120 : decode cL_runs 1120 = .ok (.iconst 2, 1) := by decide +kernel
theorem dL_runs_1121 : decode cL_runs 1121 = .ok (.istore_n 1, 1) := by decide +kernel
theorem dL_runs_1122 : decode cL_runs 1122 = .ok (.iload_n 1, 1) := by decide +kernel
theorem dL_runs_1123 : decode cL_runs 1123 = .ok (.iconst 5, 1) := by decide +kernel
theorem dL_runs_1124 : decode cL_runs 1124 = .ok (.if_icmp .ge 20, 3) := by decide +kernel
theorem dL_runs_1127 : decode cL_runs 1127 = .ok (.aload_n 0, 1) := by decide +kernel
theorem dL_runs_1128 : decode cL_runs 1128 = .ok (.iconst 0, 1) := by decide +kernel
theorem dL_runs_1129 : decode cL_runs 1129 = .ok (.invokevirtual 31, 3) := by decide +kernel
theorem dL_runs_1132 : decode cL_runs 1132 = .ok (.iconst 1, 1) := by decide +kernel
theorem dL_runs_1133 : decode cL_runs 1133 = .ok (.if_icmp .eq 5, 3) := by decide +kernel
theorem dL_runs_1136 : decode cL_runs 1136 = .ok (.iconst 0, 1) := by decide +kernel
theorem dL_runs_1137 : decode cL_runs 1137 = .ok (.ireturn, 1) := by decide +kernel
theorem dL_runs_1138 : decode cL_runs 1138 = .ok (.iinc 1 1, 3) := by decide +kernel
theorem dL_runs_1141 : decode cL_runs 1141 = .ok (.goto (-19), 3) := by decide +kernel
theorem dL_runs_1144 : decode cL_runs 1144 = .ok (.aload_n 0, 1) := by decide +kernel
theorem dL_runs_1145 : decode cL_runs 1145 = .ok (.bipush 6, 2) := by decide +kernel
theorem dL_runs_1147 : decode cL_runs 1147 = .ok (.iconst 0, 1) := by decide +kernel
theorem dL_runs_1148 : decode cL_runs 1148 = .ok (.iconst 0, 1) := by decide +kernel
theorem dL_runs_1149 : decode cL_runs 1149 = .ok (.invokestatic 86, 3) := by decide +kernel
theorem dL_runs_1152 : decode cL_runs 1152 = .ok (.bipush (-33), 2) := by decide +kernel
theorem dL_runs_1154 : decode cL_runs 1154 = .ok (.if_icmp .ne 24, 3) := by decide +kernel
theorem dL_runs_1157 : decode cL_runs 1157 = .ok (.aload_n 0, 1) := by decide +kernel
theorem dL_runs_1158 : decode cL_runs 1158 = .ok (.invokevirtual 135, 3) := by decide +kernel
theorem dL_runs_1161 : decode cL_runs 1161 = .ok (.bipush 14, 2) := by decide +kernel
theorem dL_runs_1163 : decode cL_runs 1163 = .ok (.if_icmp .ne 15, 3) := by decide +kernel
theorem dL_runs_1166 : decode cL_runs 1166 = .ok (.aload_n 0, 1) := by decide +kernel
theorem dL_runs_1167 : decode cL_runs 1167 = .ok (.iconst 3, 1) := by decide +kernel
theorem dL_runs_1168 : decode cL_runs 1168 = .ok (.invokestatic 138, 3) := by decide +kernel
theorem dL_runs_1171 : decode cL_runs 1171 = .ok (.ifCond .eq 7, 3) := by decide +kernel
theorem dL_runs_1174 : decode cL_runs 1174 = .ok (.iconst 1, 1) := by decide +kernel
theorem dL_runs_1175 : decode cL_runs 1175 = .ok (.goto 4, 3) := by decide +kernel
theorem dL_runs_1178 : decode cL_runs 1178 = .ok (.iconst 0, 1) := by decide +kernel
theorem dL_runs_1179 : decode cL_runs 1179 = .ok (.ireturn, 1) := by decide +kernel
