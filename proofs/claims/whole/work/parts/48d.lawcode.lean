theorem dL_law_930 : decode code 930 = .ok (.iconst 1, 1) := by decide +kernel
theorem dL_law_931 : decode code 931 = .ok (.iadd, 1) := by decide +kernel
theorem dL_law_932 : decode code 932 = .ok (.iaload, 1) := by decide +kernel
theorem dL_law_933 : decode code 933 = .ok (.aload_n 0, 1) := by decide +kernel
theorem dL_law_934 : decode code 934 = .ok (.iload 4, 2) := by decide +kernel
theorem dL_law_936 : decode code 936 = .ok (.iconst 2, 1) := by decide +kernel
theorem dL_law_937 : decode code 937 = .ok (.iadd, 1) := by decide +kernel
theorem dL_law_938 : decode code 938 = .ok (.iaload, 1) := by decide +kernel
theorem dL_law_939 : decode code 939 = .ok (.invokevirtual 108, 3) := by decide +kernel
theorem dL_law_942 : decode code 942 = .ok (.aload_n 2, 1) := by decide +kernel
theorem dL_law_943 : decode code 943 = .ok (.aload_n 0, 1) := by decide +kernel
theorem dL_law_944 : decode code 944 = .ok (.iload 4, 2) := by decide +kernel
theorem dL_law_946 : decode code 946 = .ok (.iconst 1, 1) := by decide +kernel
theorem dL_law_947 : decode code 947 = .ok (.iadd, 1) := by decide +kernel
theorem dL_law_948 : decode code 948 = .ok (.iaload, 1) := by decide +kernel
theorem dL_law_949 : decode code 949 = .ok (.aload_n 0, 1) := by decide +kernel
theorem dL_law_950 : decode code 950 = .ok (.iload 4, 2) := by decide +kernel
theorem dL_law_952 : decode code 952 = .ok (.iconst 2, 1) := by decide +kernel
theorem dL_law_953 : decode code 953 = .ok (.iadd, 1) := by decide +kernel
theorem dL_law_954 : decode code 954 = .ok (.iaload, 1) := by decide +kernel
theorem dL_law_955 : decode code 955 = .ok (.invokevirtual 111, 3) := by decide +kernel
theorem dL_law_958 : decode code 958 = .ok (.if_icmp .eq 718, 3) := by decide +kernel
theorem dL_law_961 : decode code 961 = .ok (.iconst 0, 1) := by decide +kernel
theorem dL_law_962 : decode code 962 = .ok (.ireturn, 1) := by decide +kernel
theorem dL_law_963 : decode code 963 = .ok (.aload_n 1, 1) := by decide +kernel
theorem dL_law_964 : decode code 964 = .ok (.aload_n 0, 1) := by decide +kernel
theorem dL_law_965 : decode code 965 = .ok (.iload 4, 2) := by decide +kernel
theorem dL_law_967 : decode code 967 = .ok (.iconst 1, 1) := by decide +kernel
theorem dL_law_968 : decode code 968 = .ok (.iadd, 1) := by decide +kernel
theorem dL_law_969 : decode code 969 = .ok (.iaload, 1) := by decide +kernel
theorem dL_law_970 : decode code 970 = .ok (.aload_n 0, 1) := by decide +kernel
theorem dL_law_971 : decode code 971 = .ok (.iload 4, 2) := by decide +kernel
theorem dL_law_973 : decode code 973 = .ok (.iconst 2, 1) := by decide +kernel
theorem dL_law_974 : decode code 974 = .ok (.iadd, 1) := by decide +kernel
theorem dL_law_975 : decode code 975 = .ok (.iaload, 1) := by decide +kernel
theorem dL_law_976 : decode code 976 = .ok (.aload_n 0, 1) := by decide +kernel
theorem dL_law_977 : decode code 977 = .ok (.iload 4, 2) := by decide +kernel
theorem dL_law_979 : decode code 979 = .ok (.iconst 3, 1) := by decide +kernel
theorem dL_law_980 : decode code 980 = .ok (.iadd, 1) := by decide +kernel
theorem dL_law_981 : decode code 981 = .ok (.iaload, 1) := by decide +kernel
theorem dL_law_982 : decode code 982 = .ok (.aload_n 3, 1) := by decide +kernel
theorem dL_law_983 : decode code 983 = .ok (.invokestatic 112, 3) := by decide +kernel
theorem dL_law_986 : decode code 986 = .ok (.istore 5, 2) := by decide +kernel
theorem dL_law_988 : decode code 988 = .ok (.aload_n 2, 1) := by decide +kernel
theorem dL_law_989 : decode code 989 = .ok (.aload_n 0, 1) := by decide +kernel
theorem dL_law_990 : decode code 990 = .ok (.iload 4, 2) := by decide +kernel
theorem dL_law_992 : decode code 992 = .ok (.iconst 1, 1) := by decide +kernel
theorem dL_law_993 : decode code 993 = .ok (.iadd, 1) := by decide +kernel
theorem dL_law_994 : decode code 994 = .ok (.iaload, 1) := by decide +kernel
theorem dL_law_995 : decode code 995 = .ok (.aload_n 0, 1) := by decide +kernel
theorem dL_law_996 : decode code 996 = .ok (.iload 4, 2) := by decide +kernel
theorem dL_law_998 : decode code 998 = .ok (.iconst 2, 1) := by decide +kernel
theorem dL_law_999 : decode code 999 = .ok (.iadd, 1) := by decide +kernel
theorem dL_law_1000 : decode code 1000 = .ok (.iaload, 1) := by decide +kernel
theorem dL_law_1001 : decode code 1001 = .ok (.aload_n 0, 1) := by decide +kernel
theorem dL_law_1002 : decode code 1002 = .ok (.iload 4, 2) := by decide +kernel
theorem dL_law_1004 : decode code 1004 = .ok (.iconst 3, 1) := by decide +kernel
theorem dL_law_1005 : decode code 1005 = .ok (.iadd, 1) := by decide +kernel
theorem dL_law_1006 : decode code 1006 = .ok (.iaload, 1) := by decide +kernel
theorem dL_law_1007 : decode code 1007 = .ok (.invokevirtual 117, 3) := by decide +kernel
theorem dL_law_1010 : decode code 1010 = .ok (.istore 6, 2) := by decide +kernel
theorem dL_law_1012 : decode code 1012 = .ok (.aload_n 2, 1) := by decide +kernel
theorem dL_law_1013 : decode code 1013 = .ok (.invokevirtual 118, 3) := by decide +kernel
theorem dL_law_1016 : decode code 1016 = .ok (.iload 5, 2) := by decide +kernel
theorem dL_law_1018 : decode code 1018 = .ok (.if_icmp .eq 5, 3) := by decide +kernel
theorem dL_law_1021 : decode code 1021 = .ok (.iconst 0, 1) := by decide +kernel
theorem dL_law_1022 : decode code 1022 = .ok (.ireturn, 1) := by decide +kernel
theorem dL_law_1023 : decode code 1023 = .ok (.iload 5, 2) := by decide +kernel
theorem dL_law_1025 : decode code 1025 = .ok (.ifCond .ne 15, 3) := by decide +kernel
theorem dL_law_1028 : decode code 1028 = .ok (.aload_n 3, 1) := by decide +kernel
theorem dL_law_1029 : decode code 1029 = .ok (.iconst 0, 1) := by decide +kernel
theorem dL_law_1030 : decode code 1030 = .ok (.laload, 1) := by decide +kernel
theorem dL_law_1031 : decode code 1031 = .ok (.iload 6, 2) := by decide +kernel
theorem dL_law_1033 : decode code 1033 = .ok (.i2l, 1) := by decide +kernel
theorem dL_law_1034 : decode code 1034 = .ok (.lcmp, 1) := by decide +kernel
theorem dL_law_1035 : decode code 1035 = .ok (.ifCond .eq 5, 3) := by decide +kernel
theorem dL_law_1038 : decode code 1038 = .ok (.iconst 0, 1) := by decide +kernel
theorem dL_law_1039 : decode code 1039 = .ok (.ireturn, 1) := by decide +kernel
theorem dL_law_1040 : decode code 1040 = .ok (.goto 636, 3) := by decide +kernel
theorem dL_law_1043 : decode code 1043 = .ok (.aload_n 1, 1) := by decide +kernel
theorem dL_law_1044 : decode code 1044 = .ok (.invokevirtual 121, 3) := by decide +kernel
theorem dL_law_1047 : decode code 1047 = .ok (.aload_n 2, 1) := by decide +kernel
theorem dL_law_1048 : decode code 1048 = .ok (.invokevirtual 124, 3) := by decide +kernel
theorem dL_law_1051 : decode code 1051 = .ok (.if_icmp .eq 625, 3) := by decide +kernel
theorem dL_law_1054 : decode code 1054 = .ok (.iconst 0, 1) := by decide +kernel
theorem dL_law_1055 : decode code 1055 = .ok (.ireturn, 1) := by decide +kernel
theorem dL_law_1056 : decode code 1056 = .ok (.aload_n 1, 1) := by decide +kernel
theorem dL_law_1057 : decode code 1057 = .ok (.invokevirtual 125, 3) := by decide +kernel
theorem dL_law_1060 : decode code 1060 = .ok (.aload_n 2, 1) := by decide +kernel
theorem dL_law_1061 : decode code 1061 = .ok (.invokevirtual 128, 3) := by decide +kernel
theorem dL_law_1064 : decode code 1064 = .ok (.if_icmp .eq 612, 3) := by decide +kernel
theorem dL_law_1067 : decode code 1067 = .ok (.iconst 0, 1) := by decide +kernel
theorem dL_law_1068 : decode code 1068 = .ok (.ireturn, 1) := by decide +kernel
theorem dL_law_1069 : decode code 1069 = .ok (.aload_n 1, 1) := by decide +kernel
theorem dL_law_1070 : decode code 1070 = .ok (.aload_n 0, 1) := by decide +kernel
theorem dL_law_1071 : decode code 1071 = .ok (.iload 4, 2) := by decide +kernel
theorem dL_law_1073 : decode code 1073 = .ok (.iconst 1, 1) := by decide +kernel
theorem dL_law_1074 : decode code 1074 = .ok (.iadd, 1) := by decide +kernel
theorem dL_law_1075 : decode code 1075 = .ok (.iaload, 1) := by decide +kernel
theorem dL_law_1076 : decode code 1076 = .ok (.invokevirtual 129, 3) := by decide +kernel
theorem dL_law_1079 : decode code 1079 = .ok (.aload_n 2, 1) := by decide +kernel
theorem dL_law_1080 : decode code 1080 = .ok (.aload_n 0, 1) := by decide +kernel
theorem dL_law_1081 : decode code 1081 = .ok (.iload 4, 2) := by decide +kernel
theorem dL_law_1083 : decode code 1083 = .ok (.iconst 1, 1) := by decide +kernel
theorem dL_law_1084 : decode code 1084 = .ok (.iadd, 1) := by decide +kernel
theorem dL_law_1085 : decode code 1085 = .ok (.iaload, 1) := by decide +kernel
theorem dL_law_1086 : decode code 1086 = .ok (.invokevirtual 132, 3) := by decide +kernel
theorem dL_law_1089 : decode code 1089 = .ok (.if_icmp .eq 587, 3) := by decide +kernel
theorem dL_law_1092 : decode code 1092 = .ok (.iconst 0, 1) := by decide +kernel
theorem dL_law_1093 : decode code 1093 = .ok (.ireturn, 1) := by decide +kernel
theorem dL_law_1094 : decode code 1094 = .ok (.aload_n 1, 1) := by decide +kernel
theorem dL_law_1095 : decode code 1095 = .ok (.invokevirtual 133, 3) := by decide +kernel
theorem dL_law_1098 : decode code 1098 = .ok (.aload_n 2, 1) := by decide +kernel
theorem dL_law_1099 : decode code 1099 = .ok (.invokevirtual 136, 3) := by decide +kernel
theorem dL_law_1102 : decode code 1102 = .ok (.if_icmp .eq 574, 3) := by decide +kernel
theorem dL_law_1105 : decode code 1105 = .ok (.iconst 0, 1) := by decide +kernel
theorem dL_law_1106 : decode code 1106 = .ok (.ireturn, 1) := by decide +kernel
theorem dL_law_1107 : decode code 1107 = .ok (.aload_n 1, 1) := by decide +kernel
theorem dL_law_1108 : decode code 1108 = .ok (.invokevirtual 137, 3) := by decide +kernel
theorem dL_law_1111 : decode code 1111 = .ok (.aload_n 2, 1) := by decide +kernel
theorem dL_law_1112 : decode code 1112 = .ok (.invokevirtual 140, 3) := by decide +kernel
theorem dL_law_1115 : decode code 1115 = .ok (.if_icmp .eq 561, 3) := by decide +kernel
theorem dL_law_1118 : decode code 1118 = .ok (.iconst 0, 1) := by decide +kernel
theorem dL_law_1119 : decode code 1119 = .ok (.ireturn, 1) := by decide +kernel
theorem dL_law_1120 : decode code 1120 = .ok (.aload_n 1, 1) := by decide +kernel
theorem dL_law_1121 : decode code 1121 = .ok (.invokevirtual 141, 3) := by decide +kernel
theorem dL_law_1124 : decode code 1124 = .ok (.aload_n 2, 1) := by decide +kernel
theorem dL_law_1125 : decode code 1125 = .ok (.invokevirtual 144, 3) := by decide +kernel
theorem dL_law_1128 : decode code 1128 = .ok (.if_icmp .eq 548, 3) := by decide +kernel
theorem dL_law_1131 : decode code 1131 = .ok (.iconst 0, 1) := by decide +kernel
theorem dL_law_1132 : decode code 1132 = .ok (.ireturn, 1) := by decide +kernel
theorem dL_law_1133 : decode code 1133 = .ok (.aload_n 1, 1) := by decide +kernel
theorem dL_law_1134 : decode code 1134 = .ok (.invokevirtual 145, 3) := by decide +kernel
theorem dL_law_1137 : decode code 1137 = .ok (.aload_n 2, 1) := by decide +kernel
theorem dL_law_1138 : decode code 1138 = .ok (.invokevirtual 148, 3) := by decide +kernel
theorem dL_law_1141 : decode code 1141 = .ok (.if_icmp .eq 535, 3) := by decide +kernel
theorem dL_law_1144 : decode code 1144 = .ok (.iconst 0, 1) := by decide +kernel
theorem dL_law_1145 : decode code 1145 = .ok (.ireturn, 1) := by decide +kernel
theorem dL_law_1146 : decode code 1146 = .ok (.aload_n 1, 1) := by decide +kernel
theorem dL_law_1147 : decode code 1147 = .ok (.aload_n 0, 1) := by decide +kernel
theorem dL_law_1148 : decode code 1148 = .ok (.iload 4, 2) := by decide +kernel
theorem dL_law_1150 : decode code 1150 = .ok (.iconst 1, 1) := by decide +kernel
theorem dL_law_1151 : decode code 1151 = .ok (.iadd, 1) := by decide +kernel
theorem dL_law_1152 : decode code 1152 = .ok (.iaload, 1) := by decide +kernel
theorem dL_law_1153 : decode code 1153 = .ok (.aload_n 0, 1) := by decide +kernel
theorem dL_law_1154 : decode code 1154 = .ok (.iload 4, 2) := by decide +kernel
theorem dL_law_1156 : decode code 1156 = .ok (.iconst 2, 1) := by decide +kernel
theorem dL_law_1157 : decode code 1157 = .ok (.iadd, 1) := by decide +kernel
theorem dL_law_1158 : decode code 1158 = .ok (.iaload, 1) := by decide +kernel
theorem dL_law_1159 : decode code 1159 = .ok (.invokevirtual 149, 3) := by decide +kernel
theorem dL_law_1162 : decode code 1162 = .ok (.aload_n 2, 1) := by decide +kernel
theorem dL_law_1163 : decode code 1163 = .ok (.aload_n 0, 1) := by decide +kernel
theorem dL_law_1164 : decode code 1164 = .ok (.iload 4, 2) := by decide +kernel
theorem dL_law_1166 : decode code 1166 = .ok (.iconst 1, 1) := by decide +kernel
theorem dL_law_1167 : decode code 1167 = .ok (.iadd, 1) := by decide +kernel
theorem dL_law_1168 : decode code 1168 = .ok (.iaload, 1) := by decide +kernel
theorem dL_law_1169 : decode code 1169 = .ok (.aload_n 0, 1) := by decide +kernel
theorem dL_law_1170 : decode code 1170 = .ok (.iload 4, 2) := by decide +kernel
theorem dL_law_1172 : decode code 1172 = .ok (.iconst 2, 1) := by decide +kernel
theorem dL_law_1173 : decode code 1173 = .ok (.iadd, 1) := by decide +kernel
theorem dL_law_1174 : decode code 1174 = .ok (.iaload, 1) := by decide +kernel
theorem dL_law_1175 : decode code 1175 = .ok (.invokevirtual 152, 3) := by decide +kernel
theorem dL_law_1178 : decode code 1178 = .ok (.if_icmp .eq 498, 3) := by decide +kernel
theorem dL_law_1181 : decode code 1181 = .ok (.iconst 0, 1) := by decide +kernel
theorem dL_law_1182 : decode code 1182 = .ok (.ireturn, 1) := by decide +kernel
theorem dL_law_1183 : decode code 1183 = .ok (.aload_n 1, 1) := by decide +kernel
theorem dL_law_1184 : decode code 1184 = .ok (.aload_n 0, 1) := by decide +kernel
theorem dL_law_1185 : decode code 1185 = .ok (.iload 4, 2) := by decide +kernel
theorem dL_law_1187 : decode code 1187 = .ok (.iconst 1, 1) := by decide +kernel
theorem dL_law_1188 : decode code 1188 = .ok (.iadd, 1) := by decide +kernel
