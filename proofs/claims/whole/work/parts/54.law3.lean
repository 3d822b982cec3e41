/-! the law, decoded: 3 -/
theorem d_law_962 : decode code 962 = .ok (.aload_n 1, 1) := by decide +kernel
theorem d_law_963 : decode code 963 = .ok (.aload_n 0, 1) := by decide +kernel
theorem d_law_964 : decode code 964 = .ok (.iload_n 3, 1) := by decide +kernel
theorem d_law_965 : decode code 965 = .ok (.iconst 1, 1) := by decide +kernel
theorem d_law_966 : decode code 966 = .ok (.iadd, 1) := by decide +kernel
theorem d_law_967 : decode code 967 = .ok (.iaload, 1) := by decide +kernel
theorem d_law_968 : decode code 968 = .ok (.aload_n 0, 1) := by decide +kernel
theorem d_law_969 : decode code 969 = .ok (.iload_n 3, 1) := by decide +kernel
theorem d_law_970 : decode code 970 = .ok (.iconst 2, 1) := by decide +kernel
theorem d_law_971 : decode code 971 = .ok (.iadd, 1) := by decide +kernel
theorem d_law_972 : decode code 972 = .ok (.iaload, 1) := by decide +kernel
theorem d_law_973 : decode code 973 = .ok (.aload_n 0, 1) := by decide +kernel
theorem d_law_974 : decode code 974 = .ok (.iload_n 3, 1) := by decide +kernel
theorem d_law_975 : decode code 975 = .ok (.iconst 3, 1) := by decide +kernel
theorem d_law_976 : decode code 976 = .ok (.iadd, 1) := by decide +kernel
theorem d_law_977 : decode code 977 = .ok (.iaload, 1) := by decide +kernel
theorem d_law_978 : decode code 978 = .ok (.invokevirtual 114, 3) := by decide +kernel
theorem d_law_981 : decode code 981 = .ok (.aload_n 2, 1) := by decide +kernel
theorem d_law_982 : decode code 982 = .ok (.aload_n 0, 1) := by decide +kernel
theorem d_law_983 : decode code 983 = .ok (.iload_n 3, 1) := by decide +kernel
theorem d_law_984 : decode code 984 = .ok (.iconst 1, 1) := by decide +kernel
theorem d_law_985 : decode code 985 = .ok (.iadd, 1) := by decide +kernel
theorem d_law_986 : decode code 986 = .ok (.iaload, 1) := by decide +kernel
theorem d_law_987 : decode code 987 = .ok (.aload_n 0, 1) := by decide +kernel
theorem d_law_988 : decode code 988 = .ok (.iload_n 3, 1) := by decide +kernel
theorem d_law_989 : decode code 989 = .ok (.iconst 2, 1) := by decide +kernel
theorem d_law_990 : decode code 990 = .ok (.iadd, 1) := by decide +kernel
theorem d_law_991 : decode code 991 = .ok (.iaload, 1) := by decide +kernel
theorem d_law_992 : decode code 992 = .ok (.aload_n 0, 1) := by decide +kernel
theorem d_law_993 : decode code 993 = .ok (.iload_n 3, 1) := by decide +kernel
theorem d_law_994 : decode code 994 = .ok (.iconst 3, 1) := by decide +kernel
theorem d_law_995 : decode code 995 = .ok (.iadd, 1) := by decide +kernel
theorem d_law_996 : decode code 996 = .ok (.iaload, 1) := by decide +kernel
theorem d_law_997 : decode code 997 = .ok (.invokevirtual 117, 3) := by decide +kernel
theorem d_law_1000 : decode code 1000 = .ok (.if_icmp .eq 193, 3) := by decide +kernel
theorem d_law_1005 : decode code 1005 = .ok (.aload_n 1, 1) := by decide +kernel
theorem d_law_1006 : decode code 1006 = .ok (.aload_n 0, 1) := by decide +kernel
theorem d_law_1007 : decode code 1007 = .ok (.iload_n 3, 1) := by decide +kernel
theorem d_law_1008 : decode code 1008 = .ok (.iconst 1, 1) := by decide +kernel
theorem d_law_1009 : decode code 1009 = .ok (.iadd, 1) := by decide +kernel
theorem d_law_1010 : decode code 1010 = .ok (.iaload, 1) := by decide +kernel
theorem d_law_1011 : decode code 1011 = .ok (.invokevirtual 118, 3) := by decide +kernel
theorem d_law_1014 : decode code 1014 = .ok (.aload_n 2, 1) := by decide +kernel
theorem d_law_1015 : decode code 1015 = .ok (.aload_n 0, 1) := by decide +kernel
theorem d_law_1016 : decode code 1016 = .ok (.iload_n 3, 1) := by decide +kernel
theorem d_law_1017 : decode code 1017 = .ok (.iconst 1, 1) := by decide +kernel
theorem d_law_1018 : decode code 1018 = .ok (.iadd, 1) := by decide +kernel
theorem d_law_1019 : decode code 1019 = .ok (.iaload, 1) := by decide +kernel
theorem d_law_1020 : decode code 1020 = .ok (.invokevirtual 121, 3) := by decide +kernel
theorem d_law_1023 : decode code 1023 = .ok (.if_icmp .eq 170, 3) := by decide +kernel
theorem d_law_1028 : decode code 1028 = .ok (.aload_n 1, 1) := by decide +kernel
theorem d_law_1029 : decode code 1029 = .ok (.aload_n 0, 1) := by decide +kernel
theorem d_law_1030 : decode code 1030 = .ok (.iload_n 3, 1) := by decide +kernel
theorem d_law_1031 : decode code 1031 = .ok (.iconst 1, 1) := by decide +kernel
theorem d_law_1032 : decode code 1032 = .ok (.iadd, 1) := by decide +kernel
theorem d_law_1033 : decode code 1033 = .ok (.iaload, 1) := by decide +kernel
theorem d_law_1034 : decode code 1034 = .ok (.aload_n 0, 1) := by decide +kernel
theorem d_law_1035 : decode code 1035 = .ok (.iload_n 3, 1) := by decide +kernel
theorem d_law_1036 : decode code 1036 = .ok (.iconst 2, 1) := by decide +kernel
theorem d_law_1037 : decode code 1037 = .ok (.iadd, 1) := by decide +kernel
theorem d_law_1038 : decode code 1038 = .ok (.iaload, 1) := by decide +kernel
theorem d_law_1039 : decode code 1039 = .ok (.aload_n 0, 1) := by decide +kernel
theorem d_law_1040 : decode code 1040 = .ok (.iload_n 3, 1) := by decide +kernel
theorem d_law_1041 : decode code 1041 = .ok (.iconst 3, 1) := by decide +kernel
theorem d_law_1042 : decode code 1042 = .ok (.iadd, 1) := by decide +kernel
theorem d_law_1043 : decode code 1043 = .ok (.iaload, 1) := by decide +kernel
theorem d_law_1044 : decode code 1044 = .ok (.invokevirtual 122, 3) := by decide +kernel
theorem d_law_1047 : decode code 1047 = .ok (.aload_n 2, 1) := by decide +kernel
theorem d_law_1048 : decode code 1048 = .ok (.aload_n 0, 1) := by decide +kernel
theorem d_law_1049 : decode code 1049 = .ok (.iload_n 3, 1) := by decide +kernel
theorem d_law_1050 : decode code 1050 = .ok (.iconst 1, 1) := by decide +kernel
theorem d_law_1051 : decode code 1051 = .ok (.iadd, 1) := by decide +kernel
theorem d_law_1052 : decode code 1052 = .ok (.iaload, 1) := by decide +kernel
theorem d_law_1053 : decode code 1053 = .ok (.aload_n 0, 1) := by decide +kernel
theorem d_law_1054 : decode code 1054 = .ok (.iload_n 3, 1) := by decide +kernel
theorem d_law_1055 : decode code 1055 = .ok (.iconst 2, 1) := by decide +kernel
theorem d_law_1056 : decode code 1056 = .ok (.iadd, 1) := by decide +kernel
theorem d_law_1057 : decode code 1057 = .ok (.iaload, 1) := by decide +kernel
theorem d_law_1058 : decode code 1058 = .ok (.aload_n 0, 1) := by decide +kernel
theorem d_law_1059 : decode code 1059 = .ok (.iload_n 3, 1) := by decide +kernel
theorem d_law_1060 : decode code 1060 = .ok (.iconst 3, 1) := by decide +kernel
theorem d_law_1061 : decode code 1061 = .ok (.iadd, 1) := by decide +kernel
theorem d_law_1062 : decode code 1062 = .ok (.iaload, 1) := by decide +kernel
theorem d_law_1063 : decode code 1063 = .ok (.invokevirtual 125, 3) := by decide +kernel
theorem d_law_1066 : decode code 1066 = .ok (.if_icmp .eq 127, 3) := by decide +kernel
theorem d_law_1071 : decode code 1071 = .ok (.aload_n 1, 1) := by decide +kernel
theorem d_law_1072 : decode code 1072 = .ok (.invokevirtual 126, 3) := by decide +kernel
theorem d_law_1075 : decode code 1075 = .ok (.aload_n 2, 1) := by decide +kernel
theorem d_law_1076 : decode code 1076 = .ok (.invokevirtual 130, 3) := by decide +kernel
theorem d_law_1079 : decode code 1079 = .ok (.if_icmp .eq 114, 3) := by decide +kernel
theorem d_law_1084 : decode code 1084 = .ok (.aload_n 1, 1) := by decide +kernel
theorem d_law_1085 : decode code 1085 = .ok (.aload_n 0, 1) := by decide +kernel
theorem d_law_1086 : decode code 1086 = .ok (.iload_n 3, 1) := by decide +kernel
theorem d_law_1087 : decode code 1087 = .ok (.iconst 1, 1) := by decide +kernel
theorem d_law_1088 : decode code 1088 = .ok (.iadd, 1) := by decide +kernel
theorem d_law_1089 : decode code 1089 = .ok (.iaload, 1) := by decide +kernel
theorem d_law_1090 : decode code 1090 = .ok (.invokevirtual 131, 3) := by decide +kernel
theorem d_law_1093 : decode code 1093 = .ok (.aload_n 2, 1) := by decide +kernel
theorem d_law_1094 : decode code 1094 = .ok (.aload_n 0, 1) := by decide +kernel
theorem d_law_1095 : decode code 1095 = .ok (.iload_n 3, 1) := by decide +kernel
theorem d_law_1096 : decode code 1096 = .ok (.iconst 1, 1) := by decide +kernel
theorem d_law_1097 : decode code 1097 = .ok (.iadd, 1) := by decide +kernel
theorem d_law_1098 : decode code 1098 = .ok (.iaload, 1) := by decide +kernel
theorem d_law_1099 : decode code 1099 = .ok (.invokevirtual 134, 3) := by decide +kernel
theorem d_law_1102 : decode code 1102 = .ok (.if_icmp .eq 91, 3) := by decide +kernel
theorem d_law_1107 : decode code 1107 = .ok (.aload_n 1, 1) := by decide +kernel
theorem d_law_1108 : decode code 1108 = .ok (.invokevirtual 135, 3) := by decide +kernel
theorem d_law_1111 : decode code 1111 = .ok (.aload_n 2, 1) := by decide +kernel
theorem d_law_1112 : decode code 1112 = .ok (.invokevirtual 138, 3) := by decide +kernel
theorem d_law_1115 : decode code 1115 = .ok (.if_icmp .eq 78, 3) := by decide +kernel
theorem d_law_1120 : decode code 1120 = .ok (.aload_n 1, 1) := by decide +kernel
theorem d_law_1121 : decode code 1121 = .ok (.aload_n 0, 1) := by decide +kernel
theorem d_law_1122 : decode code 1122 = .ok (.iload_n 3, 1) := by decide +kernel
theorem d_law_1123 : decode code 1123 = .ok (.iconst 1, 1) := by decide +kernel
theorem d_law_1124 : decode code 1124 = .ok (.iadd, 1) := by decide +kernel
theorem d_law_1125 : decode code 1125 = .ok (.iaload, 1) := by decide +kernel
theorem d_law_1126 : decode code 1126 = .ok (.invokevirtual 139, 3) := by decide +kernel
theorem d_law_1129 : decode code 1129 = .ok (.aload_n 2, 1) := by decide +kernel
theorem d_law_1130 : decode code 1130 = .ok (.aload_n 0, 1) := by decide +kernel
theorem d_law_1131 : decode code 1131 = .ok (.iload_n 3, 1) := by decide +kernel
theorem d_law_1132 : decode code 1132 = .ok (.iconst 1, 1) := by decide +kernel
theorem d_law_1133 : decode code 1133 = .ok (.iadd, 1) := by decide +kernel
theorem d_law_1134 : decode code 1134 = .ok (.iaload, 1) := by decide +kernel
theorem d_law_1135 : decode code 1135 = .ok (.invokevirtual 142, 3) := by decide +kernel
theorem d_law_1138 : decode code 1138 = .ok (.if_icmp .eq 55, 3) := by decide +kernel
theorem d_law_1143 : decode code 1143 = .ok (.aload_n 1, 1) := by decide +kernel
theorem d_law_1144 : decode code 1144 = .ok (.invokevirtual 143, 3) := by decide +kernel
theorem d_law_1147 : decode code 1147 = .ok (.aload_n 2, 1) := by decide +kernel
theorem d_law_1148 : decode code 1148 = .ok (.invokevirtual 146, 3) := by decide +kernel
theorem d_law_1151 : decode code 1151 = .ok (.if_icmp .eq 42, 3) := by decide +kernel
theorem d_law_1156 : decode code 1156 = .ok (.aload_n 1, 1) := by decide +kernel
theorem d_law_1157 : decode code 1157 = .ok (.aload_n 0, 1) := by decide +kernel
theorem d_law_1158 : decode code 1158 = .ok (.iload_n 3, 1) := by decide +kernel
theorem d_law_1159 : decode code 1159 = .ok (.iconst 1, 1) := by decide +kernel
theorem d_law_1160 : decode code 1160 = .ok (.iadd, 1) := by decide +kernel
theorem d_law_1161 : decode code 1161 = .ok (.iaload, 1) := by decide +kernel
theorem d_law_1162 : decode code 1162 = .ok (.invokevirtual 147, 3) := by decide +kernel
theorem d_law_1165 : decode code 1165 = .ok (.aload_n 2, 1) := by decide +kernel
theorem d_law_1166 : decode code 1166 = .ok (.aload_n 0, 1) := by decide +kernel
theorem d_law_1167 : decode code 1167 = .ok (.iload_n 3, 1) := by decide +kernel
theorem d_law_1168 : decode code 1168 = .ok (.iconst 1, 1) := by decide +kernel
theorem d_law_1169 : decode code 1169 = .ok (.iadd, 1) := by decide +kernel
theorem d_law_1170 : decode code 1170 = .ok (.iaload, 1) := by decide +kernel
theorem d_law_1171 : decode code 1171 = .ok (.invokevirtual 150, 3) := by decide +kernel
theorem d_law_1174 : decode code 1174 = .ok (.if_icmp .eq 19, 3) := by decide +kernel
theorem d_law_1179 : decode code 1179 = .ok (.aload_n 1, 1) := by decide +kernel
theorem d_law_1180 : decode code 1180 = .ok (.invokevirtual 151, 3) := by decide +kernel
theorem d_law_1183 : decode code 1183 = .ok (.aload_n 2, 1) := by decide +kernel
theorem d_law_1184 : decode code 1184 = .ok (.invokevirtual 155, 3) := by decide +kernel
theorem d_law_1187 : decode code 1187 = .ok (.lcmp, 1) := by decide +kernel
theorem d_law_1188 : decode code 1188 = .ok (.ifCond .eq 5, 3) := by decide +kernel
theorem d_law_1193 : decode code 1193 = .ok (.iinc 3 6, 3) := by decide +kernel
theorem d_law_1196 : decode code 1196 = .ok (.goto (-1178), 3) := by decide +kernel
theorem d_law_1199 : decode code 1199 = .ok (.iconst 1, 1) := by decide +kernel
theorem d_law_1200 : decode code 1200 = .ok (.ireturn, 1) := by decide +kernel
