theorem d_LW_law_893 : decode m_LW_law.2.1 893 = .ok (.aload_n 0, 1) := by decide +kernel
theorem d_LW_law_894 : decode m_LW_law.2.1 894 = .ok (.iload 4, 2) := by decide +kernel
theorem d_LW_law_896 : decode m_LW_law.2.1 896 = .ok (.iconst 2, 1) := by decide +kernel
theorem d_LW_law_897 : decode m_LW_law.2.1 897 = .ok (.iadd, 1) := by decide +kernel
theorem d_LW_law_898 : decode m_LW_law.2.1 898 = .ok (.iaload, 1) := by decide +kernel
theorem d_LW_law_899 : decode m_LW_law.2.1 899 = .ok (.ifCond .eq 7, 3) := by decide +kernel
theorem d_LW_law_902 : decode m_LW_law.2.1 902 = .ok (.iconst 1, 1) := by decide +kernel
theorem d_LW_law_903 : decode m_LW_law.2.1 903 = .ok (.goto 4, 3) := by decide +kernel
theorem d_LW_law_906 : decode m_LW_law.2.1 906 = .ok (.iconst 0, 1) := by decide +kernel
theorem d_LW_law_907 : decode m_LW_law.2.1 907 = .ok (.aload_n 3, 1) := by decide +kernel
theorem d_LW_law_908 : decode m_LW_law.2.1 908 = .ok (.invokestatic 124, 3) := by decide +kernel
theorem d_LW_law_911 : decode m_LW_law.2.1 911 = .ok (.istore 5, 2) := by decide +kernel
theorem d_LW_law_913 : decode m_LW_law.2.1 913 = .ok (.aload_n 2, 1) := by decide +kernel
theorem d_LW_law_914 : decode m_LW_law.2.1 914 = .ok (.aload_n 0, 1) := by decide +kernel
theorem d_LW_law_915 : decode m_LW_law.2.1 915 = .ok (.iload 4, 2) := by decide +kernel
theorem d_LW_law_917 : decode m_LW_law.2.1 917 = .ok (.iconst 1, 1) := by decide +kernel
theorem d_LW_law_918 : decode m_LW_law.2.1 918 = .ok (.iadd, 1) := by decide +kernel
theorem d_LW_law_919 : decode m_LW_law.2.1 919 = .ok (.iaload, 1) := by decide +kernel
theorem d_LW_law_920 : decode m_LW_law.2.1 920 = .ok (.aload_n 0, 1) := by decide +kernel
theorem d_LW_law_921 : decode m_LW_law.2.1 921 = .ok (.iload 4, 2) := by decide +kernel
theorem d_LW_law_923 : decode m_LW_law.2.1 923 = .ok (.iconst 2, 1) := by decide +kernel
theorem d_LW_law_924 : decode m_LW_law.2.1 924 = .ok (.iadd, 1) := by decide +kernel
theorem d_LW_law_925 : decode m_LW_law.2.1 925 = .ok (.iaload, 1) := by decide +kernel
theorem d_LW_law_926 : decode m_LW_law.2.1 926 = .ok (.ifCond .eq 7, 3) := by decide +kernel
theorem d_LW_law_929 : decode m_LW_law.2.1 929 = .ok (.iconst 1, 1) := by decide +kernel
theorem d_LW_law_930 : decode m_LW_law.2.1 930 = .ok (.goto 4, 3) := by decide +kernel
theorem d_LW_law_933 : decode m_LW_law.2.1 933 = .ok (.iconst 0, 1) := by decide +kernel
theorem d_LW_law_934 : decode m_LW_law.2.1 934 = .ok (.invokevirtual 127, 3) := by decide +kernel
theorem d_LW_law_937 : decode m_LW_law.2.1 937 = .ok (.istore 6, 2) := by decide +kernel
theorem d_LW_law_939 : decode m_LW_law.2.1 939 = .ok (.aload_n 2, 1) := by decide +kernel
theorem d_LW_law_940 : decode m_LW_law.2.1 940 = .ok (.invokevirtual 92, 3) := by decide +kernel
theorem d_LW_law_943 : decode m_LW_law.2.1 943 = .ok (.iload 5, 2) := by decide +kernel
theorem d_LW_law_945 : decode m_LW_law.2.1 945 = .ok (.if_icmp .eq 5, 3) := by decide +kernel
theorem d_LW_law_948 : decode m_LW_law.2.1 948 = .ok (.iconst 0, 1) := by decide +kernel
theorem d_LW_law_949 : decode m_LW_law.2.1 949 = .ok (.ireturn, 1) := by decide +kernel
theorem d_LW_law_950 : decode m_LW_law.2.1 950 = .ok (.iload 5, 2) := by decide +kernel
theorem d_LW_law_952 : decode m_LW_law.2.1 952 = .ok (.ifCond .ne 22, 3) := by decide +kernel
theorem d_LW_law_955 : decode m_LW_law.2.1 955 = .ok (.aload_n 3, 1) := by decide +kernel
theorem d_LW_law_956 : decode m_LW_law.2.1 956 = .ok (.iconst 0, 1) := by decide +kernel
theorem d_LW_law_957 : decode m_LW_law.2.1 957 = .ok (.laload, 1) := by decide +kernel
theorem d_LW_law_958 : decode m_LW_law.2.1 958 = .ok (.iload 6, 2) := by decide +kernel
theorem d_LW_law_960 : decode m_LW_law.2.1 960 = .ok (.ifCond .eq 7, 3) := by decide +kernel
theorem d_LW_law_963 : decode m_LW_law.2.1 963 = .ok (.lconst 1, 1) := by decide +kernel
theorem d_LW_law_964 : decode m_LW_law.2.1 964 = .ok (.goto 4, 3) := by decide +kernel
theorem d_LW_law_967 : decode m_LW_law.2.1 967 = .ok (.lconst 0, 1) := by decide +kernel
theorem d_LW_law_968 : decode m_LW_law.2.1 968 = .ok (.lcmp, 1) := by decide +kernel
theorem d_LW_law_969 : decode m_LW_law.2.1 969 = .ok (.ifCond .eq 5, 3) := by decide +kernel
theorem d_LW_law_972 : decode m_LW_law.2.1 972 = .ok (.iconst 0, 1) := by decide +kernel
theorem d_LW_law_973 : decode m_LW_law.2.1 973 = .ok (.ireturn, 1) := by decide +kernel
theorem d_LW_law_974 : decode m_LW_law.2.1 974 = .ok (.goto 691, 3) := by decide +kernel
theorem d_LW_law_977 : decode m_LW_law.2.1 977 = .ok (.aload_n 1, 1) := by decide +kernel
theorem d_LW_law_978 : decode m_LW_law.2.1 978 = .ok (.aload_n 0, 1) := by decide +kernel
theorem d_LW_law_979 : decode m_LW_law.2.1 979 = .ok (.iload 4, 2) := by decide +kernel
theorem d_LW_law_981 : decode m_LW_law.2.1 981 = .ok (.iconst 1, 1) := by decide +kernel
theorem d_LW_law_982 : decode m_LW_law.2.1 982 = .ok (.iadd, 1) := by decide +kernel
theorem d_LW_law_983 : decode m_LW_law.2.1 983 = .ok (.iaload, 1) := by decide +kernel
theorem d_LW_law_984 : decode m_LW_law.2.1 984 = .ok (.aload_n 0, 1) := by decide +kernel
theorem d_LW_law_985 : decode m_LW_law.2.1 985 = .ok (.iload 4, 2) := by decide +kernel
theorem d_LW_law_987 : decode m_LW_law.2.1 987 = .ok (.iconst 2, 1) := by decide +kernel
theorem d_LW_law_988 : decode m_LW_law.2.1 988 = .ok (.iadd, 1) := by decide +kernel
theorem d_LW_law_989 : decode m_LW_law.2.1 989 = .ok (.iaload, 1) := by decide +kernel
theorem d_LW_law_990 : decode m_LW_law.2.1 990 = .ok (.aload_n 3, 1) := by decide +kernel
theorem d_LW_law_991 : decode m_LW_law.2.1 991 = .ok (.invokestatic 128, 3) := by decide +kernel
theorem d_LW_law_994 : decode m_LW_law.2.1 994 = .ok (.istore 5, 2) := by decide +kernel
theorem d_LW_law_996 : decode m_LW_law.2.1 996 = .ok (.aload_n 2, 1) := by decide +kernel
theorem d_LW_law_997 : decode m_LW_law.2.1 997 = .ok (.aload_n 0, 1) := by decide +kernel
theorem d_LW_law_998 : decode m_LW_law.2.1 998 = .ok (.iload 4, 2) := by decide +kernel
theorem d_LW_law_1000 : decode m_LW_law.2.1 1000 = .ok (.iconst 1, 1) := by decide +kernel
theorem d_LW_law_1001 : decode m_LW_law.2.1 1001 = .ok (.iadd, 1) := by decide +kernel
theorem d_LW_law_1002 : decode m_LW_law.2.1 1002 = .ok (.iaload, 1) := by decide +kernel
theorem d_LW_law_1003 : decode m_LW_law.2.1 1003 = .ok (.aload_n 0, 1) := by decide +kernel
theorem d_LW_law_1004 : decode m_LW_law.2.1 1004 = .ok (.iload 4, 2) := by decide +kernel
theorem d_LW_law_1006 : decode m_LW_law.2.1 1006 = .ok (.iconst 2, 1) := by decide +kernel
theorem d_LW_law_1007 : decode m_LW_law.2.1 1007 = .ok (.iadd, 1) := by decide +kernel
theorem d_LW_law_1008 : decode m_LW_law.2.1 1008 = .ok (.iaload, 1) := by decide +kernel
theorem d_LW_law_1009 : decode m_LW_law.2.1 1009 = .ok (.invokevirtual 130, 3) := by decide +kernel
theorem d_LW_law_1012 : decode m_LW_law.2.1 1012 = .ok (.istore 6, 2) := by decide +kernel
theorem d_LW_law_1014 : decode m_LW_law.2.1 1014 = .ok (.aload_n 2, 1) := by decide +kernel
theorem d_LW_law_1015 : decode m_LW_law.2.1 1015 = .ok (.invokevirtual 92, 3) := by decide +kernel
theorem d_LW_law_1018 : decode m_LW_law.2.1 1018 = .ok (.iload 5, 2) := by decide +kernel
theorem d_LW_law_1020 : decode m_LW_law.2.1 1020 = .ok (.if_icmp .eq 5, 3) := by decide +kernel
theorem d_LW_law_1023 : decode m_LW_law.2.1 1023 = .ok (.iconst 0, 1) := by decide +kernel
theorem d_LW_law_1024 : decode m_LW_law.2.1 1024 = .ok (.ireturn, 1) := by decide +kernel
theorem d_LW_law_1025 : decode m_LW_law.2.1 1025 = .ok (.iload 5, 2) := by decide +kernel
theorem d_LW_law_1027 : decode m_LW_law.2.1 1027 = .ok (.ifCond .ne 15, 3) := by decide +kernel
theorem d_LW_law_1030 : decode m_LW_law.2.1 1030 = .ok (.aload_n 3, 1) := by decide +kernel
theorem d_LW_law_1031 : decode m_LW_law.2.1 1031 = .ok (.iconst 0, 1) := by decide +kernel
theorem d_LW_law_1032 : decode m_LW_law.2.1 1032 = .ok (.laload, 1) := by decide +kernel
theorem d_LW_law_1033 : decode m_LW_law.2.1 1033 = .ok (.iload 6, 2) := by decide +kernel
theorem d_LW_law_1035 : decode m_LW_law.2.1 1035 = .ok (.i2l, 1) := by decide +kernel
theorem d_LW_law_1036 : decode m_LW_law.2.1 1036 = .ok (.lcmp, 1) := by decide +kernel
theorem d_LW_law_1037 : decode m_LW_law.2.1 1037 = .ok (.ifCond .eq 5, 3) := by decide +kernel
theorem d_LW_law_1040 : decode m_LW_law.2.1 1040 = .ok (.iconst 0, 1) := by decide +kernel
theorem d_LW_law_1041 : decode m_LW_law.2.1 1041 = .ok (.ireturn, 1) := by decide +kernel
theorem d_LW_law_1042 : decode m_LW_law.2.1 1042 = .ok (.goto 623, 3) := by decide +kernel
theorem d_LW_law_1045 : decode m_LW_law.2.1 1045 = .ok (.aload_n 1, 1) := by decide +kernel
theorem d_LW_law_1046 : decode m_LW_law.2.1 1046 = .ok (.aload_n 0, 1) := by decide +kernel
theorem d_LW_law_1047 : decode m_LW_law.2.1 1047 = .ok (.iload 4, 2) := by decide +kernel
theorem d_LW_law_1049 : decode m_LW_law.2.1 1049 = .ok (.iconst 1, 1) := by decide +kernel
theorem d_LW_law_1050 : decode m_LW_law.2.1 1050 = .ok (.iadd, 1) := by decide +kernel
theorem d_LW_law_1051 : decode m_LW_law.2.1 1051 = .ok (.iaload, 1) := by decide +kernel
theorem d_LW_law_1052 : decode m_LW_law.2.1 1052 = .ok (.aload_n 0, 1) := by decide +kernel
theorem d_LW_law_1053 : decode m_LW_law.2.1 1053 = .ok (.iload 4, 2) := by decide +kernel
theorem d_LW_law_1055 : decode m_LW_law.2.1 1055 = .ok (.iconst 2, 1) := by decide +kernel
theorem d_LW_law_1056 : decode m_LW_law.2.1 1056 = .ok (.iadd, 1) := by decide +kernel
theorem d_LW_law_1057 : decode m_LW_law.2.1 1057 = .ok (.iaload, 1) := by decide +kernel
theorem d_LW_law_1058 : decode m_LW_law.2.1 1058 = .ok (.aload_n 3, 1) := by decide +kernel
theorem d_LW_law_1059 : decode m_LW_law.2.1 1059 = .ok (.invokestatic 131, 3) := by decide +kernel
theorem d_LW_law_1062 : decode m_LW_law.2.1 1062 = .ok (.istore 5, 2) := by decide +kernel
theorem d_LW_law_1064 : decode m_LW_law.2.1 1064 = .ok (.aload_n 2, 1) := by decide +kernel
theorem d_LW_law_1065 : decode m_LW_law.2.1 1065 = .ok (.aload_n 0, 1) := by decide +kernel
theorem d_LW_law_1066 : decode m_LW_law.2.1 1066 = .ok (.iload 4, 2) := by decide +kernel
theorem d_LW_law_1068 : decode m_LW_law.2.1 1068 = .ok (.iconst 1, 1) := by decide +kernel
theorem d_LW_law_1069 : decode m_LW_law.2.1 1069 = .ok (.iadd, 1) := by decide +kernel
theorem d_LW_law_1070 : decode m_LW_law.2.1 1070 = .ok (.iaload, 1) := by decide +kernel
theorem d_LW_law_1071 : decode m_LW_law.2.1 1071 = .ok (.aload_n 0, 1) := by decide +kernel
theorem d_LW_law_1072 : decode m_LW_law.2.1 1072 = .ok (.iload 4, 2) := by decide +kernel
theorem d_LW_law_1074 : decode m_LW_law.2.1 1074 = .ok (.iconst 2, 1) := by decide +kernel
theorem d_LW_law_1075 : decode m_LW_law.2.1 1075 = .ok (.iadd, 1) := by decide +kernel
theorem d_LW_law_1076 : decode m_LW_law.2.1 1076 = .ok (.iaload, 1) := by decide +kernel
theorem d_LW_law_1077 : decode m_LW_law.2.1 1077 = .ok (.invokevirtual 133, 3) := by decide +kernel
theorem d_LW_law_1080 : decode m_LW_law.2.1 1080 = .ok (.istore 6, 2) := by decide +kernel
theorem d_LW_law_1082 : decode m_LW_law.2.1 1082 = .ok (.aload_n 2, 1) := by decide +kernel
theorem d_LW_law_1083 : decode m_LW_law.2.1 1083 = .ok (.invokevirtual 92, 3) := by decide +kernel
theorem d_LW_law_1086 : decode m_LW_law.2.1 1086 = .ok (.iload 5, 2) := by decide +kernel
theorem d_LW_law_1088 : decode m_LW_law.2.1 1088 = .ok (.if_icmp .eq 5, 3) := by decide +kernel
theorem d_LW_law_1091 : decode m_LW_law.2.1 1091 = .ok (.iconst 0, 1) := by decide +kernel
theorem d_LW_law_1092 : decode m_LW_law.2.1 1092 = .ok (.ireturn, 1) := by decide +kernel
theorem d_LW_law_1093 : decode m_LW_law.2.1 1093 = .ok (.iload 5, 2) := by decide +kernel
theorem d_LW_law_1095 : decode m_LW_law.2.1 1095 = .ok (.ifCond .ne 15, 3) := by decide +kernel
theorem d_LW_law_1098 : decode m_LW_law.2.1 1098 = .ok (.aload_n 3, 1) := by decide +kernel
theorem d_LW_law_1099 : decode m_LW_law.2.1 1099 = .ok (.iconst 0, 1) := by decide +kernel
theorem d_LW_law_1100 : decode m_LW_law.2.1 1100 = .ok (.laload, 1) := by decide +kernel
theorem d_LW_law_1101 : decode m_LW_law.2.1 1101 = .ok (.iload 6, 2) := by decide +kernel
theorem d_LW_law_1103 : decode m_LW_law.2.1 1103 = .ok (.i2l, 1) := by decide +kernel
theorem d_LW_law_1104 : decode m_LW_law.2.1 1104 = .ok (.lcmp, 1) := by decide +kernel
theorem d_LW_law_1105 : decode m_LW_law.2.1 1105 = .ok (.ifCond .eq 5, 3) := by decide +kernel
theorem d_LW_law_1108 : decode m_LW_law.2.1 1108 = .ok (.iconst 0, 1) := by decide +kernel
theorem d_LW_law_1109 : decode m_LW_law.2.1 1109 = .ok (.ireturn, 1) := by decide +kernel
theorem d_LW_law_1110 : decode m_LW_law.2.1 1110 = .ok (.goto 555, 3) := by decide +kernel
theorem d_LW_law_1113 : decode m_LW_law.2.1 1113 = .ok (.aload_n 1, 1) := by decide +kernel
theorem d_LW_law_1114 : decode m_LW_law.2.1 1114 = .ok (.aload_n 0, 1) := by decide +kernel
theorem d_LW_law_1115 : decode m_LW_law.2.1 1115 = .ok (.iload 4, 2) := by decide +kernel
theorem d_LW_law_1117 : decode m_LW_law.2.1 1117 = .ok (.iconst 1, 1) := by decide +kernel
theorem d_LW_law_1118 : decode m_LW_law.2.1 1118 = .ok (.iadd, 1) := by decide +kernel
theorem d_LW_law_1119 : decode m_LW_law.2.1 1119 = .ok (.iaload, 1) := by decide +kernel
theorem d_LW_law_1120 : decode m_LW_law.2.1 1120 = .ok (.aload_n 0, 1) := by decide +kernel
theorem d_LW_law_1121 : decode m_LW_law.2.1 1121 = .ok (.iload 4, 2) := by decide +kernel
theorem d_LW_law_1123 : decode m_LW_law.2.1 1123 = .ok (.iconst 2, 1) := by decide +kernel
theorem d_LW_law_1124 : decode m_LW_law.2.1 1124 = .ok (.iadd, 1) := by decide +kernel
theorem d_LW_law_1125 : decode m_LW_law.2.1 1125 = .ok (.iaload, 1) := by decide +kernel
theorem d_LW_law_1126 : decode m_LW_law.2.1 1126 = .ok (.aload_n 0, 1) := by decide +kernel
theorem d_LW_law_1127 : decode m_LW_law.2.1 1127 = .ok (.iload 4, 2) := by decide +kernel
theorem d_LW_law_1129 : decode m_LW_law.2.1 1129 = .ok (.iconst 3, 1) := by decide +kernel
theorem d_LW_law_1130 : decode m_LW_law.2.1 1130 = .ok (.iadd, 1) := by decide +kernel
theorem d_LW_law_1131 : decode m_LW_law.2.1 1131 = .ok (.iaload, 1) := by decide +kernel
theorem d_LW_law_1132 : decode m_LW_law.2.1 1132 = .ok (.aload_n 0, 1) := by decide +kernel
theorem d_LW_law_1133 : decode m_LW_law.2.1 1133 = .ok (.iload 4, 2) := by decide +kernel
theorem d_LW_law_1135 : decode m_LW_law.2.1 1135 = .ok (.iconst 4, 1) := by decide +kernel
theorem d_LW_law_1136 : decode m_LW_law.2.1 1136 = .ok (.iadd, 1) := by decide +kernel
theorem d_LW_law_1137 : decode m_LW_law.2.1 1137 = .ok (.iaload, 1) := by decide +kernel
theorem d_LW_law_1138 : decode m_LW_law.2.1 1138 = .ok (.aload_n 3, 1) := by decide +kernel
theorem d_LW_law_1139 : decode m_LW_law.2.1 1139 = .ok (.invokestatic 134, 3) := by decide +kernel
theorem d_LW_law_1142 : decode m_LW_law.2.1 1142 = .ok (.istore 5, 2) := by decide +kernel
theorem d_LW_law_1144 : decode m_LW_law.2.1 1144 = .ok (.aload_n 2, 1) := by decide +kernel
theorem d_LW_law_1145 : decode m_LW_law.2.1 1145 = .ok (.aload_n 0, 1) := by decide +kernel
theorem d_LW_law_1146 : decode m_LW_law.2.1 1146 = .ok (.iload 4, 2) := by decide +kernel
theorem d_LW_law_1148 : decode m_LW_law.2.1 1148 = .ok (.iconst 1, 1) := by decide +kernel
theorem d_LW_law_1149 : decode m_LW_law.2.1 1149 = .ok (.iadd, 1) := by decide +kernel
theorem d_LW_law_1150 : decode m_LW_law.2.1 1150 = .ok (.iaload, 1) := by decide +kernel
theorem d_LW_law_1151 : decode m_LW_law.2.1 1151 = .ok (.aload_n 0, 1) := by decide +kernel
theorem d_LW_law_1152 : decode m_LW_law.2.1 1152 = .ok (.iload 4, 2) := by decide +kernel
theorem d_LW_law_1154 : decode m_LW_law.2.1 1154 = .ok (.iconst 2, 1) := by decide +kernel
theorem d_LW_law_1155 : decode m_LW_law.2.1 1155 = .ok (.iadd, 1) := by decide +kernel
theorem d_LW_law_1156 : decode m_LW_law.2.1 1156 = .ok (.iaload, 1) := by decide +kernel
theorem d_LW_law_1157 : decode m_LW_law.2.1 1157 = .ok (.aload_n 0, 1) := by decide +kernel
theorem d_LW_law_1158 : decode m_LW_law.2.1 1158 = .ok (.iload 4, 2) := by decide +kernel
theorem d_LW_law_1160 : decode m_LW_law.2.1 1160 = .ok (.iconst 3, 1) := by decide +kernel
theorem d_LW_law_1161 : decode m_LW_law.2.1 1161 = .ok (.iadd, 1) := by decide +kernel
theorem d_LW_law_1162 : decode m_LW_law.2.1 1162 = .ok (.iaload, 1) := by decide +kernel
theorem d_LW_law_1163 : decode m_LW_law.2.1 1163 = .ok (.aload_n 0, 1) := by decide +kernel
theorem d_LW_law_1164 : decode m_LW_law.2.1 1164 = .ok (.iload 4, 2) := by decide +kernel
theorem d_LW_law_1166 : decode m_LW_law.2.1 1166 = .ok (.iconst 4, 1) := by decide +kernel
theorem d_LW_law_1167 : decode m_LW_law.2.1 1167 = .ok (.iadd, 1) := by decide +kernel
theorem d_LW_law_1168 : decode m_LW_law.2.1 1168 = .ok (.iaload, 1) := by decide +kernel
theorem d_LW_law_1169 : decode m_LW_law.2.1 1169 = .ok (.invokevirtual 137, 3) := by decide +kernel
theorem d_LW_law_1172 : decode m_LW_law.2.1 1172 = .ok (.istore 6, 2) := by decide +kernel
theorem d_LW_law_1174 : decode m_LW_law.2.1 1174 = .ok (.aload_n 2, 1) := by decide +kernel
theorem d_LW_law_1175 : decode m_LW_law.2.1 1175 = .ok (.invokevirtual 92, 3) := by decide +kernel
theorem d_LW_law_1178 : decode m_LW_law.2.1 1178 = .ok (.iload 5, 2) := by decide +kernel
theorem d_LW_law_1180 : decode m_LW_law.2.1 1180 = .ok (.if_icmp .eq 5, 3) := by decide +kernel
theorem d_LW_law_1183 : decode m_LW_law.2.1 1183 = .ok (.iconst 0, 1) := by decide +kernel
theorem d_LW_law_1184 : decode m_LW_law.2.1 1184 = .ok (.ireturn, 1) := by decide +kernel
theorem d_LW_law_1185 : decode m_LW_law.2.1 1185 = .ok (.iload 5, 2) := by decide +kernel
theorem d_LW_law_1187 : decode m_LW_law.2.1 1187 = .ok (.ifCond .ne 15, 3) := by decide +kernel
theorem d_LW_law_1190 : decode m_LW_law.2.1 1190 = .ok (.aload_n 3, 1) := by decide +kernel
theorem d_LW_law_1191 : decode m_LW_law.2.1 1191 = .ok (.iconst 0, 1) := by decide +kernel
theorem d_LW_law_1192 : decode m_LW_law.2.1 1192 = .ok (.laload, 1) := by decide +kernel
theorem d_LW_law_1193 : decode m_LW_law.2.1 1193 = .ok (.iload 6, 2) := by decide +kernel
theorem d_LW_law_1195 : decode m_LW_law.2.1 1195 = .ok (.i2l, 1) := by decide +kernel
theorem d_LW_law_1196 : decode m_LW_law.2.1 1196 = .ok (.lcmp, 1) := by decide +kernel
theorem d_LW_law_1197 : decode m_LW_law.2.1 1197 = .ok (.ifCond .eq 5, 3) := by decide +kernel
theorem d_LW_law_1200 : decode m_LW_law.2.1 1200 = .ok (.iconst 0, 1) := by decide +kernel
theorem d_LW_law_1201 : decode m_LW_law.2.1 1201 = .ok (.ireturn, 1) := by decide +kernel
theorem d_LW_law_1202 : decode m_LW_law.2.1 1202 = .ok (.goto 463, 3) := by decide +kernel
theorem d_LW_law_1205 : decode m_LW_law.2.1 1205 = .ok (.aload_n 1, 1) := by decide +kernel
theorem d_LW_law_1206 : decode m_LW_law.2.1 1206 = .ok (.aload_n 0, 1) := by decide +kernel
theorem d_LW_law_1207 : decode m_LW_law.2.1 1207 = .ok (.iload 4, 2) := by decide +kernel
theorem d_LW_law_1209 : decode m_LW_law.2.1 1209 = .ok (.iconst 1, 1) := by decide +kernel
theorem d_LW_law_1210 : decode m_LW_law.2.1 1210 = .ok (.iadd, 1) := by decide +kernel
theorem d_LW_law_1211 : decode m_LW_law.2.1 1211 = .ok (.iaload, 1) := by decide +kernel
theorem d_LW_law_1212 : decode m_LW_law.2.1 1212 = .ok (.aload_n 0, 1) := by decide +kernel
theorem d_LW_law_1213 : decode m_LW_law.2.1 1213 = .ok (.iload 4, 2) := by decide +kernel
theorem d_LW_law_1215 : decode m_LW_law.2.1 1215 = .ok (.iconst 2, 1) := by decide +kernel
theorem d_LW_law_1216 : decode m_LW_law.2.1 1216 = .ok (.iadd, 1) := by decide +kernel
theorem d_LW_law_1217 : decode m_LW_law.2.1 1217 = .ok (.iaload, 1) := by decide +kernel
theorem d_LW_law_1218 : decode m_LW_law.2.1 1218 = .ok (.aload_n 0, 1) := by decide +kernel
theorem d_LW_law_1219 : decode m_LW_law.2.1 1219 = .ok (.iload 4, 2) := by decide +kernel
theorem d_LW_law_1221 : decode m_LW_law.2.1 1221 = .ok (.iconst 3, 1) := by decide +kernel
theorem d_LW_law_1222 : decode m_LW_law.2.1 1222 = .ok (.iadd, 1) := by decide +kernel
theorem d_LW_law_1223 : decode m_LW_law.2.1 1223 = .ok (.iaload, 1) := by decide +kernel
theorem d_LW_law_1224 : decode m_LW_law.2.1 1224 = .ok (.aload_n 3, 1) := by decide +kernel
theorem d_LW_law_1225 : decode m_LW_law.2.1 1225 = .ok (.invokestatic 138, 3) := by decide +kernel
theorem d_LW_law_1228 : decode m_LW_law.2.1 1228 = .ok (.istore 5, 2) := by decide +kernel
theorem d_LW_law_1230 : decode m_LW_law.2.1 1230 = .ok (.aload_n 2, 1) := by decide +kernel
theorem d_LW_law_1231 : decode m_LW_law.2.1 1231 = .ok (.aload_n 0, 1) := by decide +kernel
theorem d_LW_law_1232 : decode m_LW_law.2.1 1232 = .ok (.iload 4, 2) := by decide +kernel
theorem d_LW_law_1234 : decode m_LW_law.2.1 1234 = .ok (.iconst 1, 1) := by decide +kernel
theorem d_LW_law_1235 : decode m_LW_law.2.1 1235 = .ok (.iadd, 1) := by decide +kernel
theorem d_LW_law_1236 : decode m_LW_law.2.1 1236 = .ok (.iaload, 1) := by decide +kernel
theorem d_LW_law_1237 : decode m_LW_law.2.1 1237 = .ok (.aload_n 0, 1) := by decide +kernel
theorem d_LW_law_1238 : decode m_LW_law.2.1 1238 = .ok (.iload 4, 2) := by decide +kernel
theorem d_LW_law_1240 : decode m_LW_law.2.1 1240 = .ok (.iconst 2, 1) := by decide +kernel
theorem d_LW_law_1241 : decode m_LW_law.2.1 1241 = .ok (.iadd, 1) := by decide +kernel
theorem d_LW_law_1242 : decode m_LW_law.2.1 1242 = .ok (.iaload, 1) := by decide +kernel
theorem d_LW_law_1243 : decode m_LW_law.2.1 1243 = .ok (.aload_n 0, 1) := by decide +kernel
theorem d_LW_law_1244 : decode m_LW_law.2.1 1244 = .ok (.iload 4, 2) := by decide +kernel
theorem d_LW_law_1246 : decode m_LW_law.2.1 1246 = .ok (.iconst 3, 1) := by decide +kernel
theorem d_LW_law_1247 : decode m_LW_law.2.1 1247 = .ok (.iadd, 1) := by decide +kernel
theorem d_LW_law_1248 : decode m_LW_law.2.1 1248 = .ok (.iaload, 1) := by decide +kernel
theorem d_LW_law_1249 : decode m_LW_law.2.1 1249 = .ok (.invokevirtual 141, 3) := by decide +kernel
theorem d_LW_law_1252 : decode m_LW_law.2.1 1252 = .ok (.istore 6, 2) := by decide +kernel
theorem d_LW_law_1254 : decode m_LW_law.2.1 1254 = .ok (.aload_n 2, 1) := by decide +kernel
theorem d_LW_law_1255 : decode m_LW_law.2.1 1255 = .ok (.invokevirtual 92, 3) := by decide +kernel
theorem d_LW_law_1258 : decode m_LW_law.2.1 1258 = .ok (.iload 5, 2) := by decide +kernel
theorem d_LW_law_1260 : decode m_LW_law.2.1 1260 = .ok (.if_icmp .eq 5, 3) := by decide +kernel
theorem d_LW_law_1263 : decode m_LW_law.2.1 1263 = .ok (.iconst 0, 1) := by decide +kernel
theorem d_LW_law_1264 : decode m_LW_law.2.1 1264 = .ok (.ireturn, 1) := by decide +kernel
theorem d_LW_law_1265 : decode m_LW_law.2.1 1265 = .ok (.iload 5, 2) := by decide +kernel
theorem d_LW_law_1267 : decode m_LW_law.2.1 1267 = .ok (.ifCond .ne 15, 3) := by decide +kernel
theorem d_LW_law_1270 : decode m_LW_law.2.1 1270 = .ok (.aload_n 3, 1) := by decide +kernel
theorem d_LW_law_1271 : decode m_LW_law.2.1 1271 = .ok (.iconst 0, 1) := by decide +kernel
theorem d_LW_law_1272 : decode m_LW_law.2.1 1272 = .ok (.laload, 1) := by decide +kernel
theorem d_LW_law_1273 : decode m_LW_law.2.1 1273 = .ok (.iload 6, 2) := by decide +kernel
theorem d_LW_law_1275 : decode m_LW_law.2.1 1275 = .ok (.i2l, 1) := by decide +kernel
theorem d_LW_law_1276 : decode m_LW_law.2.1 1276 = .ok (.lcmp, 1) := by decide +kernel
