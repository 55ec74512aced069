/-! ===== more of them ===== -/
set_option maxRecDepth 100000 in
theorem la_916 : dm_at 329 916 = some (.iconst 1, 1, []) := by decide +kernel
set_option maxRecDepth 100000 in
theorem la_917 : dm_at 329 917 = some (.iadd, 1, []) := by decide +kernel
set_option maxRecDepth 100000 in
theorem la_918 : dm_at 329 918 = some (.iaload, 1, []) := by decide +kernel
set_option maxRecDepth 100000 in
theorem la_919 : dm_at 329 919 = some (.aload_n 0, 1, []) := by decide +kernel
set_option maxRecDepth 100000 in
theorem la_920 : dm_at 329 920 = some (.iload 4, 2, []) := by decide +kernel
set_option maxRecDepth 100000 in
theorem la_922 : dm_at 329 922 = some (.iconst 2, 1, []) := by decide +kernel
set_option maxRecDepth 100000 in
theorem la_923 : dm_at 329 923 = some (.iadd, 1, []) := by decide +kernel
set_option maxRecDepth 100000 in
theorem la_924 : dm_at 329 924 = some (.iaload, 1, []) := by decide +kernel
set_option maxRecDepth 100000 in
theorem la_925 : dm_at 329 925 = some (.invokevirtual 224, 3, [154, 1, 6183, 6184, 6185, 1008, 6186]) := by decide +kernel
set_option maxRecDepth 100000 in
theorem la_928 : dm_at 329 928 = some (.istore 6, 2, []) := by decide +kernel
set_option maxRecDepth 100000 in
theorem la_930 : dm_at 329 930 = some (.goto 1450, 3, [2380]) := by decide +kernel
set_option maxRecDepth 100000 in
theorem la_933 : dm_at 329 933 = some (.aload_n 1, 1, []) := by decide +kernel
set_option maxRecDepth 100000 in
theorem la_934 : dm_at 329 934 = some (.aload_n 0, 1, []) := by decide +kernel
set_option maxRecDepth 100000 in
theorem la_935 : dm_at 329 935 = some (.iload 4, 2, []) := by decide +kernel
set_option maxRecDepth 100000 in
theorem la_937 : dm_at 329 937 = some (.iconst 1, 1, []) := by decide +kernel
set_option maxRecDepth 100000 in
theorem la_938 : dm_at 329 938 = some (.iadd, 1, []) := by decide +kernel
set_option maxRecDepth 100000 in
theorem la_939 : dm_at 329 939 = some (.iaload, 1, []) := by decide +kernel
set_option maxRecDepth 100000 in
theorem la_940 : dm_at 329 940 = some (.aload_n 0, 1, []) := by decide +kernel
set_option maxRecDepth 100000 in
theorem la_941 : dm_at 329 941 = some (.iload 4, 2, []) := by decide +kernel
set_option maxRecDepth 100000 in
theorem la_943 : dm_at 329 943 = some (.iconst 2, 1, []) := by decide +kernel
set_option maxRecDepth 100000 in
theorem la_944 : dm_at 329 944 = some (.iadd, 1, []) := by decide +kernel
set_option maxRecDepth 100000 in
theorem la_945 : dm_at 329 945 = some (.iaload, 1, []) := by decide +kernel
set_option maxRecDepth 100000 in
theorem la_946 : dm_at 329 946 = some (.aload_n 0, 1, []) := by decide +kernel
set_option maxRecDepth 100000 in
theorem la_947 : dm_at 329 947 = some (.iload 4, 2, []) := by decide +kernel
set_option maxRecDepth 100000 in
theorem la_949 : dm_at 329 949 = some (.iconst 3, 1, []) := by decide +kernel
set_option maxRecDepth 100000 in
theorem la_950 : dm_at 329 950 = some (.iadd, 1, []) := by decide +kernel
set_option maxRecDepth 100000 in
theorem la_951 : dm_at 329 951 = some (.iaload, 1, []) := by decide +kernel
set_option maxRecDepth 100000 in
theorem la_952 : dm_at 329 952 = some (.ifCond .eq 7, 3, [959]) := by decide +kernel
set_option maxRecDepth 100000 in
theorem la_955 : dm_at 329 955 = some (.iconst 1, 1, []) := by decide +kernel
set_option maxRecDepth 100000 in
theorem la_956 : dm_at 329 956 = some (.goto 4, 3, [960]) := by decide +kernel
set_option maxRecDepth 100000 in
theorem la_959 : dm_at 329 959 = some (.iconst 0, 1, []) := by decide +kernel
set_option maxRecDepth 100000 in
theorem la_960 : dm_at 329 960 = some (.aload_n 3, 1, []) := by decide +kernel
set_option maxRecDepth 100000 in
theorem la_961 : dm_at 329 961 = some (.invokestatic 225, 3, [296, 0, 4001, 4002, 1000, 4003]) := by decide +kernel
set_option maxRecDepth 100000 in
theorem la_964 : dm_at 329 964 = some (.istore 5, 2, []) := by decide +kernel
set_option maxRecDepth 100000 in
theorem la_966 : dm_at 329 966 = some (.aload_n 2, 1, []) := by decide +kernel
set_option maxRecDepth 100000 in
theorem la_967 : dm_at 329 967 = some (.aload_n 0, 1, []) := by decide +kernel
set_option maxRecDepth 100000 in
theorem la_968 : dm_at 329 968 = some (.iload 4, 2, []) := by decide +kernel
set_option maxRecDepth 100000 in
theorem la_970 : dm_at 329 970 = some (.iconst 1, 1, []) := by decide +kernel
set_option maxRecDepth 100000 in
theorem la_971 : dm_at 329 971 = some (.iadd, 1, []) := by decide +kernel
set_option maxRecDepth 100000 in
theorem la_972 : dm_at 329 972 = some (.iaload, 1, []) := by decide +kernel
set_option maxRecDepth 100000 in
theorem la_973 : dm_at 329 973 = some (.aload_n 0, 1, []) := by decide +kernel
set_option maxRecDepth 100000 in
theorem la_974 : dm_at 329 974 = some (.iload 4, 2, []) := by decide +kernel
set_option maxRecDepth 100000 in
theorem la_976 : dm_at 329 976 = some (.iconst 2, 1, []) := by decide +kernel
set_option maxRecDepth 100000 in
theorem la_977 : dm_at 329 977 = some (.iadd, 1, []) := by decide +kernel
set_option maxRecDepth 100000 in
theorem la_978 : dm_at 329 978 = some (.iaload, 1, []) := by decide +kernel
set_option maxRecDepth 100000 in
theorem la_979 : dm_at 329 979 = some (.aload_n 0, 1, []) := by decide +kernel
set_option maxRecDepth 100000 in
theorem la_980 : dm_at 329 980 = some (.iload 4, 2, []) := by decide +kernel
set_option maxRecDepth 100000 in
theorem la_982 : dm_at 329 982 = some (.iconst 3, 1, []) := by decide +kernel
set_option maxRecDepth 100000 in
theorem la_983 : dm_at 329 983 = some (.iadd, 1, []) := by decide +kernel
set_option maxRecDepth 100000 in
theorem la_984 : dm_at 329 984 = some (.iaload, 1, []) := by decide +kernel
set_option maxRecDepth 100000 in
theorem la_985 : dm_at 329 985 = some (.ifCond .eq 7, 3, [992]) := by decide +kernel
set_option maxRecDepth 100000 in
theorem la_988 : dm_at 329 988 = some (.iconst 1, 1, []) := by decide +kernel
set_option maxRecDepth 100000 in
theorem la_989 : dm_at 329 989 = some (.goto 4, 3, [993]) := by decide +kernel
set_option maxRecDepth 100000 in
theorem la_992 : dm_at 329 992 = some (.iconst 0, 1, []) := by decide +kernel
set_option maxRecDepth 100000 in
theorem la_993 : dm_at 329 993 = some (.invokevirtual 228, 3, [155, 1, 6187, 6188, 6189, 1008, 6190]) := by decide +kernel
set_option maxRecDepth 100000 in
theorem la_996 : dm_at 329 996 = some (.istore 6, 2, []) := by decide +kernel
set_option maxRecDepth 100000 in
theorem la_998 : dm_at 329 998 = some (.goto 1382, 3, [2380]) := by decide +kernel
set_option maxRecDepth 100000 in
theorem la_1001 : dm_at 329 1001 = some (.aload_n 1, 1, []) := by decide +kernel
set_option maxRecDepth 100000 in
theorem la_1002 : dm_at 329 1002 = some (.aload_n 0, 1, []) := by decide +kernel
set_option maxRecDepth 100000 in
theorem la_1003 : dm_at 329 1003 = some (.iload 4, 2, []) := by decide +kernel
set_option maxRecDepth 100000 in
theorem la_1005 : dm_at 329 1005 = some (.iconst 1, 1, []) := by decide +kernel
set_option maxRecDepth 100000 in
theorem la_1006 : dm_at 329 1006 = some (.iadd, 1, []) := by decide +kernel
set_option maxRecDepth 100000 in
theorem la_1007 : dm_at 329 1007 = some (.iaload, 1, []) := by decide +kernel
set_option maxRecDepth 100000 in
theorem la_1008 : dm_at 329 1008 = some (.aload_n 0, 1, []) := by decide +kernel
set_option maxRecDepth 100000 in
theorem la_1009 : dm_at 329 1009 = some (.iload 4, 2, []) := by decide +kernel
set_option maxRecDepth 100000 in
theorem la_1011 : dm_at 329 1011 = some (.iconst 2, 1, []) := by decide +kernel
set_option maxRecDepth 100000 in
theorem la_1012 : dm_at 329 1012 = some (.iadd, 1, []) := by decide +kernel
set_option maxRecDepth 100000 in
theorem la_1013 : dm_at 329 1013 = some (.iaload, 1, []) := by decide +kernel
set_option maxRecDepth 100000 in
theorem la_1014 : dm_at 329 1014 = some (.aload_n 0, 1, []) := by decide +kernel
set_option maxRecDepth 100000 in
theorem la_1015 : dm_at 329 1015 = some (.iload 4, 2, []) := by decide +kernel
set_option maxRecDepth 100000 in
theorem la_1017 : dm_at 329 1017 = some (.iconst 3, 1, []) := by decide +kernel
set_option maxRecDepth 100000 in
theorem la_1018 : dm_at 329 1018 = some (.iadd, 1, []) := by decide +kernel
set_option maxRecDepth 100000 in
theorem la_1019 : dm_at 329 1019 = some (.iaload, 1, []) := by decide +kernel
set_option maxRecDepth 100000 in
theorem la_1020 : dm_at 329 1020 = some (.aload_n 3, 1, []) := by decide +kernel
set_option maxRecDepth 100000 in
theorem la_1021 : dm_at 329 1021 = some (.invokestatic 229, 3, [297, 0, 4009, 4010, 1000, 4011]) := by decide +kernel
set_option maxRecDepth 100000 in
theorem la_1024 : dm_at 329 1024 = some (.istore 5, 2, []) := by decide +kernel
set_option maxRecDepth 100000 in
theorem la_1026 : dm_at 329 1026 = some (.aload_n 2, 1, []) := by decide +kernel
set_option maxRecDepth 100000 in
theorem la_1027 : dm_at 329 1027 = some (.aload_n 0, 1, []) := by decide +kernel
set_option maxRecDepth 100000 in
theorem la_1028 : dm_at 329 1028 = some (.iload 4, 2, []) := by decide +kernel
set_option maxRecDepth 100000 in
theorem la_1030 : dm_at 329 1030 = some (.iconst 1, 1, []) := by decide +kernel
set_option maxRecDepth 100000 in
theorem la_1031 : dm_at 329 1031 = some (.iadd, 1, []) := by decide +kernel
set_option maxRecDepth 100000 in
theorem la_1032 : dm_at 329 1032 = some (.iaload, 1, []) := by decide +kernel
set_option maxRecDepth 100000 in
theorem la_1033 : dm_at 329 1033 = some (.aload_n 0, 1, []) := by decide +kernel
set_option maxRecDepth 100000 in
theorem la_1034 : dm_at 329 1034 = some (.iload 4, 2, []) := by decide +kernel
set_option maxRecDepth 100000 in
theorem la_1036 : dm_at 329 1036 = some (.iconst 2, 1, []) := by decide +kernel
set_option maxRecDepth 100000 in
theorem la_1037 : dm_at 329 1037 = some (.iadd, 1, []) := by decide +kernel
set_option maxRecDepth 100000 in
theorem la_1038 : dm_at 329 1038 = some (.iaload, 1, []) := by decide +kernel
set_option maxRecDepth 100000 in
theorem la_1039 : dm_at 329 1039 = some (.aload_n 0, 1, []) := by decide +kernel
set_option maxRecDepth 100000 in
theorem la_1040 : dm_at 329 1040 = some (.iload 4, 2, []) := by decide +kernel
set_option maxRecDepth 100000 in
theorem la_1042 : dm_at 329 1042 = some (.iconst 3, 1, []) := by decide +kernel
set_option maxRecDepth 100000 in
theorem la_1043 : dm_at 329 1043 = some (.iadd, 1, []) := by decide +kernel
set_option maxRecDepth 100000 in
theorem la_1044 : dm_at 329 1044 = some (.iaload, 1, []) := by decide +kernel
set_option maxRecDepth 100000 in
theorem la_1045 : dm_at 329 1045 = some (.invokevirtual 231, 3, [159, 1, 6191, 6192, 6193, 1008, 6194]) := by decide +kernel
set_option maxRecDepth 100000 in
theorem la_1048 : dm_at 329 1048 = some (.istore 6, 2, []) := by decide +kernel
set_option maxRecDepth 100000 in
theorem la_1050 : dm_at 329 1050 = some (.goto 1330, 3, [2380]) := by decide +kernel
set_option maxRecDepth 100000 in
theorem la_1053 : dm_at 329 1053 = some (.aload_n 1, 1, []) := by decide +kernel
set_option maxRecDepth 100000 in
theorem la_1054 : dm_at 329 1054 = some (.aload_n 0, 1, []) := by decide +kernel
set_option maxRecDepth 100000 in
theorem la_1055 : dm_at 329 1055 = some (.iload 4, 2, []) := by decide +kernel
set_option maxRecDepth 100000 in
theorem la_1057 : dm_at 329 1057 = some (.iconst 1, 1, []) := by decide +kernel
set_option maxRecDepth 100000 in
theorem la_1058 : dm_at 329 1058 = some (.iadd, 1, []) := by decide +kernel
set_option maxRecDepth 100000 in
theorem la_1059 : dm_at 329 1059 = some (.iaload, 1, []) := by decide +kernel
set_option maxRecDepth 100000 in
theorem la_1060 : dm_at 329 1060 = some (.aload_n 0, 1, []) := by decide +kernel
set_option maxRecDepth 100000 in
theorem la_1061 : dm_at 329 1061 = some (.iload 4, 2, []) := by decide +kernel
set_option maxRecDepth 100000 in
theorem la_1063 : dm_at 329 1063 = some (.iconst 2, 1, []) := by decide +kernel
set_option maxRecDepth 100000 in
theorem la_1064 : dm_at 329 1064 = some (.iadd, 1, []) := by decide +kernel
set_option maxRecDepth 100000 in
theorem la_1065 : dm_at 329 1065 = some (.iaload, 1, []) := by decide +kernel
set_option maxRecDepth 100000 in
theorem la_1066 : dm_at 329 1066 = some (.aload_n 3, 1, []) := by decide +kernel
set_option maxRecDepth 100000 in
theorem la_1067 : dm_at 329 1067 = some (.invokestatic 232, 3, [298, 0, 4018, 4019, 1000, 4020]) := by decide +kernel
set_option maxRecDepth 100000 in
theorem la_1070 : dm_at 329 1070 = some (.istore 5, 2, []) := by decide +kernel
set_option maxRecDepth 100000 in
theorem la_1072 : dm_at 329 1072 = some (.aload_n 2, 1, []) := by decide +kernel
set_option maxRecDepth 100000 in
theorem la_1073 : dm_at 329 1073 = some (.aload_n 0, 1, []) := by decide +kernel
set_option maxRecDepth 100000 in
theorem la_1074 : dm_at 329 1074 = some (.iload 4, 2, []) := by decide +kernel
set_option maxRecDepth 100000 in
theorem la_1076 : dm_at 329 1076 = some (.iconst 1, 1, []) := by decide +kernel
set_option maxRecDepth 100000 in
theorem la_1077 : dm_at 329 1077 = some (.iadd, 1, []) := by decide +kernel
set_option maxRecDepth 100000 in
theorem la_1078 : dm_at 329 1078 = some (.iaload, 1, []) := by decide +kernel
set_option maxRecDepth 100000 in
theorem la_1079 : dm_at 329 1079 = some (.aload_n 0, 1, []) := by decide +kernel
set_option maxRecDepth 100000 in
theorem la_1080 : dm_at 329 1080 = some (.iload 4, 2, []) := by decide +kernel
set_option maxRecDepth 100000 in
theorem la_1082 : dm_at 329 1082 = some (.iconst 2, 1, []) := by decide +kernel
set_option maxRecDepth 100000 in
theorem la_1083 : dm_at 329 1083 = some (.iadd, 1, []) := by decide +kernel
set_option maxRecDepth 100000 in
theorem la_1084 : dm_at 329 1084 = some (.iaload, 1, []) := by decide +kernel
set_option maxRecDepth 100000 in
theorem la_1085 : dm_at 329 1085 = some (.invokevirtual 234, 3, [160, 1, 6203, 6204, 6205, 1008, 6206]) := by decide +kernel
set_option maxRecDepth 100000 in
theorem la_1088 : dm_at 329 1088 = some (.istore 6, 2, []) := by decide +kernel
set_option maxRecDepth 100000 in
theorem la_1090 : dm_at 329 1090 = some (.goto 1290, 3, [2380]) := by decide +kernel
set_option maxRecDepth 100000 in
theorem la_1093 : dm_at 329 1093 = some (.aload_n 1, 1, []) := by decide +kernel
set_option maxRecDepth 100000 in
theorem la_1094 : dm_at 329 1094 = some (.aload_n 0, 1, []) := by decide +kernel
set_option maxRecDepth 100000 in
theorem la_1095 : dm_at 329 1095 = some (.iload 4, 2, []) := by decide +kernel
set_option maxRecDepth 100000 in
theorem la_1097 : dm_at 329 1097 = some (.iconst 1, 1, []) := by decide +kernel
set_option maxRecDepth 100000 in
theorem la_1098 : dm_at 329 1098 = some (.iadd, 1, []) := by decide +kernel
set_option maxRecDepth 100000 in
theorem la_1099 : dm_at 329 1099 = some (.iaload, 1, []) := by decide +kernel
set_option maxRecDepth 100000 in
theorem la_1100 : dm_at 329 1100 = some (.aload_n 0, 1, []) := by decide +kernel
set_option maxRecDepth 100000 in
theorem la_1101 : dm_at 329 1101 = some (.iload 4, 2, []) := by decide +kernel
set_option maxRecDepth 100000 in
theorem la_1103 : dm_at 329 1103 = some (.iconst 2, 1, []) := by decide +kernel
set_option maxRecDepth 100000 in
theorem la_1104 : dm_at 329 1104 = some (.iadd, 1, []) := by decide +kernel
set_option maxRecDepth 100000 in
theorem la_1105 : dm_at 329 1105 = some (.iaload, 1, []) := by decide +kernel
set_option maxRecDepth 100000 in
theorem la_1106 : dm_at 329 1106 = some (.aload_n 0, 1, []) := by decide +kernel
set_option maxRecDepth 100000 in
theorem la_1107 : dm_at 329 1107 = some (.iload 4, 2, []) := by decide +kernel
set_option maxRecDepth 100000 in
theorem la_1109 : dm_at 329 1109 = some (.iconst 3, 1, []) := by decide +kernel
set_option maxRecDepth 100000 in
theorem la_1110 : dm_at 329 1110 = some (.iadd, 1, []) := by decide +kernel
set_option maxRecDepth 100000 in
theorem la_1111 : dm_at 329 1111 = some (.iaload, 1, []) := by decide +kernel
set_option maxRecDepth 100000 in
theorem la_1112 : dm_at 329 1112 = some (.aload_n 3, 1, []) := by decide +kernel
set_option maxRecDepth 100000 in
theorem la_1113 : dm_at 329 1113 = some (.invokestatic 235, 3, [299, 0, 4031, 4032, 1000, 4033]) := by decide +kernel
set_option maxRecDepth 100000 in
theorem la_1116 : dm_at 329 1116 = some (.istore 5, 2, []) := by decide +kernel
set_option maxRecDepth 100000 in
theorem la_1118 : dm_at 329 1118 = some (.aload_n 2, 1, []) := by decide +kernel
set_option maxRecDepth 100000 in
theorem la_1119 : dm_at 329 1119 = some (.aload_n 0, 1, []) := by decide +kernel
set_option maxRecDepth 100000 in
theorem la_1120 : dm_at 329 1120 = some (.iload 4, 2, []) := by decide +kernel
set_option maxRecDepth 100000 in
theorem la_1122 : dm_at 329 1122 = some (.iconst 1, 1, []) := by decide +kernel
set_option maxRecDepth 100000 in
theorem la_1123 : dm_at 329 1123 = some (.iadd, 1, []) := by decide +kernel
set_option maxRecDepth 100000 in
theorem la_1124 : dm_at 329 1124 = some (.iaload, 1, []) := by decide +kernel
set_option maxRecDepth 100000 in
theorem la_1125 : dm_at 329 1125 = some (.aload_n 0, 1, []) := by decide +kernel
set_option maxRecDepth 100000 in
theorem la_1126 : dm_at 329 1126 = some (.iload 4, 2, []) := by decide +kernel
set_option maxRecDepth 100000 in
theorem la_1128 : dm_at 329 1128 = some (.iconst 2, 1, []) := by decide +kernel
set_option maxRecDepth 100000 in
theorem la_1129 : dm_at 329 1129 = some (.iadd, 1, []) := by decide +kernel
set_option maxRecDepth 100000 in
theorem la_1130 : dm_at 329 1130 = some (.iaload, 1, []) := by decide +kernel
set_option maxRecDepth 100000 in
theorem la_1131 : dm_at 329 1131 = some (.aload_n 0, 1, []) := by decide +kernel
set_option maxRecDepth 100000 in
theorem la_1132 : dm_at 329 1132 = some (.iload 4, 2, []) := by decide +kernel
set_option maxRecDepth 100000 in
theorem la_1134 : dm_at 329 1134 = some (.iconst 3, 1, []) := by decide +kernel
set_option maxRecDepth 100000 in
theorem la_1135 : dm_at 329 1135 = some (.iadd, 1, []) := by decide +kernel
set_option maxRecDepth 100000 in
theorem la_1136 : dm_at 329 1136 = some (.iaload, 1, []) := by decide +kernel
set_option maxRecDepth 100000 in
theorem la_1137 : dm_at 329 1137 = some (.invokevirtual 237, 3, [161, 1, 6207, 6208, 6209, 1008, 6210]) := by decide +kernel
set_option maxRecDepth 100000 in
theorem la_1140 : dm_at 329 1140 = some (.istore 6, 2, []) := by decide +kernel
set_option maxRecDepth 100000 in
theorem la_1142 : dm_at 329 1142 = some (.goto 1238, 3, [2380]) := by decide +kernel
set_option maxRecDepth 100000 in
theorem la_1145 : dm_at 329 1145 = some (.aload_n 1, 1, []) := by decide +kernel
set_option maxRecDepth 100000 in
theorem la_1146 : dm_at 329 1146 = some (.aload_n 0, 1, []) := by decide +kernel
set_option maxRecDepth 100000 in
theorem la_1147 : dm_at 329 1147 = some (.iload 4, 2, []) := by decide +kernel
set_option maxRecDepth 100000 in
theorem la_1149 : dm_at 329 1149 = some (.iconst 1, 1, []) := by decide +kernel
set_option maxRecDepth 100000 in
theorem la_1150 : dm_at 329 1150 = some (.iadd, 1, []) := by decide +kernel
set_option maxRecDepth 100000 in
theorem la_1151 : dm_at 329 1151 = some (.iaload, 1, []) := by decide +kernel
set_option maxRecDepth 100000 in
theorem la_1152 : dm_at 329 1152 = some (.aload_n 0, 1, []) := by decide +kernel
set_option maxRecDepth 100000 in
theorem la_1153 : dm_at 329 1153 = some (.iload 4, 2, []) := by decide +kernel
set_option maxRecDepth 100000 in
theorem la_1155 : dm_at 329 1155 = some (.iconst 2, 1, []) := by decide +kernel
set_option maxRecDepth 100000 in
theorem la_1156 : dm_at 329 1156 = some (.iadd, 1, []) := by decide +kernel
set_option maxRecDepth 100000 in
theorem la_1157 : dm_at 329 1157 = some (.iaload, 1, []) := by decide +kernel
set_option maxRecDepth 100000 in
theorem la_1158 : dm_at 329 1158 = some (.aload_n 3, 1, []) := by decide +kernel
set_option maxRecDepth 100000 in
theorem la_1159 : dm_at 329 1159 = some (.invokestatic 238, 3, [300, 0, 4038, 4039, 1000, 4040]) := by decide +kernel
set_option maxRecDepth 100000 in
theorem la_1162 : dm_at 329 1162 = some (.istore 5, 2, []) := by decide +kernel
set_option maxRecDepth 100000 in
theorem la_1164 : dm_at 329 1164 = some (.aload_n 2, 1, []) := by decide +kernel
set_option maxRecDepth 100000 in
theorem la_1165 : dm_at 329 1165 = some (.aload_n 0, 1, []) := by decide +kernel
set_option maxRecDepth 100000 in
theorem la_1166 : dm_at 329 1166 = some (.iload 4, 2, []) := by decide +kernel
set_option maxRecDepth 100000 in
theorem la_1168 : dm_at 329 1168 = some (.iconst 1, 1, []) := by decide +kernel
set_option maxRecDepth 100000 in
theorem la_1169 : dm_at 329 1169 = some (.iadd, 1, []) := by decide +kernel
set_option maxRecDepth 100000 in
theorem la_1170 : dm_at 329 1170 = some (.iaload, 1, []) := by decide +kernel
set_option maxRecDepth 100000 in
theorem la_1171 : dm_at 329 1171 = some (.aload_n 0, 1, []) := by decide +kernel
set_option maxRecDepth 100000 in
theorem la_1172 : dm_at 329 1172 = some (.iload 4, 2, []) := by decide +kernel
set_option maxRecDepth 100000 in
theorem la_1174 : dm_at 329 1174 = some (.iconst 2, 1, []) := by decide +kernel
set_option maxRecDepth 100000 in
theorem la_1175 : dm_at 329 1175 = some (.iadd, 1, []) := by decide +kernel
set_option maxRecDepth 100000 in
theorem la_1176 : dm_at 329 1176 = some (.iaload, 1, []) := by decide +kernel
set_option maxRecDepth 100000 in
theorem la_1177 : dm_at 329 1177 = some (.invokevirtual 240, 3, [162, 1, 6211, 6212, 6213, 1008, 6214]) := by decide +kernel
set_option maxRecDepth 100000 in
theorem la_1180 : dm_at 329 1180 = some (.istore 6, 2, []) := by decide +kernel
set_option maxRecDepth 100000 in
theorem la_1182 : dm_at 329 1182 = some (.goto 1198, 3, [2380]) := by decide +kernel
set_option maxRecDepth 100000 in
theorem la_1185 : dm_at 329 1185 = some (.aload_n 1, 1, []) := by decide +kernel
set_option maxRecDepth 100000 in
theorem la_1186 : dm_at 329 1186 = some (.aload_n 0, 1, []) := by decide +kernel
set_option maxRecDepth 100000 in
theorem la_1187 : dm_at 329 1187 = some (.iload 4, 2, []) := by decide +kernel
set_option maxRecDepth 100000 in
theorem la_1189 : dm_at 329 1189 = some (.iconst 1, 1, []) := by decide +kernel
set_option maxRecDepth 100000 in
theorem la_1190 : dm_at 329 1190 = some (.iadd, 1, []) := by decide +kernel
set_option maxRecDepth 100000 in
theorem la_1191 : dm_at 329 1191 = some (.iaload, 1, []) := by decide +kernel
set_option maxRecDepth 100000 in
theorem la_1192 : dm_at 329 1192 = some (.ifCond .eq 7, 3, [1199]) := by decide +kernel
set_option maxRecDepth 100000 in
theorem la_1195 : dm_at 329 1195 = some (.iconst 1, 1, []) := by decide +kernel
set_option maxRecDepth 100000 in
theorem la_1196 : dm_at 329 1196 = some (.goto 4, 3, [1200]) := by decide +kernel
set_option maxRecDepth 100000 in
theorem la_1199 : dm_at 329 1199 = some (.iconst 0, 1, []) := by decide +kernel
set_option maxRecDepth 100000 in
theorem la_1200 : dm_at 329 1200 = some (.aload_n 3, 1, []) := by decide +kernel
set_option maxRecDepth 100000 in
theorem la_1201 : dm_at 329 1201 = some (.invokestatic 241, 3, [301, 0, 4045, 4046, 1000, 4047]) := by decide +kernel
set_option maxRecDepth 100000 in
theorem la_1204 : dm_at 329 1204 = some (.istore 5, 2, []) := by decide +kernel
set_option maxRecDepth 100000 in
theorem la_1206 : dm_at 329 1206 = some (.aload_n 2, 1, []) := by decide +kernel
set_option maxRecDepth 100000 in
theorem la_1207 : dm_at 329 1207 = some (.aload_n 0, 1, []) := by decide +kernel
set_option maxRecDepth 100000 in
theorem la_1208 : dm_at 329 1208 = some (.iload 4, 2, []) := by decide +kernel
set_option maxRecDepth 100000 in
theorem la_1210 : dm_at 329 1210 = some (.iconst 1, 1, []) := by decide +kernel
set_option maxRecDepth 100000 in
theorem la_1211 : dm_at 329 1211 = some (.iadd, 1, []) := by decide +kernel
set_option maxRecDepth 100000 in
theorem la_1212 : dm_at 329 1212 = some (.iaload, 1, []) := by decide +kernel
set_option maxRecDepth 100000 in
theorem la_1213 : dm_at 329 1213 = some (.ifCond .eq 7, 3, [1220]) := by decide +kernel
set_option maxRecDepth 100000 in
theorem la_1216 : dm_at 329 1216 = some (.iconst 1, 1, []) := by decide +kernel
set_option maxRecDepth 100000 in
theorem la_1217 : dm_at 329 1217 = some (.goto 4, 3, [1221]) := by decide +kernel
set_option maxRecDepth 100000 in
theorem la_1220 : dm_at 329 1220 = some (.iconst 0, 1, []) := by decide +kernel
set_option maxRecDepth 100000 in
theorem la_1221 : dm_at 329 1221 = some (.invokevirtual 244, 3, [163, 1, 6215, 6216, 6217, 1008, 6218]) := by decide +kernel
set_option maxRecDepth 100000 in
theorem la_1224 : dm_at 329 1224 = some (.istore 6, 2, []) := by decide +kernel
set_option maxRecDepth 100000 in
theorem la_1226 : dm_at 329 1226 = some (.goto 1154, 3, [2380]) := by decide +kernel
set_option maxRecDepth 100000 in
theorem la_1229 : dm_at 329 1229 = some (.aload_n 1, 1, []) := by decide +kernel
set_option maxRecDepth 100000 in
theorem la_1230 : dm_at 329 1230 = some (.aload_n 3, 1, []) := by decide +kernel
set_option maxRecDepth 100000 in
theorem la_1231 : dm_at 329 1231 = some (.invokestatic 245, 3, [302, 0, 4052, 4053, 1000, 4054]) := by decide +kernel
set_option maxRecDepth 100000 in
theorem la_1234 : dm_at 329 1234 = some (.istore 5, 2, []) := by decide +kernel
set_option maxRecDepth 100000 in
theorem la_1236 : dm_at 329 1236 = some (.aload_n 2, 1, []) := by decide +kernel
set_option maxRecDepth 100000 in
theorem la_1237 : dm_at 329 1237 = some (.invokevirtual 248, 3, [164, 1, 6223, 6224, 6225, 1008, 6226]) := by decide +kernel
set_option maxRecDepth 100000 in
theorem la_1240 : dm_at 329 1240 = some (.istore 6, 2, []) := by decide +kernel
set_option maxRecDepth 100000 in
theorem la_1242 : dm_at 329 1242 = some (.goto 1138, 3, [2380]) := by decide +kernel
set_option maxRecDepth 100000 in
theorem la_1245 : dm_at 329 1245 = some (.aload_n 1, 1, []) := by decide +kernel
set_option maxRecDepth 100000 in
theorem la_1246 : dm_at 329 1246 = some (.aload_n 0, 1, []) := by decide +kernel
set_option maxRecDepth 100000 in
theorem la_1247 : dm_at 329 1247 = some (.iload 4, 2, []) := by decide +kernel
set_option maxRecDepth 100000 in
theorem la_1249 : dm_at 329 1249 = some (.iconst 1, 1, []) := by decide +kernel
set_option maxRecDepth 100000 in
theorem la_1250 : dm_at 329 1250 = some (.iadd, 1, []) := by decide +kernel
set_option maxRecDepth 100000 in
theorem la_1251 : dm_at 329 1251 = some (.iaload, 1, []) := by decide +kernel
set_option maxRecDepth 100000 in
theorem la_1252 : dm_at 329 1252 = some (.aload_n 3, 1, []) := by decide +kernel
set_option maxRecDepth 100000 in
theorem la_1253 : dm_at 329 1253 = some (.invokestatic 249, 3, [303, 0, 4059, 4060, 1000, 4061]) := by decide +kernel
set_option maxRecDepth 100000 in
theorem la_1256 : dm_at 329 1256 = some (.istore 5, 2, []) := by decide +kernel
set_option maxRecDepth 100000 in
theorem la_1258 : dm_at 329 1258 = some (.aload_n 2, 1, []) := by decide +kernel
set_option maxRecDepth 100000 in
theorem la_1259 : dm_at 329 1259 = some (.aload_n 0, 1, []) := by decide +kernel
set_option maxRecDepth 100000 in
theorem la_1260 : dm_at 329 1260 = some (.iload 4, 2, []) := by decide +kernel
set_option maxRecDepth 100000 in
theorem la_1262 : dm_at 329 1262 = some (.iconst 1, 1, []) := by decide +kernel
set_option maxRecDepth 100000 in
theorem la_1263 : dm_at 329 1263 = some (.iadd, 1, []) := by decide +kernel
set_option maxRecDepth 100000 in
theorem la_1264 : dm_at 329 1264 = some (.iaload, 1, []) := by decide +kernel
set_option maxRecDepth 100000 in
theorem la_1265 : dm_at 329 1265 = some (.invokevirtual 251, 3, [166, 1, 6227, 6228, 6229, 1008, 6230]) := by decide +kernel
set_option maxRecDepth 100000 in
theorem la_1268 : dm_at 329 1268 = some (.istore 6, 2, []) := by decide +kernel
set_option maxRecDepth 100000 in
theorem la_1270 : dm_at 329 1270 = some (.goto 1110, 3, [2380]) := by decide +kernel
set_option maxRecDepth 100000 in
theorem la_1273 : dm_at 329 1273 = some (.aload_n 1, 1, []) := by decide +kernel
set_option maxRecDepth 100000 in
theorem la_1274 : dm_at 329 1274 = some (.aload_n 3, 1, []) := by decide +kernel
set_option maxRecDepth 100000 in
theorem la_1275 : dm_at 329 1275 = some (.invokestatic 252, 3, [304, 0, 4063, 4064, 1000, 4065]) := by decide +kernel
set_option maxRecDepth 100000 in
theorem la_1278 : dm_at 329 1278 = some (.istore 5, 2, []) := by decide +kernel
set_option maxRecDepth 100000 in
theorem la_1280 : dm_at 329 1280 = some (.aload_n 2, 1, []) := by decide +kernel
set_option maxRecDepth 100000 in
theorem la_1281 : dm_at 329 1281 = some (.invokevirtual 254, 3, [167, 1, 6235, 6236, 6237, 1008, 6238]) := by decide +kernel
set_option maxRecDepth 100000 in
theorem la_1284 : dm_at 329 1284 = some (.astore 6, 2, []) := by decide +kernel
set_option maxRecDepth 100000 in
theorem la_1286 : dm_at 329 1286 = some (.goto 1094, 3, [2380]) := by decide +kernel
set_option maxRecDepth 100000 in
theorem la_1289 : dm_at 329 1289 = some (.aload_n 1, 1, []) := by decide +kernel
set_option maxRecDepth 100000 in
theorem la_1290 : dm_at 329 1290 = some (.aload_n 0, 1, []) := by decide +kernel
set_option maxRecDepth 100000 in
theorem la_1291 : dm_at 329 1291 = some (.iload 4, 2, []) := by decide +kernel
set_option maxRecDepth 100000 in
theorem la_1293 : dm_at 329 1293 = some (.iconst 1, 1, []) := by decide +kernel
set_option maxRecDepth 100000 in
theorem la_1294 : dm_at 329 1294 = some (.iadd, 1, []) := by decide +kernel
set_option maxRecDepth 100000 in
theorem la_1295 : dm_at 329 1295 = some (.iaload, 1, []) := by decide +kernel
set_option maxRecDepth 100000 in
theorem la_1296 : dm_at 329 1296 = some (.aload_n 3, 1, []) := by decide +kernel
set_option maxRecDepth 100000 in
theorem la_1297 : dm_at 329 1297 = some (.invokestatic 255, 3, [305, 0, 5098, 5099, 1000, 5100]) := by decide +kernel
set_option maxRecDepth 100000 in
theorem la_1300 : dm_at 329 1300 = some (.istore 5, 2, []) := by decide +kernel
set_option maxRecDepth 100000 in
theorem la_1302 : dm_at 329 1302 = some (.aload_n 2, 1, []) := by decide +kernel
set_option maxRecDepth 100000 in
theorem la_1303 : dm_at 329 1303 = some (.aload_n 0, 1, []) := by decide +kernel
set_option maxRecDepth 100000 in
theorem la_1304 : dm_at 329 1304 = some (.iload 4, 2, []) := by decide +kernel
set_option maxRecDepth 100000 in
theorem la_1306 : dm_at 329 1306 = some (.iconst 1, 1, []) := by decide +kernel
set_option maxRecDepth 100000 in
theorem la_1307 : dm_at 329 1307 = some (.iadd, 1, []) := by decide +kernel
set_option maxRecDepth 100000 in
theorem la_1308 : dm_at 329 1308 = some (.iaload, 1, []) := by decide +kernel
set_option maxRecDepth 100000 in
theorem la_1309 : dm_at 329 1309 = some (.invokevirtual 257, 3, [168, 1, 7010, 7011, 7012, 1008, 7013]) := by decide +kernel
set_option maxRecDepth 100000 in
theorem la_1312 : dm_at 329 1312 = some (.istore 6, 2, []) := by decide +kernel
set_option maxRecDepth 100000 in
theorem la_1314 : dm_at 329 1314 = some (.goto 1066, 3, [2380]) := by decide +kernel
set_option maxRecDepth 100000 in
theorem la_1317 : dm_at 329 1317 = some (.aload_n 1, 1, []) := by decide +kernel
set_option maxRecDepth 100000 in
theorem la_1318 : dm_at 329 1318 = some (.aload_n 3, 1, []) := by decide +kernel
set_option maxRecDepth 100000 in
theorem la_1319 : dm_at 329 1319 = some (.invokestatic 258, 3, [306, 0, 5106, 5107, 1000, 5108]) := by decide +kernel
set_option maxRecDepth 100000 in
theorem la_1322 : dm_at 329 1322 = some (.istore 5, 2, []) := by decide +kernel
set_option maxRecDepth 100000 in
theorem la_1324 : dm_at 329 1324 = some (.aload_n 2, 1, []) := by decide +kernel
set_option maxRecDepth 100000 in
theorem la_1325 : dm_at 329 1325 = some (.invokevirtual 260, 3, [169, 1, 7014, 7015, 7016, 1008, 7017]) := by decide +kernel
set_option maxRecDepth 100000 in
theorem la_1328 : dm_at 329 1328 = some (.istore 6, 2, []) := by decide +kernel
set_option maxRecDepth 100000 in
theorem la_1330 : dm_at 329 1330 = some (.goto 1050, 3, [2380]) := by decide +kernel
set_option maxRecDepth 100000 in
theorem la_1333 : dm_at 329 1333 = some (.aload_n 1, 1, []) := by decide +kernel
set_option maxRecDepth 100000 in
theorem la_1334 : dm_at 329 1334 = some (.aload_n 0, 1, []) := by decide +kernel
set_option maxRecDepth 100000 in
theorem la_1335 : dm_at 329 1335 = some (.iload 4, 2, []) := by decide +kernel
set_option maxRecDepth 100000 in
theorem la_1337 : dm_at 329 1337 = some (.iconst 1, 1, []) := by decide +kernel
set_option maxRecDepth 100000 in
theorem la_1338 : dm_at 329 1338 = some (.iadd, 1, []) := by decide +kernel
set_option maxRecDepth 100000 in
theorem la_1339 : dm_at 329 1339 = some (.iaload, 1, []) := by decide +kernel
set_option maxRecDepth 100000 in
theorem la_1340 : dm_at 329 1340 = some (.aload_n 3, 1, []) := by decide +kernel
set_option maxRecDepth 100000 in
theorem la_1341 : dm_at 329 1341 = some (.invokestatic 261, 3, [307, 0, 5118, 5119, 1000, 5120]) := by decide +kernel
set_option maxRecDepth 100000 in
theorem la_1344 : dm_at 329 1344 = some (.istore 5, 2, []) := by decide +kernel
set_option maxRecDepth 100000 in
theorem la_1346 : dm_at 329 1346 = some (.aload_n 2, 1, []) := by decide +kernel
set_option maxRecDepth 100000 in
theorem la_1347 : dm_at 329 1347 = some (.aload_n 0, 1, []) := by decide +kernel
set_option maxRecDepth 100000 in
theorem la_1348 : dm_at 329 1348 = some (.iload 4, 2, []) := by decide +kernel
set_option maxRecDepth 100000 in
theorem la_1350 : dm_at 329 1350 = some (.iconst 1, 1, []) := by decide +kernel
set_option maxRecDepth 100000 in
theorem la_1351 : dm_at 329 1351 = some (.iadd, 1, []) := by decide +kernel
set_option maxRecDepth 100000 in
theorem la_1352 : dm_at 329 1352 = some (.iaload, 1, []) := by decide +kernel
set_option maxRecDepth 100000 in
theorem la_1353 : dm_at 329 1353 = some (.invokevirtual 263, 3, [170, 1, 7025, 7026, 7027, 1008, 7028]) := by decide +kernel
set_option maxRecDepth 100000 in
theorem la_1356 : dm_at 329 1356 = some (.istore 6, 2, []) := by decide +kernel
set_option maxRecDepth 100000 in
theorem la_1358 : dm_at 329 1358 = some (.goto 1022, 3, [2380]) := by decide +kernel
set_option maxRecDepth 100000 in
theorem la_1361 : dm_at 329 1361 = some (.aload_n 1, 1, []) := by decide +kernel
set_option maxRecDepth 100000 in
theorem la_1362 : dm_at 329 1362 = some (.aload_n 3, 1, []) := by decide +kernel
set_option maxRecDepth 100000 in
theorem la_1363 : dm_at 329 1363 = some (.invokestatic 264, 3, [308, 0, 5125, 5126, 1000, 5127]) := by decide +kernel
set_option maxRecDepth 100000 in
theorem la_1366 : dm_at 329 1366 = some (.istore 5, 2, []) := by decide +kernel
set_option maxRecDepth 100000 in
theorem la_1368 : dm_at 329 1368 = some (.aload_n 2, 1, []) := by decide +kernel
set_option maxRecDepth 100000 in
theorem la_1369 : dm_at 329 1369 = some (.invokevirtual 266, 3, [171, 1, 7029, 7030, 7031, 1008, 7032]) := by decide +kernel
set_option maxRecDepth 100000 in
theorem la_1372 : dm_at 329 1372 = some (.istore 6, 2, []) := by decide +kernel
set_option maxRecDepth 100000 in
theorem la_1374 : dm_at 329 1374 = some (.goto 1006, 3, [2380]) := by decide +kernel
set_option maxRecDepth 100000 in
theorem la_1377 : dm_at 329 1377 = some (.aload_n 1, 1, []) := by decide +kernel
set_option maxRecDepth 100000 in
theorem la_1378 : dm_at 329 1378 = some (.aload_n 0, 1, []) := by decide +kernel
set_option maxRecDepth 100000 in
theorem la_1379 : dm_at 329 1379 = some (.iload 4, 2, []) := by decide +kernel
set_option maxRecDepth 100000 in
theorem la_1381 : dm_at 329 1381 = some (.iconst 1, 1, []) := by decide +kernel
set_option maxRecDepth 100000 in
theorem la_1382 : dm_at 329 1382 = some (.iadd, 1, []) := by decide +kernel
set_option maxRecDepth 100000 in
theorem la_1383 : dm_at 329 1383 = some (.iaload, 1, []) := by decide +kernel
set_option maxRecDepth 100000 in
theorem la_1384 : dm_at 329 1384 = some (.aload_n 0, 1, []) := by decide +kernel
set_option maxRecDepth 100000 in
theorem la_1385 : dm_at 329 1385 = some (.iload 4, 2, []) := by decide +kernel
set_option maxRecDepth 100000 in
theorem la_1387 : dm_at 329 1387 = some (.iconst 2, 1, []) := by decide +kernel
set_option maxRecDepth 100000 in
theorem la_1388 : dm_at 329 1388 = some (.iadd, 1, []) := by decide +kernel
set_option maxRecDepth 100000 in
theorem la_1389 : dm_at 329 1389 = some (.iaload, 1, []) := by decide +kernel
set_option maxRecDepth 100000 in
theorem la_1390 : dm_at 329 1390 = some (.aload_n 3, 1, []) := by decide +kernel
set_option maxRecDepth 100000 in
theorem la_1391 : dm_at 329 1391 = some (.invokestatic 267, 3, [309, 0, 5132, 5133, 1000, 5134]) := by decide +kernel
set_option maxRecDepth 100000 in
theorem la_1394 : dm_at 329 1394 = some (.istore 5, 2, []) := by decide +kernel
set_option maxRecDepth 100000 in
theorem la_1396 : dm_at 329 1396 = some (.aload_n 2, 1, []) := by decide +kernel
set_option maxRecDepth 100000 in
theorem la_1397 : dm_at 329 1397 = some (.aload_n 0, 1, []) := by decide +kernel
set_option maxRecDepth 100000 in
theorem la_1398 : dm_at 329 1398 = some (.iload 4, 2, []) := by decide +kernel
set_option maxRecDepth 100000 in
theorem la_1400 : dm_at 329 1400 = some (.iconst 1, 1, []) := by decide +kernel
set_option maxRecDepth 100000 in
theorem la_1401 : dm_at 329 1401 = some (.iadd, 1, []) := by decide +kernel
set_option maxRecDepth 100000 in
theorem la_1402 : dm_at 329 1402 = some (.iaload, 1, []) := by decide +kernel
set_option maxRecDepth 100000 in
theorem la_1403 : dm_at 329 1403 = some (.aload_n 0, 1, []) := by decide +kernel
set_option maxRecDepth 100000 in
theorem la_1404 : dm_at 329 1404 = some (.iload 4, 2, []) := by decide +kernel
set_option maxRecDepth 100000 in
theorem la_1406 : dm_at 329 1406 = some (.iconst 2, 1, []) := by decide +kernel
set_option maxRecDepth 100000 in
theorem la_1407 : dm_at 329 1407 = some (.iadd, 1, []) := by decide +kernel
set_option maxRecDepth 100000 in
theorem la_1408 : dm_at 329 1408 = some (.iaload, 1, []) := by decide +kernel
set_option maxRecDepth 100000 in
theorem la_1409 : dm_at 329 1409 = some (.invokevirtual 269, 3, [173, 1, 7033, 7034, 7035, 1008, 7036]) := by decide +kernel
set_option maxRecDepth 100000 in
theorem la_1412 : dm_at 329 1412 = some (.istore 6, 2, []) := by decide +kernel
set_option maxRecDepth 100000 in
theorem la_1414 : dm_at 329 1414 = some (.goto 966, 3, [2380]) := by decide +kernel
set_option maxRecDepth 100000 in
theorem la_1417 : dm_at 329 1417 = some (.aload_n 1, 1, []) := by decide +kernel
set_option maxRecDepth 100000 in
theorem la_1418 : dm_at 329 1418 = some (.aload_n 0, 1, []) := by decide +kernel
set_option maxRecDepth 100000 in
theorem la_1419 : dm_at 329 1419 = some (.iload 4, 2, []) := by decide +kernel
set_option maxRecDepth 100000 in
theorem la_1421 : dm_at 329 1421 = some (.iconst 1, 1, []) := by decide +kernel
set_option maxRecDepth 100000 in
theorem la_1422 : dm_at 329 1422 = some (.iadd, 1, []) := by decide +kernel
set_option maxRecDepth 100000 in
theorem la_1423 : dm_at 329 1423 = some (.iaload, 1, []) := by decide +kernel
set_option maxRecDepth 100000 in
theorem la_1424 : dm_at 329 1424 = some (.aload_n 0, 1, []) := by decide +kernel
set_option maxRecDepth 100000 in
theorem la_1425 : dm_at 329 1425 = some (.iload 4, 2, []) := by decide +kernel
set_option maxRecDepth 100000 in
theorem la_1427 : dm_at 329 1427 = some (.iconst 2, 1, []) := by decide +kernel
set_option maxRecDepth 100000 in
theorem la_1428 : dm_at 329 1428 = some (.iadd, 1, []) := by decide +kernel
set_option maxRecDepth 100000 in
theorem la_1429 : dm_at 329 1429 = some (.iaload, 1, []) := by decide +kernel
set_option maxRecDepth 100000 in
theorem la_1430 : dm_at 329 1430 = some (.aload_n 0, 1, []) := by decide +kernel
set_option maxRecDepth 100000 in
theorem la_1431 : dm_at 329 1431 = some (.iload 4, 2, []) := by decide +kernel
set_option maxRecDepth 100000 in
theorem la_1433 : dm_at 329 1433 = some (.iconst 3, 1, []) := by decide +kernel
set_option maxRecDepth 100000 in
theorem la_1434 : dm_at 329 1434 = some (.iadd, 1, []) := by decide +kernel
set_option maxRecDepth 100000 in
theorem la_1435 : dm_at 329 1435 = some (.iaload, 1, []) := by decide +kernel
set_option maxRecDepth 100000 in
theorem la_1436 : dm_at 329 1436 = some (.aload_n 0, 1, []) := by decide +kernel
set_option maxRecDepth 100000 in
theorem la_1437 : dm_at 329 1437 = some (.iload 4, 2, []) := by decide +kernel
set_option maxRecDepth 100000 in
theorem la_1439 : dm_at 329 1439 = some (.iconst 4, 1, []) := by decide +kernel
set_option maxRecDepth 100000 in
theorem la_1440 : dm_at 329 1440 = some (.iadd, 1, []) := by decide +kernel
set_option maxRecDepth 100000 in
theorem la_1441 : dm_at 329 1441 = some (.iaload, 1, []) := by decide +kernel
set_option maxRecDepth 100000 in
theorem la_1442 : dm_at 329 1442 = some (.aload_n 3, 1, []) := by decide +kernel
set_option maxRecDepth 100000 in
theorem la_1443 : dm_at 329 1443 = some (.invokestatic 270, 3, [310, 0, 5136, 5137, 1000, 5138]) := by decide +kernel
set_option maxRecDepth 100000 in
theorem la_1446 : dm_at 329 1446 = some (.istore 5, 2, []) := by decide +kernel
set_option maxRecDepth 100000 in
theorem la_1448 : dm_at 329 1448 = some (.aload_n 2, 1, []) := by decide +kernel
set_option maxRecDepth 100000 in
theorem la_1449 : dm_at 329 1449 = some (.aload_n 0, 1, []) := by decide +kernel
set_option maxRecDepth 100000 in
theorem la_1450 : dm_at 329 1450 = some (.iload 4, 2, []) := by decide +kernel
set_option maxRecDepth 100000 in
theorem la_1452 : dm_at 329 1452 = some (.iconst 1, 1, []) := by decide +kernel
set_option maxRecDepth 100000 in
theorem la_1453 : dm_at 329 1453 = some (.iadd, 1, []) := by decide +kernel
set_option maxRecDepth 100000 in
theorem la_1454 : dm_at 329 1454 = some (.iaload, 1, []) := by decide +kernel
set_option maxRecDepth 100000 in
theorem la_1455 : dm_at 329 1455 = some (.aload_n 0, 1, []) := by decide +kernel
set_option maxRecDepth 100000 in
theorem la_1456 : dm_at 329 1456 = some (.iload 4, 2, []) := by decide +kernel
set_option maxRecDepth 100000 in
theorem la_1458 : dm_at 329 1458 = some (.iconst 2, 1, []) := by decide +kernel
set_option maxRecDepth 100000 in
theorem la_1459 : dm_at 329 1459 = some (.iadd, 1, []) := by decide +kernel
set_option maxRecDepth 100000 in
theorem la_1460 : dm_at 329 1460 = some (.iaload, 1, []) := by decide +kernel
set_option maxRecDepth 100000 in
theorem la_1461 : dm_at 329 1461 = some (.aload_n 0, 1, []) := by decide +kernel
set_option maxRecDepth 100000 in
theorem la_1462 : dm_at 329 1462 = some (.iload 4, 2, []) := by decide +kernel
set_option maxRecDepth 100000 in
theorem la_1464 : dm_at 329 1464 = some (.iconst 3, 1, []) := by decide +kernel
set_option maxRecDepth 100000 in
theorem la_1465 : dm_at 329 1465 = some (.iadd, 1, []) := by decide +kernel
set_option maxRecDepth 100000 in
theorem la_1466 : dm_at 329 1466 = some (.iaload, 1, []) := by decide +kernel
set_option maxRecDepth 100000 in
theorem la_1467 : dm_at 329 1467 = some (.aload_n 0, 1, []) := by decide +kernel
set_option maxRecDepth 100000 in
theorem la_1468 : dm_at 329 1468 = some (.iload 4, 2, []) := by decide +kernel
set_option maxRecDepth 100000 in
theorem la_1470 : dm_at 329 1470 = some (.iconst 4, 1, []) := by decide +kernel
set_option maxRecDepth 100000 in
theorem la_1471 : dm_at 329 1471 = some (.iadd, 1, []) := by decide +kernel
set_option maxRecDepth 100000 in
theorem la_1472 : dm_at 329 1472 = some (.iaload, 1, []) := by decide +kernel
set_option maxRecDepth 100000 in
theorem la_1473 : dm_at 329 1473 = some (.invokevirtual 272, 3, [174, 1, 7041, 7042, 7043, 1008, 7044]) := by decide +kernel
set_option maxRecDepth 100000 in
theorem la_1476 : dm_at 329 1476 = some (.istore 6, 2, []) := by decide +kernel
set_option maxRecDepth 100000 in
theorem la_1478 : dm_at 329 1478 = some (.goto 902, 3, [2380]) := by decide +kernel
set_option maxRecDepth 100000 in
theorem la_1481 : dm_at 329 1481 = some (.aload_n 1, 1, []) := by decide +kernel
set_option maxRecDepth 100000 in
theorem la_1482 : dm_at 329 1482 = some (.aload_n 0, 1, []) := by decide +kernel
set_option maxRecDepth 100000 in
theorem la_1483 : dm_at 329 1483 = some (.iload 4, 2, []) := by decide +kernel
set_option maxRecDepth 100000 in
theorem la_1485 : dm_at 329 1485 = some (.iconst 1, 1, []) := by decide +kernel
set_option maxRecDepth 100000 in
theorem la_1486 : dm_at 329 1486 = some (.iadd, 1, []) := by decide +kernel
set_option maxRecDepth 100000 in
theorem la_1487 : dm_at 329 1487 = some (.iaload, 1, []) := by decide +kernel
set_option maxRecDepth 100000 in
theorem la_1488 : dm_at 329 1488 = some (.aload_n 0, 1, []) := by decide +kernel
set_option maxRecDepth 100000 in
theorem la_1489 : dm_at 329 1489 = some (.iload 4, 2, []) := by decide +kernel
set_option maxRecDepth 100000 in
theorem la_1491 : dm_at 329 1491 = some (.iconst 2, 1, []) := by decide +kernel
set_option maxRecDepth 100000 in
theorem la_1492 : dm_at 329 1492 = some (.iadd, 1, []) := by decide +kernel
set_option maxRecDepth 100000 in
theorem la_1493 : dm_at 329 1493 = some (.iaload, 1, []) := by decide +kernel
set_option maxRecDepth 100000 in
theorem la_1494 : dm_at 329 1494 = some (.aload_n 0, 1, []) := by decide +kernel
set_option maxRecDepth 100000 in
theorem la_1495 : dm_at 329 1495 = some (.iload 4, 2, []) := by decide +kernel
set_option maxRecDepth 100000 in
theorem la_1497 : dm_at 329 1497 = some (.iconst 3, 1, []) := by decide +kernel
set_option maxRecDepth 100000 in
theorem la_1498 : dm_at 329 1498 = some (.iadd, 1, []) := by decide +kernel
set_option maxRecDepth 100000 in
theorem la_1499 : dm_at 329 1499 = some (.iaload, 1, []) := by decide +kernel
set_option maxRecDepth 100000 in
theorem la_1500 : dm_at 329 1500 = some (.aload_n 3, 1, []) := by decide +kernel
set_option maxRecDepth 100000 in
theorem la_1501 : dm_at 329 1501 = some (.invokestatic 273, 3, [311, 0, 5143, 5144, 1000, 5145]) := by decide +kernel
set_option maxRecDepth 100000 in
theorem la_1504 : dm_at 329 1504 = some (.istore 5, 2, []) := by decide +kernel
set_option maxRecDepth 100000 in
theorem la_1506 : dm_at 329 1506 = some (.aload_n 2, 1, []) := by decide +kernel
set_option maxRecDepth 100000 in
theorem la_1507 : dm_at 329 1507 = some (.aload_n 0, 1, []) := by decide +kernel
set_option maxRecDepth 100000 in
theorem la_1508 : dm_at 329 1508 = some (.iload 4, 2, []) := by decide +kernel
set_option maxRecDepth 100000 in
theorem la_1510 : dm_at 329 1510 = some (.iconst 1, 1, []) := by decide +kernel
set_option maxRecDepth 100000 in
theorem la_1511 : dm_at 329 1511 = some (.iadd, 1, []) := by decide +kernel
set_option maxRecDepth 100000 in
theorem la_1512 : dm_at 329 1512 = some (.iaload, 1, []) := by decide +kernel
set_option maxRecDepth 100000 in
theorem la_1513 : dm_at 329 1513 = some (.aload_n 0, 1, []) := by decide +kernel
set_option maxRecDepth 100000 in
theorem la_1514 : dm_at 329 1514 = some (.iload 4, 2, []) := by decide +kernel
set_option maxRecDepth 100000 in
theorem la_1516 : dm_at 329 1516 = some (.iconst 2, 1, []) := by decide +kernel
set_option maxRecDepth 100000 in
theorem la_1517 : dm_at 329 1517 = some (.iadd, 1, []) := by decide +kernel
set_option maxRecDepth 100000 in
theorem la_1518 : dm_at 329 1518 = some (.iaload, 1, []) := by decide +kernel
set_option maxRecDepth 100000 in
theorem la_1519 : dm_at 329 1519 = some (.aload_n 0, 1, []) := by decide +kernel
set_option maxRecDepth 100000 in
theorem la_1520 : dm_at 329 1520 = some (.iload 4, 2, []) := by decide +kernel
set_option maxRecDepth 100000 in
theorem la_1522 : dm_at 329 1522 = some (.iconst 3, 1, []) := by decide +kernel
set_option maxRecDepth 100000 in
theorem la_1523 : dm_at 329 1523 = some (.iadd, 1, []) := by decide +kernel
set_option maxRecDepth 100000 in
theorem la_1524 : dm_at 329 1524 = some (.iaload, 1, []) := by decide +kernel
set_option maxRecDepth 100000 in
theorem la_1525 : dm_at 329 1525 = some (.invokevirtual 275, 3, [175, 1, 7045, 7046, 7047, 1008, 7048]) := by decide +kernel
set_option maxRecDepth 100000 in
theorem la_1528 : dm_at 329 1528 = some (.istore 6, 2, []) := by decide +kernel
set_option maxRecDepth 100000 in
theorem la_1530 : dm_at 329 1530 = some (.goto 850, 3, [2380]) := by decide +kernel
set_option maxRecDepth 100000 in
theorem la_1533 : dm_at 329 1533 = some (.aload_n 1, 1, []) := by decide +kernel
set_option maxRecDepth 100000 in
theorem la_1534 : dm_at 329 1534 = some (.aload_n 0, 1, []) := by decide +kernel
set_option maxRecDepth 100000 in
theorem la_1535 : dm_at 329 1535 = some (.iload 4, 2, []) := by decide +kernel
set_option maxRecDepth 100000 in
theorem la_1537 : dm_at 329 1537 = some (.iconst 1, 1, []) := by decide +kernel
set_option maxRecDepth 100000 in
theorem la_1538 : dm_at 329 1538 = some (.iadd, 1, []) := by decide +kernel
set_option maxRecDepth 100000 in
theorem la_1539 : dm_at 329 1539 = some (.iaload, 1, []) := by decide +kernel
set_option maxRecDepth 100000 in
theorem la_1540 : dm_at 329 1540 = some (.aload_n 0, 1, []) := by decide +kernel
set_option maxRecDepth 100000 in
theorem la_1541 : dm_at 329 1541 = some (.iload 4, 2, []) := by decide +kernel
set_option maxRecDepth 100000 in
theorem la_1543 : dm_at 329 1543 = some (.iconst 2, 1, []) := by decide +kernel
set_option maxRecDepth 100000 in
theorem la_1544 : dm_at 329 1544 = some (.iadd, 1, []) := by decide +kernel
set_option maxRecDepth 100000 in
theorem la_1545 : dm_at 329 1545 = some (.iaload, 1, []) := by decide +kernel
set_option maxRecDepth 100000 in
theorem la_1546 : dm_at 329 1546 = some (.aload_n 3, 1, []) := by decide +kernel
set_option maxRecDepth 100000 in
theorem la_1547 : dm_at 329 1547 = some (.invokestatic 276, 3, [312, 0, 5150, 5151, 1000, 5152]) := by decide +kernel
set_option maxRecDepth 100000 in
theorem la_1550 : dm_at 329 1550 = some (.istore 5, 2, []) := by decide +kernel
set_option maxRecDepth 100000 in
theorem la_1552 : dm_at 329 1552 = some (.aload_n 2, 1, []) := by decide +kernel
set_option maxRecDepth 100000 in
theorem la_1553 : dm_at 329 1553 = some (.aload_n 0, 1, []) := by decide +kernel
set_option maxRecDepth 100000 in
theorem la_1554 : dm_at 329 1554 = some (.iload 4, 2, []) := by decide +kernel
set_option maxRecDepth 100000 in
theorem la_1556 : dm_at 329 1556 = some (.iconst 1, 1, []) := by decide +kernel
set_option maxRecDepth 100000 in
theorem la_1557 : dm_at 329 1557 = some (.iadd, 1, []) := by decide +kernel
set_option maxRecDepth 100000 in
theorem la_1558 : dm_at 329 1558 = some (.iaload, 1, []) := by decide +kernel
set_option maxRecDepth 100000 in
theorem la_1559 : dm_at 329 1559 = some (.aload_n 0, 1, []) := by decide +kernel
set_option maxRecDepth 100000 in
theorem la_1560 : dm_at 329 1560 = some (.iload 4, 2, []) := by decide +kernel
set_option maxRecDepth 100000 in
theorem la_1562 : dm_at 329 1562 = some (.iconst 2, 1, []) := by decide +kernel
set_option maxRecDepth 100000 in
theorem la_1563 : dm_at 329 1563 = some (.iadd, 1, []) := by decide +kernel
set_option maxRecDepth 100000 in
theorem la_1564 : dm_at 329 1564 = some (.iaload, 1, []) := by decide +kernel
set_option maxRecDepth 100000 in
theorem la_1565 : dm_at 329 1565 = some (.invokevirtual 278, 3, [176, 1, 7049, 7050, 7051, 1008, 7052]) := by decide +kernel
set_option maxRecDepth 100000 in
theorem la_1568 : dm_at 329 1568 = some (.istore 6, 2, []) := by decide +kernel
set_option maxRecDepth 100000 in
theorem la_1570 : dm_at 329 1570 = some (.goto 810, 3, [2380]) := by decide +kernel
set_option maxRecDepth 100000 in
theorem la_1573 : dm_at 329 1573 = some (.aload_n 1, 1, []) := by decide +kernel
set_option maxRecDepth 100000 in
theorem la_1574 : dm_at 329 1574 = some (.aload_n 0, 1, []) := by decide +kernel
set_option maxRecDepth 100000 in
theorem la_1575 : dm_at 329 1575 = some (.iload 4, 2, []) := by decide +kernel
set_option maxRecDepth 100000 in
theorem la_1577 : dm_at 329 1577 = some (.iconst 1, 1, []) := by decide +kernel
set_option maxRecDepth 100000 in
theorem la_1578 : dm_at 329 1578 = some (.iadd, 1, []) := by decide +kernel
set_option maxRecDepth 100000 in
theorem la_1579 : dm_at 329 1579 = some (.iaload, 1, []) := by decide +kernel
set_option maxRecDepth 100000 in
theorem la_1580 : dm_at 329 1580 = some (.aload_n 0, 1, []) := by decide +kernel
set_option maxRecDepth 100000 in
theorem la_1581 : dm_at 329 1581 = some (.iload 4, 2, []) := by decide +kernel
set_option maxRecDepth 100000 in
theorem la_1583 : dm_at 329 1583 = some (.iconst 2, 1, []) := by decide +kernel
set_option maxRecDepth 100000 in
theorem la_1584 : dm_at 329 1584 = some (.iadd, 1, []) := by decide +kernel
set_option maxRecDepth 100000 in
theorem la_1585 : dm_at 329 1585 = some (.iaload, 1, []) := by decide +kernel
set_option maxRecDepth 100000 in
theorem la_1586 : dm_at 329 1586 = some (.aload_n 0, 1, []) := by decide +kernel
set_option maxRecDepth 100000 in
theorem la_1587 : dm_at 329 1587 = some (.iload 4, 2, []) := by decide +kernel
set_option maxRecDepth 100000 in
theorem la_1589 : dm_at 329 1589 = some (.iconst 3, 1, []) := by decide +kernel
set_option maxRecDepth 100000 in
theorem la_1590 : dm_at 329 1590 = some (.iadd, 1, []) := by decide +kernel
set_option maxRecDepth 100000 in
theorem la_1591 : dm_at 329 1591 = some (.iaload, 1, []) := by decide +kernel
set_option maxRecDepth 100000 in
theorem la_1592 : dm_at 329 1592 = some (.aload_n 0, 1, []) := by decide +kernel
set_option maxRecDepth 100000 in
theorem la_1593 : dm_at 329 1593 = some (.iload 4, 2, []) := by decide +kernel
set_option maxRecDepth 100000 in
theorem la_1595 : dm_at 329 1595 = some (.iconst 4, 1, []) := by decide +kernel
set_option maxRecDepth 100000 in
theorem la_1596 : dm_at 329 1596 = some (.iadd, 1, []) := by decide +kernel
set_option maxRecDepth 100000 in
theorem la_1597 : dm_at 329 1597 = some (.iaload, 1, []) := by decide +kernel
set_option maxRecDepth 100000 in
theorem la_1598 : dm_at 329 1598 = some (.aload_n 3, 1, []) := by decide +kernel
set_option maxRecDepth 100000 in
theorem la_1599 : dm_at 329 1599 = some (.invokestatic 279, 3, [313, 0, 5157, 5158, 1000, 5159]) := by decide +kernel
set_option maxRecDepth 100000 in
theorem la_1602 : dm_at 329 1602 = some (.istore 5, 2, []) := by decide +kernel
set_option maxRecDepth 100000 in
theorem la_1604 : dm_at 329 1604 = some (.aload_n 2, 1, []) := by decide +kernel
set_option maxRecDepth 100000 in
theorem la_1605 : dm_at 329 1605 = some (.aload_n 0, 1, []) := by decide +kernel
set_option maxRecDepth 100000 in
theorem la_1606 : dm_at 329 1606 = some (.iload 4, 2, []) := by decide +kernel
set_option maxRecDepth 100000 in
theorem la_1608 : dm_at 329 1608 = some (.iconst 1, 1, []) := by decide +kernel
set_option maxRecDepth 100000 in
theorem la_1609 : dm_at 329 1609 = some (.iadd, 1, []) := by decide +kernel
set_option maxRecDepth 100000 in
theorem la_1610 : dm_at 329 1610 = some (.iaload, 1, []) := by decide +kernel
set_option maxRecDepth 100000 in
theorem la_1611 : dm_at 329 1611 = some (.aload_n 0, 1, []) := by decide +kernel
set_option maxRecDepth 100000 in
theorem la_1612 : dm_at 329 1612 = some (.iload 4, 2, []) := by decide +kernel
set_option maxRecDepth 100000 in
theorem la_1614 : dm_at 329 1614 = some (.iconst 2, 1, []) := by decide +kernel
set_option maxRecDepth 100000 in
theorem la_1615 : dm_at 329 1615 = some (.iadd, 1, []) := by decide +kernel
set_option maxRecDepth 100000 in
theorem la_1616 : dm_at 329 1616 = some (.iaload, 1, []) := by decide +kernel
set_option maxRecDepth 100000 in
theorem la_1617 : dm_at 329 1617 = some (.aload_n 0, 1, []) := by decide +kernel
set_option maxRecDepth 100000 in
theorem la_1618 : dm_at 329 1618 = some (.iload 4, 2, []) := by decide +kernel
set_option maxRecDepth 100000 in
theorem la_1620 : dm_at 329 1620 = some (.iconst 3, 1, []) := by decide +kernel
set_option maxRecDepth 100000 in
theorem la_1621 : dm_at 329 1621 = some (.iadd, 1, []) := by decide +kernel
set_option maxRecDepth 100000 in
theorem la_1622 : dm_at 329 1622 = some (.iaload, 1, []) := by decide +kernel
set_option maxRecDepth 100000 in
theorem la_1623 : dm_at 329 1623 = some (.aload_n 0, 1, []) := by decide +kernel
set_option maxRecDepth 100000 in
theorem la_1624 : dm_at 329 1624 = some (.iload 4, 2, []) := by decide +kernel
set_option maxRecDepth 100000 in
theorem la_1626 : dm_at 329 1626 = some (.iconst 4, 1, []) := by decide +kernel
set_option maxRecDepth 100000 in
theorem la_1627 : dm_at 329 1627 = some (.iadd, 1, []) := by decide +kernel
set_option maxRecDepth 100000 in
theorem la_1628 : dm_at 329 1628 = some (.iaload, 1, []) := by decide +kernel
set_option maxRecDepth 100000 in
theorem la_1629 : dm_at 329 1629 = some (.invokevirtual 281, 3, [179, 1, 7053, 7054, 7055, 1008, 7056]) := by decide +kernel
set_option maxRecDepth 100000 in
theorem la_1632 : dm_at 329 1632 = some (.istore 6, 2, []) := by decide +kernel
set_option maxRecDepth 100000 in
theorem la_1634 : dm_at 329 1634 = some (.goto 746, 3, [2380]) := by decide +kernel
set_option maxRecDepth 100000 in
theorem la_1637 : dm_at 329 1637 = some (.aload_n 1, 1, []) := by decide +kernel
set_option maxRecDepth 100000 in
theorem la_1638 : dm_at 329 1638 = some (.aload_n 0, 1, []) := by decide +kernel
set_option maxRecDepth 100000 in
theorem la_1639 : dm_at 329 1639 = some (.iload 4, 2, []) := by decide +kernel
set_option maxRecDepth 100000 in
theorem la_1641 : dm_at 329 1641 = some (.iconst 1, 1, []) := by decide +kernel
set_option maxRecDepth 100000 in
theorem la_1642 : dm_at 329 1642 = some (.iadd, 1, []) := by decide +kernel
set_option maxRecDepth 100000 in
theorem la_1643 : dm_at 329 1643 = some (.iaload, 1, []) := by decide +kernel
set_option maxRecDepth 100000 in
theorem la_1644 : dm_at 329 1644 = some (.aload_n 0, 1, []) := by decide +kernel
set_option maxRecDepth 100000 in
theorem la_1645 : dm_at 329 1645 = some (.iload 4, 2, []) := by decide +kernel
set_option maxRecDepth 100000 in
theorem la_1647 : dm_at 329 1647 = some (.iconst 2, 1, []) := by decide +kernel
set_option maxRecDepth 100000 in
theorem la_1648 : dm_at 329 1648 = some (.iadd, 1, []) := by decide +kernel
set_option maxRecDepth 100000 in
theorem la_1649 : dm_at 329 1649 = some (.iaload, 1, []) := by decide +kernel
set_option maxRecDepth 100000 in
theorem la_1650 : dm_at 329 1650 = some (.aload_n 0, 1, []) := by decide +kernel
set_option maxRecDepth 100000 in
theorem la_1651 : dm_at 329 1651 = some (.iload 4, 2, []) := by decide +kernel
set_option maxRecDepth 100000 in
theorem la_1653 : dm_at 329 1653 = some (.iconst 3, 1, []) := by decide +kernel
set_option maxRecDepth 100000 in
theorem la_1654 : dm_at 329 1654 = some (.iadd, 1, []) := by decide +kernel
