/-! ===== more of them ===== -/
set_option maxRecDepth 100000 in
theorem la_910 : dm_at 329 910 = some (.iaload, 1, []) := by decide +kernel
set_option maxRecDepth 100000 in
theorem la_911 : dm_at 329 911 = some (.aload_n 0, 1, []) := by decide +kernel
set_option maxRecDepth 100000 in
theorem la_912 : dm_at 329 912 = some (.iload 4, 2, []) := by decide +kernel
set_option maxRecDepth 100000 in
theorem la_914 : dm_at 329 914 = some (.iconst 2, 1, []) := by decide +kernel
set_option maxRecDepth 100000 in
theorem la_915 : dm_at 329 915 = some (.iadd, 1, []) := by decide +kernel
set_option maxRecDepth 100000 in
theorem la_916 : dm_at 329 916 = some (.iaload, 1, []) := by decide +kernel
set_option maxRecDepth 100000 in
theorem la_917 : dm_at 329 917 = some (.aload_n 0, 1, []) := by decide +kernel
set_option maxRecDepth 100000 in
theorem la_918 : dm_at 329 918 = some (.iload 4, 2, []) := by decide +kernel
set_option maxRecDepth 100000 in
theorem la_920 : dm_at 329 920 = some (.iconst 3, 1, []) := by decide +kernel
set_option maxRecDepth 100000 in
theorem la_921 : dm_at 329 921 = some (.iadd, 1, []) := by decide +kernel
set_option maxRecDepth 100000 in
theorem la_922 : dm_at 329 922 = some (.iaload, 1, []) := by decide +kernel
set_option maxRecDepth 100000 in
theorem la_923 : dm_at 329 923 = some (.ifCond .eq 7, 3, [930]) := by decide +kernel
set_option maxRecDepth 100000 in
theorem la_926 : dm_at 329 926 = some (.iconst 1, 1, []) := by decide +kernel
set_option maxRecDepth 100000 in
theorem la_927 : dm_at 329 927 = some (.goto 4, 3, [931]) := by decide +kernel
set_option maxRecDepth 100000 in
theorem la_930 : dm_at 329 930 = some (.iconst 0, 1, []) := by decide +kernel
set_option maxRecDepth 100000 in
theorem la_931 : dm_at 329 931 = some (.aload_n 3, 1, []) := by decide +kernel
set_option maxRecDepth 100000 in
theorem la_932 : dm_at 329 932 = some (.invokestatic 222, 3, [296, 0, 4001, 4002, 1000, 4003]) := by decide +kernel
set_option maxRecDepth 100000 in
theorem la_935 : dm_at 329 935 = some (.istore 5, 2, []) := by decide +kernel
set_option maxRecDepth 100000 in
theorem la_937 : dm_at 329 937 = some (.aload_n 2, 1, []) := by decide +kernel
set_option maxRecDepth 100000 in
theorem la_938 : dm_at 329 938 = some (.aload_n 0, 1, []) := by decide +kernel
set_option maxRecDepth 100000 in
theorem la_939 : dm_at 329 939 = some (.iload 4, 2, []) := by decide +kernel
set_option maxRecDepth 100000 in
theorem la_941 : dm_at 329 941 = some (.iconst 1, 1, []) := by decide +kernel
set_option maxRecDepth 100000 in
theorem la_942 : dm_at 329 942 = some (.iadd, 1, []) := by decide +kernel
set_option maxRecDepth 100000 in
theorem la_943 : dm_at 329 943 = some (.iaload, 1, []) := by decide +kernel
set_option maxRecDepth 100000 in
theorem la_944 : dm_at 329 944 = some (.aload_n 0, 1, []) := by decide +kernel
set_option maxRecDepth 100000 in
theorem la_945 : dm_at 329 945 = some (.iload 4, 2, []) := by decide +kernel
set_option maxRecDepth 100000 in
theorem la_947 : dm_at 329 947 = some (.iconst 2, 1, []) := by decide +kernel
set_option maxRecDepth 100000 in
theorem la_948 : dm_at 329 948 = some (.iadd, 1, []) := by decide +kernel
set_option maxRecDepth 100000 in
theorem la_949 : dm_at 329 949 = some (.iaload, 1, []) := by decide +kernel
set_option maxRecDepth 100000 in
theorem la_950 : dm_at 329 950 = some (.aload_n 0, 1, []) := by decide +kernel
set_option maxRecDepth 100000 in
theorem la_951 : dm_at 329 951 = some (.iload 4, 2, []) := by decide +kernel
set_option maxRecDepth 100000 in
theorem la_953 : dm_at 329 953 = some (.iconst 3, 1, []) := by decide +kernel
set_option maxRecDepth 100000 in
theorem la_954 : dm_at 329 954 = some (.iadd, 1, []) := by decide +kernel
set_option maxRecDepth 100000 in
theorem la_955 : dm_at 329 955 = some (.iaload, 1, []) := by decide +kernel
set_option maxRecDepth 100000 in
theorem la_956 : dm_at 329 956 = some (.ifCond .eq 7, 3, [963]) := by decide +kernel
set_option maxRecDepth 100000 in
theorem la_959 : dm_at 329 959 = some (.iconst 1, 1, []) := by decide +kernel
set_option maxRecDepth 100000 in
theorem la_960 : dm_at 329 960 = some (.goto 4, 3, [964]) := by decide +kernel
set_option maxRecDepth 100000 in
theorem la_963 : dm_at 329 963 = some (.iconst 0, 1, []) := by decide +kernel
set_option maxRecDepth 100000 in
theorem la_964 : dm_at 329 964 = some (.invokevirtual 225, 3, [155, 1, 6187, 6188, 6189, 1008, 6190]) := by decide +kernel
set_option maxRecDepth 100000 in
theorem la_967 : dm_at 329 967 = some (.istore 6, 2, []) := by decide +kernel
set_option maxRecDepth 100000 in
theorem la_969 : dm_at 329 969 = some (.goto 1411, 3, [2380]) := by decide +kernel
set_option maxRecDepth 100000 in
theorem la_972 : dm_at 329 972 = some (.aload_n 1, 1, []) := by decide +kernel
set_option maxRecDepth 100000 in
theorem la_973 : dm_at 329 973 = some (.aload_n 0, 1, []) := by decide +kernel
set_option maxRecDepth 100000 in
theorem la_974 : dm_at 329 974 = some (.iload 4, 2, []) := by decide +kernel
set_option maxRecDepth 100000 in
theorem la_976 : dm_at 329 976 = some (.iconst 1, 1, []) := by decide +kernel
set_option maxRecDepth 100000 in
theorem la_977 : dm_at 329 977 = some (.iadd, 1, []) := by decide +kernel
set_option maxRecDepth 100000 in
theorem la_978 : dm_at 329 978 = some (.iaload, 1, []) := by decide +kernel
set_option maxRecDepth 100000 in
theorem la_979 : dm_at 329 979 = some (.aload_n 0, 1, []) := by decide +kernel
set_option maxRecDepth 100000 in
theorem la_980 : dm_at 329 980 = some (.iload 4, 2, []) := by decide +kernel
set_option maxRecDepth 100000 in
theorem la_982 : dm_at 329 982 = some (.iconst 2, 1, []) := by decide +kernel
set_option maxRecDepth 100000 in
theorem la_983 : dm_at 329 983 = some (.iadd, 1, []) := by decide +kernel
set_option maxRecDepth 100000 in
theorem la_984 : dm_at 329 984 = some (.iaload, 1, []) := by decide +kernel
set_option maxRecDepth 100000 in
theorem la_985 : dm_at 329 985 = some (.aload_n 0, 1, []) := by decide +kernel
set_option maxRecDepth 100000 in
theorem la_986 : dm_at 329 986 = some (.iload 4, 2, []) := by decide +kernel
set_option maxRecDepth 100000 in
theorem la_988 : dm_at 329 988 = some (.iconst 3, 1, []) := by decide +kernel
set_option maxRecDepth 100000 in
theorem la_989 : dm_at 329 989 = some (.iadd, 1, []) := by decide +kernel
set_option maxRecDepth 100000 in
theorem la_990 : dm_at 329 990 = some (.iaload, 1, []) := by decide +kernel
set_option maxRecDepth 100000 in
theorem la_991 : dm_at 329 991 = some (.aload_n 3, 1, []) := by decide +kernel
set_option maxRecDepth 100000 in
theorem la_992 : dm_at 329 992 = some (.invokestatic 226, 3, [297, 0, 4009, 4010, 1000, 4011]) := by decide +kernel
set_option maxRecDepth 100000 in
theorem la_995 : dm_at 329 995 = some (.istore 5, 2, []) := by decide +kernel
set_option maxRecDepth 100000 in
theorem la_997 : dm_at 329 997 = some (.aload_n 2, 1, []) := by decide +kernel
set_option maxRecDepth 100000 in
theorem la_998 : dm_at 329 998 = some (.aload_n 0, 1, []) := by decide +kernel
set_option maxRecDepth 100000 in
theorem la_999 : dm_at 329 999 = some (.iload 4, 2, []) := by decide +kernel
set_option maxRecDepth 100000 in
theorem la_1001 : dm_at 329 1001 = some (.iconst 1, 1, []) := by decide +kernel
set_option maxRecDepth 100000 in
theorem la_1002 : dm_at 329 1002 = some (.iadd, 1, []) := by decide +kernel
set_option maxRecDepth 100000 in
theorem la_1003 : dm_at 329 1003 = some (.iaload, 1, []) := by decide +kernel
set_option maxRecDepth 100000 in
theorem la_1004 : dm_at 329 1004 = some (.aload_n 0, 1, []) := by decide +kernel
set_option maxRecDepth 100000 in
theorem la_1005 : dm_at 329 1005 = some (.iload 4, 2, []) := by decide +kernel
set_option maxRecDepth 100000 in
theorem la_1007 : dm_at 329 1007 = some (.iconst 2, 1, []) := by decide +kernel
set_option maxRecDepth 100000 in
theorem la_1008 : dm_at 329 1008 = some (.iadd, 1, []) := by decide +kernel
set_option maxRecDepth 100000 in
theorem la_1009 : dm_at 329 1009 = some (.iaload, 1, []) := by decide +kernel
set_option maxRecDepth 100000 in
theorem la_1010 : dm_at 329 1010 = some (.aload_n 0, 1, []) := by decide +kernel
set_option maxRecDepth 100000 in
theorem la_1011 : dm_at 329 1011 = some (.iload 4, 2, []) := by decide +kernel
set_option maxRecDepth 100000 in
theorem la_1013 : dm_at 329 1013 = some (.iconst 3, 1, []) := by decide +kernel
set_option maxRecDepth 100000 in
theorem la_1014 : dm_at 329 1014 = some (.iadd, 1, []) := by decide +kernel
set_option maxRecDepth 100000 in
theorem la_1015 : dm_at 329 1015 = some (.iaload, 1, []) := by decide +kernel
set_option maxRecDepth 100000 in
theorem la_1016 : dm_at 329 1016 = some (.invokevirtual 228, 3, [159, 1, 6191, 6192, 6193, 1008, 6194]) := by decide +kernel
set_option maxRecDepth 100000 in
theorem la_1019 : dm_at 329 1019 = some (.istore 6, 2, []) := by decide +kernel
set_option maxRecDepth 100000 in
theorem la_1021 : dm_at 329 1021 = some (.goto 1359, 3, [2380]) := by decide +kernel
set_option maxRecDepth 100000 in
theorem la_1024 : dm_at 329 1024 = some (.aload_n 1, 1, []) := by decide +kernel
set_option maxRecDepth 100000 in
theorem la_1025 : dm_at 329 1025 = some (.aload_n 0, 1, []) := by decide +kernel
set_option maxRecDepth 100000 in
theorem la_1026 : dm_at 329 1026 = some (.iload 4, 2, []) := by decide +kernel
set_option maxRecDepth 100000 in
theorem la_1028 : dm_at 329 1028 = some (.iconst 1, 1, []) := by decide +kernel
set_option maxRecDepth 100000 in
theorem la_1029 : dm_at 329 1029 = some (.iadd, 1, []) := by decide +kernel
set_option maxRecDepth 100000 in
theorem la_1030 : dm_at 329 1030 = some (.iaload, 1, []) := by decide +kernel
set_option maxRecDepth 100000 in
theorem la_1031 : dm_at 329 1031 = some (.aload_n 0, 1, []) := by decide +kernel
set_option maxRecDepth 100000 in
theorem la_1032 : dm_at 329 1032 = some (.iload 4, 2, []) := by decide +kernel
set_option maxRecDepth 100000 in
theorem la_1034 : dm_at 329 1034 = some (.iconst 2, 1, []) := by decide +kernel
set_option maxRecDepth 100000 in
theorem la_1035 : dm_at 329 1035 = some (.iadd, 1, []) := by decide +kernel
set_option maxRecDepth 100000 in
theorem la_1036 : dm_at 329 1036 = some (.iaload, 1, []) := by decide +kernel
set_option maxRecDepth 100000 in
theorem la_1037 : dm_at 329 1037 = some (.aload_n 3, 1, []) := by decide +kernel
set_option maxRecDepth 100000 in
theorem la_1038 : dm_at 329 1038 = some (.invokestatic 229, 3, [298, 0, 4018, 4019, 1000, 4020]) := by decide +kernel
set_option maxRecDepth 100000 in
theorem la_1041 : dm_at 329 1041 = some (.istore 5, 2, []) := by decide +kernel
set_option maxRecDepth 100000 in
theorem la_1043 : dm_at 329 1043 = some (.aload_n 2, 1, []) := by decide +kernel
set_option maxRecDepth 100000 in
theorem la_1044 : dm_at 329 1044 = some (.aload_n 0, 1, []) := by decide +kernel
set_option maxRecDepth 100000 in
theorem la_1045 : dm_at 329 1045 = some (.iload 4, 2, []) := by decide +kernel
set_option maxRecDepth 100000 in
theorem la_1047 : dm_at 329 1047 = some (.iconst 1, 1, []) := by decide +kernel
set_option maxRecDepth 100000 in
theorem la_1048 : dm_at 329 1048 = some (.iadd, 1, []) := by decide +kernel
set_option maxRecDepth 100000 in
theorem la_1049 : dm_at 329 1049 = some (.iaload, 1, []) := by decide +kernel
set_option maxRecDepth 100000 in
theorem la_1050 : dm_at 329 1050 = some (.aload_n 0, 1, []) := by decide +kernel
set_option maxRecDepth 100000 in
theorem la_1051 : dm_at 329 1051 = some (.iload 4, 2, []) := by decide +kernel
set_option maxRecDepth 100000 in
theorem la_1053 : dm_at 329 1053 = some (.iconst 2, 1, []) := by decide +kernel
set_option maxRecDepth 100000 in
theorem la_1054 : dm_at 329 1054 = some (.iadd, 1, []) := by decide +kernel
set_option maxRecDepth 100000 in
theorem la_1055 : dm_at 329 1055 = some (.iaload, 1, []) := by decide +kernel
set_option maxRecDepth 100000 in
theorem la_1056 : dm_at 329 1056 = some (.invokevirtual 231, 3, [160, 1, 6203, 6204, 6205, 1008, 6206]) := by decide +kernel
set_option maxRecDepth 100000 in
theorem la_1059 : dm_at 329 1059 = some (.istore 6, 2, []) := by decide +kernel
set_option maxRecDepth 100000 in
theorem la_1061 : dm_at 329 1061 = some (.goto 1319, 3, [2380]) := by decide +kernel
set_option maxRecDepth 100000 in
theorem la_1064 : dm_at 329 1064 = some (.aload_n 1, 1, []) := by decide +kernel
set_option maxRecDepth 100000 in
theorem la_1065 : dm_at 329 1065 = some (.aload_n 0, 1, []) := by decide +kernel
set_option maxRecDepth 100000 in
theorem la_1066 : dm_at 329 1066 = some (.iload 4, 2, []) := by decide +kernel
set_option maxRecDepth 100000 in
theorem la_1068 : dm_at 329 1068 = some (.iconst 1, 1, []) := by decide +kernel
set_option maxRecDepth 100000 in
theorem la_1069 : dm_at 329 1069 = some (.iadd, 1, []) := by decide +kernel
set_option maxRecDepth 100000 in
theorem la_1070 : dm_at 329 1070 = some (.iaload, 1, []) := by decide +kernel
set_option maxRecDepth 100000 in
theorem la_1071 : dm_at 329 1071 = some (.aload_n 0, 1, []) := by decide +kernel
set_option maxRecDepth 100000 in
theorem la_1072 : dm_at 329 1072 = some (.iload 4, 2, []) := by decide +kernel
set_option maxRecDepth 100000 in
theorem la_1074 : dm_at 329 1074 = some (.iconst 2, 1, []) := by decide +kernel
set_option maxRecDepth 100000 in
theorem la_1075 : dm_at 329 1075 = some (.iadd, 1, []) := by decide +kernel
set_option maxRecDepth 100000 in
theorem la_1076 : dm_at 329 1076 = some (.iaload, 1, []) := by decide +kernel
set_option maxRecDepth 100000 in
theorem la_1077 : dm_at 329 1077 = some (.aload_n 0, 1, []) := by decide +kernel
set_option maxRecDepth 100000 in
theorem la_1078 : dm_at 329 1078 = some (.iload 4, 2, []) := by decide +kernel
set_option maxRecDepth 100000 in
theorem la_1080 : dm_at 329 1080 = some (.iconst 3, 1, []) := by decide +kernel
set_option maxRecDepth 100000 in
theorem la_1081 : dm_at 329 1081 = some (.iadd, 1, []) := by decide +kernel
set_option maxRecDepth 100000 in
theorem la_1082 : dm_at 329 1082 = some (.iaload, 1, []) := by decide +kernel
set_option maxRecDepth 100000 in
theorem la_1083 : dm_at 329 1083 = some (.aload_n 3, 1, []) := by decide +kernel
set_option maxRecDepth 100000 in
theorem la_1084 : dm_at 329 1084 = some (.invokestatic 232, 3, [299, 0, 4031, 4032, 1000, 4033]) := by decide +kernel
set_option maxRecDepth 100000 in
theorem la_1087 : dm_at 329 1087 = some (.istore 5, 2, []) := by decide +kernel
set_option maxRecDepth 100000 in
theorem la_1089 : dm_at 329 1089 = some (.aload_n 2, 1, []) := by decide +kernel
set_option maxRecDepth 100000 in
theorem la_1090 : dm_at 329 1090 = some (.aload_n 0, 1, []) := by decide +kernel
set_option maxRecDepth 100000 in
theorem la_1091 : dm_at 329 1091 = some (.iload 4, 2, []) := by decide +kernel
set_option maxRecDepth 100000 in
theorem la_1093 : dm_at 329 1093 = some (.iconst 1, 1, []) := by decide +kernel
set_option maxRecDepth 100000 in
theorem la_1094 : dm_at 329 1094 = some (.iadd, 1, []) := by decide +kernel
set_option maxRecDepth 100000 in
theorem la_1095 : dm_at 329 1095 = some (.iaload, 1, []) := by decide +kernel
set_option maxRecDepth 100000 in
theorem la_1096 : dm_at 329 1096 = some (.aload_n 0, 1, []) := by decide +kernel
set_option maxRecDepth 100000 in
theorem la_1097 : dm_at 329 1097 = some (.iload 4, 2, []) := by decide +kernel
set_option maxRecDepth 100000 in
theorem la_1099 : dm_at 329 1099 = some (.iconst 2, 1, []) := by decide +kernel
set_option maxRecDepth 100000 in
theorem la_1100 : dm_at 329 1100 = some (.iadd, 1, []) := by decide +kernel
set_option maxRecDepth 100000 in
theorem la_1101 : dm_at 329 1101 = some (.iaload, 1, []) := by decide +kernel
set_option maxRecDepth 100000 in
theorem la_1102 : dm_at 329 1102 = some (.aload_n 0, 1, []) := by decide +kernel
set_option maxRecDepth 100000 in
theorem la_1103 : dm_at 329 1103 = some (.iload 4, 2, []) := by decide +kernel
set_option maxRecDepth 100000 in
theorem la_1105 : dm_at 329 1105 = some (.iconst 3, 1, []) := by decide +kernel
set_option maxRecDepth 100000 in
theorem la_1106 : dm_at 329 1106 = some (.iadd, 1, []) := by decide +kernel
set_option maxRecDepth 100000 in
theorem la_1107 : dm_at 329 1107 = some (.iaload, 1, []) := by decide +kernel
set_option maxRecDepth 100000 in
theorem la_1108 : dm_at 329 1108 = some (.invokevirtual 234, 3, [161, 1, 6207, 6208, 6209, 1008, 6210]) := by decide +kernel
set_option maxRecDepth 100000 in
theorem la_1111 : dm_at 329 1111 = some (.istore 6, 2, []) := by decide +kernel
set_option maxRecDepth 100000 in
theorem la_1113 : dm_at 329 1113 = some (.goto 1267, 3, [2380]) := by decide +kernel
set_option maxRecDepth 100000 in
theorem la_1116 : dm_at 329 1116 = some (.aload_n 1, 1, []) := by decide +kernel
set_option maxRecDepth 100000 in
theorem la_1117 : dm_at 329 1117 = some (.aload_n 0, 1, []) := by decide +kernel
set_option maxRecDepth 100000 in
theorem la_1118 : dm_at 329 1118 = some (.iload 4, 2, []) := by decide +kernel
set_option maxRecDepth 100000 in
theorem la_1120 : dm_at 329 1120 = some (.iconst 1, 1, []) := by decide +kernel
set_option maxRecDepth 100000 in
theorem la_1121 : dm_at 329 1121 = some (.iadd, 1, []) := by decide +kernel
set_option maxRecDepth 100000 in
theorem la_1122 : dm_at 329 1122 = some (.iaload, 1, []) := by decide +kernel
set_option maxRecDepth 100000 in
theorem la_1123 : dm_at 329 1123 = some (.aload_n 0, 1, []) := by decide +kernel
set_option maxRecDepth 100000 in
theorem la_1124 : dm_at 329 1124 = some (.iload 4, 2, []) := by decide +kernel
set_option maxRecDepth 100000 in
theorem la_1126 : dm_at 329 1126 = some (.iconst 2, 1, []) := by decide +kernel
set_option maxRecDepth 100000 in
theorem la_1127 : dm_at 329 1127 = some (.iadd, 1, []) := by decide +kernel
set_option maxRecDepth 100000 in
theorem la_1128 : dm_at 329 1128 = some (.iaload, 1, []) := by decide +kernel
set_option maxRecDepth 100000 in
theorem la_1129 : dm_at 329 1129 = some (.aload_n 3, 1, []) := by decide +kernel
set_option maxRecDepth 100000 in
theorem la_1130 : dm_at 329 1130 = some (.invokestatic 235, 3, [300, 0, 4038, 4039, 1000, 4040]) := by decide +kernel
set_option maxRecDepth 100000 in
theorem la_1133 : dm_at 329 1133 = some (.istore 5, 2, []) := by decide +kernel
set_option maxRecDepth 100000 in
theorem la_1135 : dm_at 329 1135 = some (.aload_n 2, 1, []) := by decide +kernel
set_option maxRecDepth 100000 in
theorem la_1136 : dm_at 329 1136 = some (.aload_n 0, 1, []) := by decide +kernel
set_option maxRecDepth 100000 in
theorem la_1137 : dm_at 329 1137 = some (.iload 4, 2, []) := by decide +kernel
set_option maxRecDepth 100000 in
theorem la_1139 : dm_at 329 1139 = some (.iconst 1, 1, []) := by decide +kernel
set_option maxRecDepth 100000 in
theorem la_1140 : dm_at 329 1140 = some (.iadd, 1, []) := by decide +kernel
set_option maxRecDepth 100000 in
theorem la_1141 : dm_at 329 1141 = some (.iaload, 1, []) := by decide +kernel
set_option maxRecDepth 100000 in
theorem la_1142 : dm_at 329 1142 = some (.aload_n 0, 1, []) := by decide +kernel
set_option maxRecDepth 100000 in
theorem la_1143 : dm_at 329 1143 = some (.iload 4, 2, []) := by decide +kernel
set_option maxRecDepth 100000 in
theorem la_1145 : dm_at 329 1145 = some (.iconst 2, 1, []) := by decide +kernel
set_option maxRecDepth 100000 in
theorem la_1146 : dm_at 329 1146 = some (.iadd, 1, []) := by decide +kernel
set_option maxRecDepth 100000 in
theorem la_1147 : dm_at 329 1147 = some (.iaload, 1, []) := by decide +kernel
set_option maxRecDepth 100000 in
theorem la_1148 : dm_at 329 1148 = some (.invokevirtual 237, 3, [162, 1, 6211, 6212, 6213, 1008, 6214]) := by decide +kernel
set_option maxRecDepth 100000 in
theorem la_1151 : dm_at 329 1151 = some (.istore 6, 2, []) := by decide +kernel
set_option maxRecDepth 100000 in
theorem la_1153 : dm_at 329 1153 = some (.goto 1227, 3, [2380]) := by decide +kernel
set_option maxRecDepth 100000 in
theorem la_1156 : dm_at 329 1156 = some (.aload_n 1, 1, []) := by decide +kernel
set_option maxRecDepth 100000 in
theorem la_1157 : dm_at 329 1157 = some (.aload_n 0, 1, []) := by decide +kernel
set_option maxRecDepth 100000 in
theorem la_1158 : dm_at 329 1158 = some (.iload 4, 2, []) := by decide +kernel
set_option maxRecDepth 100000 in
theorem la_1160 : dm_at 329 1160 = some (.iconst 1, 1, []) := by decide +kernel
set_option maxRecDepth 100000 in
theorem la_1161 : dm_at 329 1161 = some (.iadd, 1, []) := by decide +kernel
set_option maxRecDepth 100000 in
theorem la_1162 : dm_at 329 1162 = some (.iaload, 1, []) := by decide +kernel
set_option maxRecDepth 100000 in
theorem la_1163 : dm_at 329 1163 = some (.ifCond .eq 7, 3, [1170]) := by decide +kernel
set_option maxRecDepth 100000 in
theorem la_1166 : dm_at 329 1166 = some (.iconst 1, 1, []) := by decide +kernel
set_option maxRecDepth 100000 in
theorem la_1167 : dm_at 329 1167 = some (.goto 4, 3, [1171]) := by decide +kernel
set_option maxRecDepth 100000 in
theorem la_1170 : dm_at 329 1170 = some (.iconst 0, 1, []) := by decide +kernel
set_option maxRecDepth 100000 in
theorem la_1171 : dm_at 329 1171 = some (.aload_n 3, 1, []) := by decide +kernel
set_option maxRecDepth 100000 in
theorem la_1172 : dm_at 329 1172 = some (.invokestatic 238, 3, [301, 0, 4045, 4046, 1000, 4047]) := by decide +kernel
set_option maxRecDepth 100000 in
theorem la_1175 : dm_at 329 1175 = some (.istore 5, 2, []) := by decide +kernel
set_option maxRecDepth 100000 in
theorem la_1177 : dm_at 329 1177 = some (.aload_n 2, 1, []) := by decide +kernel
set_option maxRecDepth 100000 in
theorem la_1178 : dm_at 329 1178 = some (.aload_n 0, 1, []) := by decide +kernel
set_option maxRecDepth 100000 in
theorem la_1179 : dm_at 329 1179 = some (.iload 4, 2, []) := by decide +kernel
set_option maxRecDepth 100000 in
theorem la_1181 : dm_at 329 1181 = some (.iconst 1, 1, []) := by decide +kernel
set_option maxRecDepth 100000 in
theorem la_1182 : dm_at 329 1182 = some (.iadd, 1, []) := by decide +kernel
set_option maxRecDepth 100000 in
theorem la_1183 : dm_at 329 1183 = some (.iaload, 1, []) := by decide +kernel
set_option maxRecDepth 100000 in
theorem la_1184 : dm_at 329 1184 = some (.ifCond .eq 7, 3, [1191]) := by decide +kernel
set_option maxRecDepth 100000 in
theorem la_1187 : dm_at 329 1187 = some (.iconst 1, 1, []) := by decide +kernel
set_option maxRecDepth 100000 in
theorem la_1188 : dm_at 329 1188 = some (.goto 4, 3, [1192]) := by decide +kernel
set_option maxRecDepth 100000 in
theorem la_1191 : dm_at 329 1191 = some (.iconst 0, 1, []) := by decide +kernel
set_option maxRecDepth 100000 in
theorem la_1192 : dm_at 329 1192 = some (.invokevirtual 241, 3, [163, 1, 6215, 6216, 6217, 1008, 6218]) := by decide +kernel
set_option maxRecDepth 100000 in
theorem la_1195 : dm_at 329 1195 = some (.istore 6, 2, []) := by decide +kernel
set_option maxRecDepth 100000 in
theorem la_1197 : dm_at 329 1197 = some (.goto 1183, 3, [2380]) := by decide +kernel
set_option maxRecDepth 100000 in
theorem la_1200 : dm_at 329 1200 = some (.aload_n 1, 1, []) := by decide +kernel
set_option maxRecDepth 100000 in
theorem la_1201 : dm_at 329 1201 = some (.aload_n 3, 1, []) := by decide +kernel
set_option maxRecDepth 100000 in
theorem la_1202 : dm_at 329 1202 = some (.invokestatic 242, 3, [302, 0, 4052, 4053, 1000, 4054]) := by decide +kernel
set_option maxRecDepth 100000 in
theorem la_1205 : dm_at 329 1205 = some (.istore 5, 2, []) := by decide +kernel
set_option maxRecDepth 100000 in
theorem la_1207 : dm_at 329 1207 = some (.aload_n 2, 1, []) := by decide +kernel
set_option maxRecDepth 100000 in
theorem la_1208 : dm_at 329 1208 = some (.invokevirtual 245, 3, [164, 1, 6223, 6224, 6225, 1008, 6226]) := by decide +kernel
set_option maxRecDepth 100000 in
theorem la_1211 : dm_at 329 1211 = some (.istore 6, 2, []) := by decide +kernel
set_option maxRecDepth 100000 in
theorem la_1213 : dm_at 329 1213 = some (.goto 1167, 3, [2380]) := by decide +kernel
set_option maxRecDepth 100000 in
theorem la_1216 : dm_at 329 1216 = some (.aload_n 1, 1, []) := by decide +kernel
set_option maxRecDepth 100000 in
theorem la_1217 : dm_at 329 1217 = some (.aload_n 0, 1, []) := by decide +kernel
set_option maxRecDepth 100000 in
theorem la_1218 : dm_at 329 1218 = some (.iload 4, 2, []) := by decide +kernel
set_option maxRecDepth 100000 in
theorem la_1220 : dm_at 329 1220 = some (.iconst 1, 1, []) := by decide +kernel
set_option maxRecDepth 100000 in
theorem la_1221 : dm_at 329 1221 = some (.iadd, 1, []) := by decide +kernel
set_option maxRecDepth 100000 in
theorem la_1222 : dm_at 329 1222 = some (.iaload, 1, []) := by decide +kernel
set_option maxRecDepth 100000 in
theorem la_1223 : dm_at 329 1223 = some (.aload_n 3, 1, []) := by decide +kernel
set_option maxRecDepth 100000 in
theorem la_1224 : dm_at 329 1224 = some (.invokestatic 246, 3, [303, 0, 4059, 4060, 1000, 4061]) := by decide +kernel
set_option maxRecDepth 100000 in
theorem la_1227 : dm_at 329 1227 = some (.istore 5, 2, []) := by decide +kernel
set_option maxRecDepth 100000 in
theorem la_1229 : dm_at 329 1229 = some (.aload_n 2, 1, []) := by decide +kernel
set_option maxRecDepth 100000 in
theorem la_1230 : dm_at 329 1230 = some (.aload_n 0, 1, []) := by decide +kernel
set_option maxRecDepth 100000 in
theorem la_1231 : dm_at 329 1231 = some (.iload 4, 2, []) := by decide +kernel
set_option maxRecDepth 100000 in
theorem la_1233 : dm_at 329 1233 = some (.iconst 1, 1, []) := by decide +kernel
set_option maxRecDepth 100000 in
theorem la_1234 : dm_at 329 1234 = some (.iadd, 1, []) := by decide +kernel
set_option maxRecDepth 100000 in
theorem la_1235 : dm_at 329 1235 = some (.iaload, 1, []) := by decide +kernel
set_option maxRecDepth 100000 in
theorem la_1236 : dm_at 329 1236 = some (.invokevirtual 248, 3, [166, 1, 6227, 6228, 6229, 1008, 6230]) := by decide +kernel
set_option maxRecDepth 100000 in
theorem la_1239 : dm_at 329 1239 = some (.istore 6, 2, []) := by decide +kernel
set_option maxRecDepth 100000 in
theorem la_1241 : dm_at 329 1241 = some (.goto 1139, 3, [2380]) := by decide +kernel
set_option maxRecDepth 100000 in
theorem la_1244 : dm_at 329 1244 = some (.aload_n 1, 1, []) := by decide +kernel
set_option maxRecDepth 100000 in
theorem la_1245 : dm_at 329 1245 = some (.aload_n 3, 1, []) := by decide +kernel
set_option maxRecDepth 100000 in
theorem la_1246 : dm_at 329 1246 = some (.invokestatic 249, 3, [304, 0, 4063, 4064, 1000, 4065]) := by decide +kernel
set_option maxRecDepth 100000 in
theorem la_1249 : dm_at 329 1249 = some (.istore 5, 2, []) := by decide +kernel
set_option maxRecDepth 100000 in
theorem la_1251 : dm_at 329 1251 = some (.aload_n 2, 1, []) := by decide +kernel
set_option maxRecDepth 100000 in
theorem la_1252 : dm_at 329 1252 = some (.invokevirtual 251, 3, [167, 1, 6235, 6236, 6237, 1008, 6238]) := by decide +kernel
set_option maxRecDepth 100000 in
theorem la_1255 : dm_at 329 1255 = some (.astore 6, 2, []) := by decide +kernel
set_option maxRecDepth 100000 in
theorem la_1257 : dm_at 329 1257 = some (.goto 1123, 3, [2380]) := by decide +kernel
set_option maxRecDepth 100000 in
theorem la_1260 : dm_at 329 1260 = some (.aload_n 1, 1, []) := by decide +kernel
set_option maxRecDepth 100000 in
theorem la_1261 : dm_at 329 1261 = some (.aload_n 0, 1, []) := by decide +kernel
set_option maxRecDepth 100000 in
theorem la_1262 : dm_at 329 1262 = some (.iload 4, 2, []) := by decide +kernel
set_option maxRecDepth 100000 in
theorem la_1264 : dm_at 329 1264 = some (.iconst 1, 1, []) := by decide +kernel
set_option maxRecDepth 100000 in
theorem la_1265 : dm_at 329 1265 = some (.iadd, 1, []) := by decide +kernel
set_option maxRecDepth 100000 in
theorem la_1266 : dm_at 329 1266 = some (.iaload, 1, []) := by decide +kernel
set_option maxRecDepth 100000 in
theorem la_1267 : dm_at 329 1267 = some (.aload_n 3, 1, []) := by decide +kernel
set_option maxRecDepth 100000 in
theorem la_1268 : dm_at 329 1268 = some (.invokestatic 252, 3, [305, 0, 5098, 5099, 1000, 5100]) := by decide +kernel
set_option maxRecDepth 100000 in
theorem la_1271 : dm_at 329 1271 = some (.istore 5, 2, []) := by decide +kernel
set_option maxRecDepth 100000 in
theorem la_1273 : dm_at 329 1273 = some (.aload_n 2, 1, []) := by decide +kernel
set_option maxRecDepth 100000 in
theorem la_1274 : dm_at 329 1274 = some (.aload_n 0, 1, []) := by decide +kernel
set_option maxRecDepth 100000 in
theorem la_1275 : dm_at 329 1275 = some (.iload 4, 2, []) := by decide +kernel
set_option maxRecDepth 100000 in
theorem la_1277 : dm_at 329 1277 = some (.iconst 1, 1, []) := by decide +kernel
set_option maxRecDepth 100000 in
theorem la_1278 : dm_at 329 1278 = some (.iadd, 1, []) := by decide +kernel
set_option maxRecDepth 100000 in
theorem la_1279 : dm_at 329 1279 = some (.iaload, 1, []) := by decide +kernel
set_option maxRecDepth 100000 in
theorem la_1280 : dm_at 329 1280 = some (.invokevirtual 254, 3, [168, 1, 7010, 7011, 7012, 1008, 7013]) := by decide +kernel
set_option maxRecDepth 100000 in
theorem la_1283 : dm_at 329 1283 = some (.istore 6, 2, []) := by decide +kernel
set_option maxRecDepth 100000 in
theorem la_1285 : dm_at 329 1285 = some (.goto 1095, 3, [2380]) := by decide +kernel
set_option maxRecDepth 100000 in
theorem la_1288 : dm_at 329 1288 = some (.aload_n 1, 1, []) := by decide +kernel
set_option maxRecDepth 100000 in
theorem la_1289 : dm_at 329 1289 = some (.aload_n 3, 1, []) := by decide +kernel
set_option maxRecDepth 100000 in
theorem la_1290 : dm_at 329 1290 = some (.invokestatic 255, 3, [306, 0, 5106, 5107, 1000, 5108]) := by decide +kernel
set_option maxRecDepth 100000 in
theorem la_1293 : dm_at 329 1293 = some (.istore 5, 2, []) := by decide +kernel
set_option maxRecDepth 100000 in
theorem la_1295 : dm_at 329 1295 = some (.aload_n 2, 1, []) := by decide +kernel
set_option maxRecDepth 100000 in
theorem la_1296 : dm_at 329 1296 = some (.invokevirtual 257, 3, [169, 1, 7014, 7015, 7016, 1008, 7017]) := by decide +kernel
set_option maxRecDepth 100000 in
theorem la_1299 : dm_at 329 1299 = some (.istore 6, 2, []) := by decide +kernel
set_option maxRecDepth 100000 in
theorem la_1301 : dm_at 329 1301 = some (.goto 1079, 3, [2380]) := by decide +kernel
set_option maxRecDepth 100000 in
theorem la_1304 : dm_at 329 1304 = some (.aload_n 1, 1, []) := by decide +kernel
set_option maxRecDepth 100000 in
theorem la_1305 : dm_at 329 1305 = some (.aload_n 0, 1, []) := by decide +kernel
set_option maxRecDepth 100000 in
theorem la_1306 : dm_at 329 1306 = some (.iload 4, 2, []) := by decide +kernel
set_option maxRecDepth 100000 in
theorem la_1308 : dm_at 329 1308 = some (.iconst 1, 1, []) := by decide +kernel
set_option maxRecDepth 100000 in
theorem la_1309 : dm_at 329 1309 = some (.iadd, 1, []) := by decide +kernel
set_option maxRecDepth 100000 in
theorem la_1310 : dm_at 329 1310 = some (.iaload, 1, []) := by decide +kernel
set_option maxRecDepth 100000 in
theorem la_1311 : dm_at 329 1311 = some (.aload_n 3, 1, []) := by decide +kernel
set_option maxRecDepth 100000 in
theorem la_1312 : dm_at 329 1312 = some (.invokestatic 258, 3, [307, 0, 5118, 5119, 1000, 5120]) := by decide +kernel
set_option maxRecDepth 100000 in
theorem la_1315 : dm_at 329 1315 = some (.istore 5, 2, []) := by decide +kernel
set_option maxRecDepth 100000 in
theorem la_1317 : dm_at 329 1317 = some (.aload_n 2, 1, []) := by decide +kernel
set_option maxRecDepth 100000 in
theorem la_1318 : dm_at 329 1318 = some (.aload_n 0, 1, []) := by decide +kernel
set_option maxRecDepth 100000 in
theorem la_1319 : dm_at 329 1319 = some (.iload 4, 2, []) := by decide +kernel
set_option maxRecDepth 100000 in
theorem la_1321 : dm_at 329 1321 = some (.iconst 1, 1, []) := by decide +kernel
set_option maxRecDepth 100000 in
theorem la_1322 : dm_at 329 1322 = some (.iadd, 1, []) := by decide +kernel
set_option maxRecDepth 100000 in
theorem la_1323 : dm_at 329 1323 = some (.iaload, 1, []) := by decide +kernel
set_option maxRecDepth 100000 in
theorem la_1324 : dm_at 329 1324 = some (.invokevirtual 260, 3, [170, 1, 7025, 7026, 7027, 1008, 7028]) := by decide +kernel
set_option maxRecDepth 100000 in
theorem la_1327 : dm_at 329 1327 = some (.istore 6, 2, []) := by decide +kernel
set_option maxRecDepth 100000 in
theorem la_1329 : dm_at 329 1329 = some (.goto 1051, 3, [2380]) := by decide +kernel
set_option maxRecDepth 100000 in
theorem la_1332 : dm_at 329 1332 = some (.aload_n 1, 1, []) := by decide +kernel
set_option maxRecDepth 100000 in
theorem la_1333 : dm_at 329 1333 = some (.aload_n 3, 1, []) := by decide +kernel
set_option maxRecDepth 100000 in
theorem la_1334 : dm_at 329 1334 = some (.invokestatic 261, 3, [308, 0, 5125, 5126, 1000, 5127]) := by decide +kernel
set_option maxRecDepth 100000 in
theorem la_1337 : dm_at 329 1337 = some (.istore 5, 2, []) := by decide +kernel
set_option maxRecDepth 100000 in
theorem la_1339 : dm_at 329 1339 = some (.aload_n 2, 1, []) := by decide +kernel
set_option maxRecDepth 100000 in
theorem la_1340 : dm_at 329 1340 = some (.invokevirtual 263, 3, [171, 1, 7029, 7030, 7031, 1008, 7032]) := by decide +kernel
set_option maxRecDepth 100000 in
theorem la_1343 : dm_at 329 1343 = some (.istore 6, 2, []) := by decide +kernel
set_option maxRecDepth 100000 in
theorem la_1345 : dm_at 329 1345 = some (.goto 1035, 3, [2380]) := by decide +kernel
set_option maxRecDepth 100000 in
theorem la_1348 : dm_at 329 1348 = some (.aload_n 1, 1, []) := by decide +kernel
set_option maxRecDepth 100000 in
theorem la_1349 : dm_at 329 1349 = some (.aload_n 0, 1, []) := by decide +kernel
set_option maxRecDepth 100000 in
theorem la_1350 : dm_at 329 1350 = some (.iload 4, 2, []) := by decide +kernel
set_option maxRecDepth 100000 in
theorem la_1352 : dm_at 329 1352 = some (.iconst 1, 1, []) := by decide +kernel
set_option maxRecDepth 100000 in
theorem la_1353 : dm_at 329 1353 = some (.iadd, 1, []) := by decide +kernel
set_option maxRecDepth 100000 in
theorem la_1354 : dm_at 329 1354 = some (.iaload, 1, []) := by decide +kernel
set_option maxRecDepth 100000 in
theorem la_1355 : dm_at 329 1355 = some (.aload_n 0, 1, []) := by decide +kernel
set_option maxRecDepth 100000 in
theorem la_1356 : dm_at 329 1356 = some (.iload 4, 2, []) := by decide +kernel
set_option maxRecDepth 100000 in
theorem la_1358 : dm_at 329 1358 = some (.iconst 2, 1, []) := by decide +kernel
set_option maxRecDepth 100000 in
theorem la_1359 : dm_at 329 1359 = some (.iadd, 1, []) := by decide +kernel
set_option maxRecDepth 100000 in
theorem la_1360 : dm_at 329 1360 = some (.iaload, 1, []) := by decide +kernel
set_option maxRecDepth 100000 in
theorem la_1361 : dm_at 329 1361 = some (.aload_n 3, 1, []) := by decide +kernel
set_option maxRecDepth 100000 in
theorem la_1362 : dm_at 329 1362 = some (.invokestatic 264, 3, [309, 0, 5132, 5133, 1000, 5134]) := by decide +kernel
set_option maxRecDepth 100000 in
theorem la_1365 : dm_at 329 1365 = some (.istore 5, 2, []) := by decide +kernel
set_option maxRecDepth 100000 in
theorem la_1367 : dm_at 329 1367 = some (.aload_n 2, 1, []) := by decide +kernel
set_option maxRecDepth 100000 in
theorem la_1368 : dm_at 329 1368 = some (.aload_n 0, 1, []) := by decide +kernel
set_option maxRecDepth 100000 in
theorem la_1369 : dm_at 329 1369 = some (.iload 4, 2, []) := by decide +kernel
set_option maxRecDepth 100000 in
theorem la_1371 : dm_at 329 1371 = some (.iconst 1, 1, []) := by decide +kernel
set_option maxRecDepth 100000 in
theorem la_1372 : dm_at 329 1372 = some (.iadd, 1, []) := by decide +kernel
set_option maxRecDepth 100000 in
theorem la_1373 : dm_at 329 1373 = some (.iaload, 1, []) := by decide +kernel
set_option maxRecDepth 100000 in
theorem la_1374 : dm_at 329 1374 = some (.aload_n 0, 1, []) := by decide +kernel
set_option maxRecDepth 100000 in
theorem la_1375 : dm_at 329 1375 = some (.iload 4, 2, []) := by decide +kernel
set_option maxRecDepth 100000 in
theorem la_1377 : dm_at 329 1377 = some (.iconst 2, 1, []) := by decide +kernel
set_option maxRecDepth 100000 in
theorem la_1378 : dm_at 329 1378 = some (.iadd, 1, []) := by decide +kernel
set_option maxRecDepth 100000 in
theorem la_1379 : dm_at 329 1379 = some (.iaload, 1, []) := by decide +kernel
set_option maxRecDepth 100000 in
theorem la_1380 : dm_at 329 1380 = some (.invokevirtual 266, 3, [173, 1, 7033, 7034, 7035, 1008, 7036]) := by decide +kernel
set_option maxRecDepth 100000 in
theorem la_1383 : dm_at 329 1383 = some (.istore 6, 2, []) := by decide +kernel
set_option maxRecDepth 100000 in
theorem la_1385 : dm_at 329 1385 = some (.goto 995, 3, [2380]) := by decide +kernel
set_option maxRecDepth 100000 in
theorem la_1388 : dm_at 329 1388 = some (.aload_n 1, 1, []) := by decide +kernel
set_option maxRecDepth 100000 in
theorem la_1389 : dm_at 329 1389 = some (.aload_n 0, 1, []) := by decide +kernel
set_option maxRecDepth 100000 in
theorem la_1390 : dm_at 329 1390 = some (.iload 4, 2, []) := by decide +kernel
set_option maxRecDepth 100000 in
theorem la_1392 : dm_at 329 1392 = some (.iconst 1, 1, []) := by decide +kernel
set_option maxRecDepth 100000 in
theorem la_1393 : dm_at 329 1393 = some (.iadd, 1, []) := by decide +kernel
set_option maxRecDepth 100000 in
theorem la_1394 : dm_at 329 1394 = some (.iaload, 1, []) := by decide +kernel
set_option maxRecDepth 100000 in
theorem la_1395 : dm_at 329 1395 = some (.aload_n 0, 1, []) := by decide +kernel
set_option maxRecDepth 100000 in
theorem la_1396 : dm_at 329 1396 = some (.iload 4, 2, []) := by decide +kernel
set_option maxRecDepth 100000 in
theorem la_1398 : dm_at 329 1398 = some (.iconst 2, 1, []) := by decide +kernel
set_option maxRecDepth 100000 in
theorem la_1399 : dm_at 329 1399 = some (.iadd, 1, []) := by decide +kernel
set_option maxRecDepth 100000 in
theorem la_1400 : dm_at 329 1400 = some (.iaload, 1, []) := by decide +kernel
set_option maxRecDepth 100000 in
theorem la_1401 : dm_at 329 1401 = some (.aload_n 0, 1, []) := by decide +kernel
set_option maxRecDepth 100000 in
theorem la_1402 : dm_at 329 1402 = some (.iload 4, 2, []) := by decide +kernel
set_option maxRecDepth 100000 in
theorem la_1404 : dm_at 329 1404 = some (.iconst 3, 1, []) := by decide +kernel
set_option maxRecDepth 100000 in
theorem la_1405 : dm_at 329 1405 = some (.iadd, 1, []) := by decide +kernel
set_option maxRecDepth 100000 in
theorem la_1406 : dm_at 329 1406 = some (.iaload, 1, []) := by decide +kernel
set_option maxRecDepth 100000 in
theorem la_1407 : dm_at 329 1407 = some (.aload_n 0, 1, []) := by decide +kernel
set_option maxRecDepth 100000 in
theorem la_1408 : dm_at 329 1408 = some (.iload 4, 2, []) := by decide +kernel
set_option maxRecDepth 100000 in
theorem la_1410 : dm_at 329 1410 = some (.iconst 4, 1, []) := by decide +kernel
set_option maxRecDepth 100000 in
theorem la_1411 : dm_at 329 1411 = some (.iadd, 1, []) := by decide +kernel
set_option maxRecDepth 100000 in
theorem la_1412 : dm_at 329 1412 = some (.iaload, 1, []) := by decide +kernel
set_option maxRecDepth 100000 in
theorem la_1413 : dm_at 329 1413 = some (.aload_n 3, 1, []) := by decide +kernel
set_option maxRecDepth 100000 in
theorem la_1414 : dm_at 329 1414 = some (.invokestatic 267, 3, [310, 0, 5136, 5137, 1000, 5138]) := by decide +kernel
set_option maxRecDepth 100000 in
theorem la_1417 : dm_at 329 1417 = some (.istore 5, 2, []) := by decide +kernel
set_option maxRecDepth 100000 in
theorem la_1419 : dm_at 329 1419 = some (.aload_n 2, 1, []) := by decide +kernel
set_option maxRecDepth 100000 in
theorem la_1420 : dm_at 329 1420 = some (.aload_n 0, 1, []) := by decide +kernel
set_option maxRecDepth 100000 in
theorem la_1421 : dm_at 329 1421 = some (.iload 4, 2, []) := by decide +kernel
set_option maxRecDepth 100000 in
theorem la_1423 : dm_at 329 1423 = some (.iconst 1, 1, []) := by decide +kernel
set_option maxRecDepth 100000 in
theorem la_1424 : dm_at 329 1424 = some (.iadd, 1, []) := by decide +kernel
set_option maxRecDepth 100000 in
theorem la_1425 : dm_at 329 1425 = some (.iaload, 1, []) := by decide +kernel
set_option maxRecDepth 100000 in
theorem la_1426 : dm_at 329 1426 = some (.aload_n 0, 1, []) := by decide +kernel
set_option maxRecDepth 100000 in
theorem la_1427 : dm_at 329 1427 = some (.iload 4, 2, []) := by decide +kernel
set_option maxRecDepth 100000 in
theorem la_1429 : dm_at 329 1429 = some (.iconst 2, 1, []) := by decide +kernel
set_option maxRecDepth 100000 in
theorem la_1430 : dm_at 329 1430 = some (.iadd, 1, []) := by decide +kernel
set_option maxRecDepth 100000 in
theorem la_1431 : dm_at 329 1431 = some (.iaload, 1, []) := by decide +kernel
set_option maxRecDepth 100000 in
theorem la_1432 : dm_at 329 1432 = some (.aload_n 0, 1, []) := by decide +kernel
set_option maxRecDepth 100000 in
theorem la_1433 : dm_at 329 1433 = some (.iload 4, 2, []) := by decide +kernel
set_option maxRecDepth 100000 in
theorem la_1435 : dm_at 329 1435 = some (.iconst 3, 1, []) := by decide +kernel
set_option maxRecDepth 100000 in
theorem la_1436 : dm_at 329 1436 = some (.iadd, 1, []) := by decide +kernel
set_option maxRecDepth 100000 in
theorem la_1437 : dm_at 329 1437 = some (.iaload, 1, []) := by decide +kernel
set_option maxRecDepth 100000 in
theorem la_1438 : dm_at 329 1438 = some (.aload_n 0, 1, []) := by decide +kernel
set_option maxRecDepth 100000 in
theorem la_1439 : dm_at 329 1439 = some (.iload 4, 2, []) := by decide +kernel
set_option maxRecDepth 100000 in
theorem la_1441 : dm_at 329 1441 = some (.iconst 4, 1, []) := by decide +kernel
set_option maxRecDepth 100000 in
theorem la_1442 : dm_at 329 1442 = some (.iadd, 1, []) := by decide +kernel
set_option maxRecDepth 100000 in
theorem la_1443 : dm_at 329 1443 = some (.iaload, 1, []) := by decide +kernel
set_option maxRecDepth 100000 in
theorem la_1444 : dm_at 329 1444 = some (.invokevirtual 269, 3, [174, 1, 7041, 7042, 7043, 1008, 7044]) := by decide +kernel
set_option maxRecDepth 100000 in
theorem la_1447 : dm_at 329 1447 = some (.istore 6, 2, []) := by decide +kernel
set_option maxRecDepth 100000 in
theorem la_1449 : dm_at 329 1449 = some (.goto 931, 3, [2380]) := by decide +kernel
set_option maxRecDepth 100000 in
theorem la_1452 : dm_at 329 1452 = some (.aload_n 1, 1, []) := by decide +kernel
set_option maxRecDepth 100000 in
theorem la_1453 : dm_at 329 1453 = some (.aload_n 0, 1, []) := by decide +kernel
set_option maxRecDepth 100000 in
theorem la_1454 : dm_at 329 1454 = some (.iload 4, 2, []) := by decide +kernel
set_option maxRecDepth 100000 in
theorem la_1456 : dm_at 329 1456 = some (.iconst 1, 1, []) := by decide +kernel
set_option maxRecDepth 100000 in
theorem la_1457 : dm_at 329 1457 = some (.iadd, 1, []) := by decide +kernel
set_option maxRecDepth 100000 in
theorem la_1458 : dm_at 329 1458 = some (.iaload, 1, []) := by decide +kernel
set_option maxRecDepth 100000 in
theorem la_1459 : dm_at 329 1459 = some (.aload_n 0, 1, []) := by decide +kernel
set_option maxRecDepth 100000 in
theorem la_1460 : dm_at 329 1460 = some (.iload 4, 2, []) := by decide +kernel
set_option maxRecDepth 100000 in
theorem la_1462 : dm_at 329 1462 = some (.iconst 2, 1, []) := by decide +kernel
set_option maxRecDepth 100000 in
theorem la_1463 : dm_at 329 1463 = some (.iadd, 1, []) := by decide +kernel
set_option maxRecDepth 100000 in
theorem la_1464 : dm_at 329 1464 = some (.iaload, 1, []) := by decide +kernel
set_option maxRecDepth 100000 in
theorem la_1465 : dm_at 329 1465 = some (.aload_n 0, 1, []) := by decide +kernel
set_option maxRecDepth 100000 in
theorem la_1466 : dm_at 329 1466 = some (.iload 4, 2, []) := by decide +kernel
set_option maxRecDepth 100000 in
theorem la_1468 : dm_at 329 1468 = some (.iconst 3, 1, []) := by decide +kernel
set_option maxRecDepth 100000 in
theorem la_1469 : dm_at 329 1469 = some (.iadd, 1, []) := by decide +kernel
set_option maxRecDepth 100000 in
theorem la_1470 : dm_at 329 1470 = some (.iaload, 1, []) := by decide +kernel
set_option maxRecDepth 100000 in
theorem la_1471 : dm_at 329 1471 = some (.aload_n 3, 1, []) := by decide +kernel
set_option maxRecDepth 100000 in
theorem la_1472 : dm_at 329 1472 = some (.invokestatic 270, 3, [311, 0, 5143, 5144, 1000, 5145]) := by decide +kernel
set_option maxRecDepth 100000 in
theorem la_1475 : dm_at 329 1475 = some (.istore 5, 2, []) := by decide +kernel
set_option maxRecDepth 100000 in
theorem la_1477 : dm_at 329 1477 = some (.aload_n 2, 1, []) := by decide +kernel
set_option maxRecDepth 100000 in
theorem la_1478 : dm_at 329 1478 = some (.aload_n 0, 1, []) := by decide +kernel
set_option maxRecDepth 100000 in
theorem la_1479 : dm_at 329 1479 = some (.iload 4, 2, []) := by decide +kernel
set_option maxRecDepth 100000 in
theorem la_1481 : dm_at 329 1481 = some (.iconst 1, 1, []) := by decide +kernel
set_option maxRecDepth 100000 in
theorem la_1482 : dm_at 329 1482 = some (.iadd, 1, []) := by decide +kernel
set_option maxRecDepth 100000 in
theorem la_1483 : dm_at 329 1483 = some (.iaload, 1, []) := by decide +kernel
set_option maxRecDepth 100000 in
theorem la_1484 : dm_at 329 1484 = some (.aload_n 0, 1, []) := by decide +kernel
set_option maxRecDepth 100000 in
theorem la_1485 : dm_at 329 1485 = some (.iload 4, 2, []) := by decide +kernel
set_option maxRecDepth 100000 in
theorem la_1487 : dm_at 329 1487 = some (.iconst 2, 1, []) := by decide +kernel
set_option maxRecDepth 100000 in
theorem la_1488 : dm_at 329 1488 = some (.iadd, 1, []) := by decide +kernel
set_option maxRecDepth 100000 in
theorem la_1489 : dm_at 329 1489 = some (.iaload, 1, []) := by decide +kernel
set_option maxRecDepth 100000 in
theorem la_1490 : dm_at 329 1490 = some (.aload_n 0, 1, []) := by decide +kernel
set_option maxRecDepth 100000 in
theorem la_1491 : dm_at 329 1491 = some (.iload 4, 2, []) := by decide +kernel
set_option maxRecDepth 100000 in
theorem la_1493 : dm_at 329 1493 = some (.iconst 3, 1, []) := by decide +kernel
set_option maxRecDepth 100000 in
theorem la_1494 : dm_at 329 1494 = some (.iadd, 1, []) := by decide +kernel
set_option maxRecDepth 100000 in
theorem la_1495 : dm_at 329 1495 = some (.iaload, 1, []) := by decide +kernel
set_option maxRecDepth 100000 in
theorem la_1496 : dm_at 329 1496 = some (.invokevirtual 272, 3, [175, 1, 7045, 7046, 7047, 1008, 7048]) := by decide +kernel
set_option maxRecDepth 100000 in
theorem la_1499 : dm_at 329 1499 = some (.istore 6, 2, []) := by decide +kernel
set_option maxRecDepth 100000 in
theorem la_1501 : dm_at 329 1501 = some (.goto 879, 3, [2380]) := by decide +kernel
set_option maxRecDepth 100000 in
theorem la_1504 : dm_at 329 1504 = some (.aload_n 1, 1, []) := by decide +kernel
set_option maxRecDepth 100000 in
theorem la_1505 : dm_at 329 1505 = some (.aload_n 0, 1, []) := by decide +kernel
set_option maxRecDepth 100000 in
theorem la_1506 : dm_at 329 1506 = some (.iload 4, 2, []) := by decide +kernel
set_option maxRecDepth 100000 in
theorem la_1508 : dm_at 329 1508 = some (.iconst 1, 1, []) := by decide +kernel
set_option maxRecDepth 100000 in
theorem la_1509 : dm_at 329 1509 = some (.iadd, 1, []) := by decide +kernel
set_option maxRecDepth 100000 in
theorem la_1510 : dm_at 329 1510 = some (.iaload, 1, []) := by decide +kernel
set_option maxRecDepth 100000 in
theorem la_1511 : dm_at 329 1511 = some (.aload_n 0, 1, []) := by decide +kernel
set_option maxRecDepth 100000 in
theorem la_1512 : dm_at 329 1512 = some (.iload 4, 2, []) := by decide +kernel
set_option maxRecDepth 100000 in
theorem la_1514 : dm_at 329 1514 = some (.iconst 2, 1, []) := by decide +kernel
set_option maxRecDepth 100000 in
theorem la_1515 : dm_at 329 1515 = some (.iadd, 1, []) := by decide +kernel
set_option maxRecDepth 100000 in
theorem la_1516 : dm_at 329 1516 = some (.iaload, 1, []) := by decide +kernel
set_option maxRecDepth 100000 in
theorem la_1517 : dm_at 329 1517 = some (.aload_n 3, 1, []) := by decide +kernel
set_option maxRecDepth 100000 in
theorem la_1518 : dm_at 329 1518 = some (.invokestatic 273, 3, [312, 0, 5150, 5151, 1000, 5152]) := by decide +kernel
set_option maxRecDepth 100000 in
theorem la_1521 : dm_at 329 1521 = some (.istore 5, 2, []) := by decide +kernel
set_option maxRecDepth 100000 in
theorem la_1523 : dm_at 329 1523 = some (.aload_n 2, 1, []) := by decide +kernel
set_option maxRecDepth 100000 in
theorem la_1524 : dm_at 329 1524 = some (.aload_n 0, 1, []) := by decide +kernel
set_option maxRecDepth 100000 in
theorem la_1525 : dm_at 329 1525 = some (.iload 4, 2, []) := by decide +kernel
set_option maxRecDepth 100000 in
theorem la_1527 : dm_at 329 1527 = some (.iconst 1, 1, []) := by decide +kernel
set_option maxRecDepth 100000 in
theorem la_1528 : dm_at 329 1528 = some (.iadd, 1, []) := by decide +kernel
set_option maxRecDepth 100000 in
theorem la_1529 : dm_at 329 1529 = some (.iaload, 1, []) := by decide +kernel
set_option maxRecDepth 100000 in
theorem la_1530 : dm_at 329 1530 = some (.aload_n 0, 1, []) := by decide +kernel
set_option maxRecDepth 100000 in
theorem la_1531 : dm_at 329 1531 = some (.iload 4, 2, []) := by decide +kernel
set_option maxRecDepth 100000 in
theorem la_1533 : dm_at 329 1533 = some (.iconst 2, 1, []) := by decide +kernel
set_option maxRecDepth 100000 in
theorem la_1534 : dm_at 329 1534 = some (.iadd, 1, []) := by decide +kernel
set_option maxRecDepth 100000 in
theorem la_1535 : dm_at 329 1535 = some (.iaload, 1, []) := by decide +kernel
set_option maxRecDepth 100000 in
theorem la_1536 : dm_at 329 1536 = some (.invokevirtual 275, 3, [176, 1, 7049, 7050, 7051, 1008, 7052]) := by decide +kernel
set_option maxRecDepth 100000 in
theorem la_1539 : dm_at 329 1539 = some (.istore 6, 2, []) := by decide +kernel
set_option maxRecDepth 100000 in
theorem la_1541 : dm_at 329 1541 = some (.goto 839, 3, [2380]) := by decide +kernel
set_option maxRecDepth 100000 in
theorem la_1544 : dm_at 329 1544 = some (.aload_n 1, 1, []) := by decide +kernel
set_option maxRecDepth 100000 in
theorem la_1545 : dm_at 329 1545 = some (.aload_n 0, 1, []) := by decide +kernel
set_option maxRecDepth 100000 in
theorem la_1546 : dm_at 329 1546 = some (.iload 4, 2, []) := by decide +kernel
set_option maxRecDepth 100000 in
theorem la_1548 : dm_at 329 1548 = some (.iconst 1, 1, []) := by decide +kernel
set_option maxRecDepth 100000 in
theorem la_1549 : dm_at 329 1549 = some (.iadd, 1, []) := by decide +kernel
set_option maxRecDepth 100000 in
theorem la_1550 : dm_at 329 1550 = some (.iaload, 1, []) := by decide +kernel
set_option maxRecDepth 100000 in
theorem la_1551 : dm_at 329 1551 = some (.aload_n 0, 1, []) := by decide +kernel
set_option maxRecDepth 100000 in
theorem la_1552 : dm_at 329 1552 = some (.iload 4, 2, []) := by decide +kernel
set_option maxRecDepth 100000 in
theorem la_1554 : dm_at 329 1554 = some (.iconst 2, 1, []) := by decide +kernel
set_option maxRecDepth 100000 in
theorem la_1555 : dm_at 329 1555 = some (.iadd, 1, []) := by decide +kernel
set_option maxRecDepth 100000 in
theorem la_1556 : dm_at 329 1556 = some (.iaload, 1, []) := by decide +kernel
set_option maxRecDepth 100000 in
theorem la_1557 : dm_at 329 1557 = some (.aload_n 0, 1, []) := by decide +kernel
set_option maxRecDepth 100000 in
theorem la_1558 : dm_at 329 1558 = some (.iload 4, 2, []) := by decide +kernel
set_option maxRecDepth 100000 in
theorem la_1560 : dm_at 329 1560 = some (.iconst 3, 1, []) := by decide +kernel
set_option maxRecDepth 100000 in
theorem la_1561 : dm_at 329 1561 = some (.iadd, 1, []) := by decide +kernel
set_option maxRecDepth 100000 in
theorem la_1562 : dm_at 329 1562 = some (.iaload, 1, []) := by decide +kernel
set_option maxRecDepth 100000 in
theorem la_1563 : dm_at 329 1563 = some (.aload_n 0, 1, []) := by decide +kernel
set_option maxRecDepth 100000 in
theorem la_1564 : dm_at 329 1564 = some (.iload 4, 2, []) := by decide +kernel
set_option maxRecDepth 100000 in
theorem la_1566 : dm_at 329 1566 = some (.iconst 4, 1, []) := by decide +kernel
set_option maxRecDepth 100000 in
theorem la_1567 : dm_at 329 1567 = some (.iadd, 1, []) := by decide +kernel
set_option maxRecDepth 100000 in
theorem la_1568 : dm_at 329 1568 = some (.iaload, 1, []) := by decide +kernel
set_option maxRecDepth 100000 in
theorem la_1569 : dm_at 329 1569 = some (.aload_n 3, 1, []) := by decide +kernel
set_option maxRecDepth 100000 in
theorem la_1570 : dm_at 329 1570 = some (.invokestatic 276, 3, [313, 0, 5157, 5158, 1000, 5159]) := by decide +kernel
set_option maxRecDepth 100000 in
theorem la_1573 : dm_at 329 1573 = some (.istore 5, 2, []) := by decide +kernel
set_option maxRecDepth 100000 in
theorem la_1575 : dm_at 329 1575 = some (.aload_n 2, 1, []) := by decide +kernel
set_option maxRecDepth 100000 in
theorem la_1576 : dm_at 329 1576 = some (.aload_n 0, 1, []) := by decide +kernel
set_option maxRecDepth 100000 in
theorem la_1577 : dm_at 329 1577 = some (.iload 4, 2, []) := by decide +kernel
set_option maxRecDepth 100000 in
theorem la_1579 : dm_at 329 1579 = some (.iconst 1, 1, []) := by decide +kernel
set_option maxRecDepth 100000 in
theorem la_1580 : dm_at 329 1580 = some (.iadd, 1, []) := by decide +kernel
set_option maxRecDepth 100000 in
theorem la_1581 : dm_at 329 1581 = some (.iaload, 1, []) := by decide +kernel
set_option maxRecDepth 100000 in
theorem la_1582 : dm_at 329 1582 = some (.aload_n 0, 1, []) := by decide +kernel
set_option maxRecDepth 100000 in
theorem la_1583 : dm_at 329 1583 = some (.iload 4, 2, []) := by decide +kernel
set_option maxRecDepth 100000 in
theorem la_1585 : dm_at 329 1585 = some (.iconst 2, 1, []) := by decide +kernel
set_option maxRecDepth 100000 in
theorem la_1586 : dm_at 329 1586 = some (.iadd, 1, []) := by decide +kernel
set_option maxRecDepth 100000 in
theorem la_1587 : dm_at 329 1587 = some (.iaload, 1, []) := by decide +kernel
set_option maxRecDepth 100000 in
theorem la_1588 : dm_at 329 1588 = some (.aload_n 0, 1, []) := by decide +kernel
set_option maxRecDepth 100000 in
theorem la_1589 : dm_at 329 1589 = some (.iload 4, 2, []) := by decide +kernel
set_option maxRecDepth 100000 in
theorem la_1591 : dm_at 329 1591 = some (.iconst 3, 1, []) := by decide +kernel
set_option maxRecDepth 100000 in
theorem la_1592 : dm_at 329 1592 = some (.iadd, 1, []) := by decide +kernel
set_option maxRecDepth 100000 in
theorem la_1593 : dm_at 329 1593 = some (.iaload, 1, []) := by decide +kernel
set_option maxRecDepth 100000 in
theorem la_1594 : dm_at 329 1594 = some (.aload_n 0, 1, []) := by decide +kernel
set_option maxRecDepth 100000 in
theorem la_1595 : dm_at 329 1595 = some (.iload 4, 2, []) := by decide +kernel
set_option maxRecDepth 100000 in
theorem la_1597 : dm_at 329 1597 = some (.iconst 4, 1, []) := by decide +kernel
set_option maxRecDepth 100000 in
theorem la_1598 : dm_at 329 1598 = some (.iadd, 1, []) := by decide +kernel
set_option maxRecDepth 100000 in
theorem la_1599 : dm_at 329 1599 = some (.iaload, 1, []) := by decide +kernel
set_option maxRecDepth 100000 in
theorem la_1600 : dm_at 329 1600 = some (.invokevirtual 278, 3, [179, 1, 7053, 7054, 7055, 1008, 7056]) := by decide +kernel
set_option maxRecDepth 100000 in
theorem la_1603 : dm_at 329 1603 = some (.istore 6, 2, []) := by decide +kernel
set_option maxRecDepth 100000 in
theorem la_1605 : dm_at 329 1605 = some (.goto 775, 3, [2380]) := by decide +kernel
set_option maxRecDepth 100000 in
theorem la_1608 : dm_at 329 1608 = some (.aload_n 1, 1, []) := by decide +kernel
set_option maxRecDepth 100000 in
theorem la_1609 : dm_at 329 1609 = some (.aload_n 0, 1, []) := by decide +kernel
set_option maxRecDepth 100000 in
theorem la_1610 : dm_at 329 1610 = some (.iload 4, 2, []) := by decide +kernel
set_option maxRecDepth 100000 in
theorem la_1612 : dm_at 329 1612 = some (.iconst 1, 1, []) := by decide +kernel
set_option maxRecDepth 100000 in
theorem la_1613 : dm_at 329 1613 = some (.iadd, 1, []) := by decide +kernel
set_option maxRecDepth 100000 in
theorem la_1614 : dm_at 329 1614 = some (.iaload, 1, []) := by decide +kernel
set_option maxRecDepth 100000 in
theorem la_1615 : dm_at 329 1615 = some (.aload_n 0, 1, []) := by decide +kernel
set_option maxRecDepth 100000 in
theorem la_1616 : dm_at 329 1616 = some (.iload 4, 2, []) := by decide +kernel
set_option maxRecDepth 100000 in
theorem la_1618 : dm_at 329 1618 = some (.iconst 2, 1, []) := by decide +kernel
set_option maxRecDepth 100000 in
theorem la_1619 : dm_at 329 1619 = some (.iadd, 1, []) := by decide +kernel
set_option maxRecDepth 100000 in
theorem la_1620 : dm_at 329 1620 = some (.iaload, 1, []) := by decide +kernel
set_option maxRecDepth 100000 in
theorem la_1621 : dm_at 329 1621 = some (.aload_n 0, 1, []) := by decide +kernel
set_option maxRecDepth 100000 in
theorem la_1622 : dm_at 329 1622 = some (.iload 4, 2, []) := by decide +kernel
set_option maxRecDepth 100000 in
theorem la_1624 : dm_at 329 1624 = some (.iconst 3, 1, []) := by decide +kernel
set_option maxRecDepth 100000 in
theorem la_1625 : dm_at 329 1625 = some (.iadd, 1, []) := by decide +kernel
set_option maxRecDepth 100000 in
theorem la_1626 : dm_at 329 1626 = some (.iaload, 1, []) := by decide +kernel
set_option maxRecDepth 100000 in
theorem la_1627 : dm_at 329 1627 = some (.aload_n 0, 1, []) := by decide +kernel
set_option maxRecDepth 100000 in
theorem la_1628 : dm_at 329 1628 = some (.iload 4, 2, []) := by decide +kernel
set_option maxRecDepth 100000 in
theorem la_1630 : dm_at 329 1630 = some (.iconst 4, 1, []) := by decide +kernel
set_option maxRecDepth 100000 in
theorem la_1631 : dm_at 329 1631 = some (.iadd, 1, []) := by decide +kernel
set_option maxRecDepth 100000 in
theorem la_1632 : dm_at 329 1632 = some (.iaload, 1, []) := by decide +kernel
set_option maxRecDepth 100000 in
theorem la_1633 : dm_at 329 1633 = some (.aload_n 3, 1, []) := by decide +kernel
set_option maxRecDepth 100000 in
theorem la_1634 : dm_at 329 1634 = some (.invokestatic 279, 3, [314, 0, 5161, 5162, 1000, 5163]) := by decide +kernel
set_option maxRecDepth 100000 in
theorem la_1637 : dm_at 329 1637 = some (.istore 5, 2, []) := by decide +kernel
set_option maxRecDepth 100000 in
theorem la_1639 : dm_at 329 1639 = some (.aload_n 2, 1, []) := by decide +kernel
set_option maxRecDepth 100000 in
theorem la_1640 : dm_at 329 1640 = some (.aload_n 0, 1, []) := by decide +kernel
set_option maxRecDepth 100000 in
theorem la_1641 : dm_at 329 1641 = some (.iload 4, 2, []) := by decide +kernel
set_option maxRecDepth 100000 in
theorem la_1643 : dm_at 329 1643 = some (.iconst 1, 1, []) := by decide +kernel
set_option maxRecDepth 100000 in
theorem la_1644 : dm_at 329 1644 = some (.iadd, 1, []) := by decide +kernel
set_option maxRecDepth 100000 in
theorem la_1645 : dm_at 329 1645 = some (.iaload, 1, []) := by decide +kernel
set_option maxRecDepth 100000 in
theorem la_1646 : dm_at 329 1646 = some (.aload_n 0, 1, []) := by decide +kernel
