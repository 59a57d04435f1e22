theorem d_Mo_init_891 : decode b_Mo_init 891 = .ok (.bipush 18, 2) := by decide +kernel
theorem d_Mo_init_893 : decode b_Mo_init 893 = .ok (.ldc_w 366, 3) := by decide +kernel
theorem d_Mo_init_896 : decode b_Mo_init 896 = .ok (.aastore, 1) := by decide +kernel
theorem d_Mo_init_897 : decode b_Mo_init 897 = .ok (.dup, 1) := by decide +kernel
theorem d_Mo_init_898 : decode b_Mo_init 898 = .ok (.bipush 19, 2) := by decide +kernel
theorem d_Mo_init_900 : decode b_Mo_init 900 = .ok (.ldc_w 368, 3) := by decide +kernel
theorem d_Mo_init_903 : decode b_Mo_init 903 = .ok (.aastore, 1) := by decide +kernel
theorem d_Mo_init_904 : decode b_Mo_init 904 = .ok (.dup, 1) := by decide +kernel
theorem d_Mo_init_905 : decode b_Mo_init 905 = .ok (.bipush 20, 2) := by decide +kernel
theorem d_Mo_init_907 : decode b_Mo_init 907 = .ok (.ldc_w 370, 3) := by decide +kernel
theorem d_Mo_init_910 : decode b_Mo_init 910 = .ok (.aastore, 1) := by decide +kernel
theorem d_Mo_init_911 : decode b_Mo_init 911 = .ok (.dup, 1) := by decide +kernel
theorem d_Mo_init_912 : decode b_Mo_init 912 = .ok (.bipush 21, 2) := by decide +kernel
theorem d_Mo_init_914 : decode b_Mo_init 914 = .ok (.ldc_w 372, 3) := by decide +kernel
theorem d_Mo_init_917 : decode b_Mo_init 917 = .ok (.aastore, 1) := by decide +kernel
theorem d_Mo_init_918 : decode b_Mo_init 918 = .ok (.putfield 374, 3) := by decide +kernel
theorem d_Mo_init_921 : decode b_Mo_init 921 = .ok (.aload_n 0, 1) := by decide +kernel
theorem d_Mo_init_922 : decode b_Mo_init 922 = .ok (.bipush 7, 2) := by decide +kernel
theorem d_Mo_init_924 : decode b_Mo_init 924 = .ok (.anewarray 277, 3) := by decide +kernel
theorem d_Mo_init_927 : decode b_Mo_init 927 = .ok (.dup, 1) := by decide +kernel
theorem d_Mo_init_928 : decode b_Mo_init 928 = .ok (.iconst 0, 1) := by decide +kernel
theorem d_Mo_init_929 : decode b_Mo_init 929 = .ok (.ldc_w 377, 3) := by decide +kernel
theorem d_Mo_init_932 : decode b_Mo_init 932 = .ok (.aastore, 1) := by decide +kernel
theorem d_Mo_init_933 : decode b_Mo_init 933 = .ok (.dup, 1) := by decide +kernel
theorem d_Mo_init_934 : decode b_Mo_init 934 = .ok (.iconst 1, 1) := by decide +kernel
theorem d_Mo_init_935 : decode b_Mo_init 935 = .ok (.ldc_w 379, 3) := by decide +kernel
theorem d_Mo_init_938 : decode b_Mo_init 938 = .ok (.aastore, 1) := by decide +kernel
theorem d_Mo_init_939 : decode b_Mo_init 939 = .ok (.dup, 1) := by decide +kernel
theorem d_Mo_init_940 : decode b_Mo_init 940 = .ok (.iconst 2, 1) := by decide +kernel
theorem d_Mo_init_941 : decode b_Mo_init 941 = .ok (.ldc_w 381, 3) := by decide +kernel
theorem d_Mo_init_944 : decode b_Mo_init 944 = .ok (.aastore, 1) := by decide +kernel
theorem d_Mo_init_945 : decode b_Mo_init 945 = .ok (.dup, 1) := by decide +kernel
theorem d_Mo_init_946 : decode b_Mo_init 946 = .ok (.iconst 3, 1) := by decide +kernel
theorem d_Mo_init_947 : decode b_Mo_init 947 = .ok (.ldc_w 383, 3) := by decide +kernel
theorem d_Mo_init_950 : decode b_Mo_init 950 = .ok (.aastore, 1) := by decide +kernel
theorem d_Mo_init_951 : decode b_Mo_init 951 = .ok (.dup, 1) := by decide +kernel
theorem d_Mo_init_952 : decode b_Mo_init 952 = .ok (.iconst 4, 1) := by decide +kernel
theorem d_Mo_init_953 : decode b_Mo_init 953 = .ok (.ldc_w 385, 3) := by decide +kernel
theorem d_Mo_init_956 : decode b_Mo_init 956 = .ok (.aastore, 1) := by decide +kernel
theorem d_Mo_init_957 : decode b_Mo_init 957 = .ok (.dup, 1) := by decide +kernel
theorem d_Mo_init_958 : decode b_Mo_init 958 = .ok (.iconst 5, 1) := by decide +kernel
theorem d_Mo_init_959 : decode b_Mo_init 959 = .ok (.ldc_w 387, 3) := by decide +kernel
theorem d_Mo_init_962 : decode b_Mo_init 962 = .ok (.aastore, 1) := by decide +kernel
theorem d_Mo_init_963 : decode b_Mo_init 963 = .ok (.dup, 1) := by decide +kernel
theorem d_Mo_init_964 : decode b_Mo_init 964 = .ok (.bipush 6, 2) := by decide +kernel
theorem d_Mo_init_966 : decode b_Mo_init 966 = .ok (.ldc_w 389, 3) := by decide +kernel
theorem d_Mo_init_969 : decode b_Mo_init 969 = .ok (.aastore, 1) := by decide +kernel
theorem d_Mo_init_970 : decode b_Mo_init 970 = .ok (.putfield 391, 3) := by decide +kernel
theorem d_Mo_init_973 : decode b_Mo_init 973 = .ok (.aload_n 0, 1) := by decide +kernel
theorem d_Mo_init_974 : decode b_Mo_init 974 = .ok (.iconst 4, 1) := by decide +kernel
theorem d_Mo_init_975 : decode b_Mo_init 975 = .ok (.anewarray 277, 3) := by decide +kernel
theorem d_Mo_init_978 : decode b_Mo_init 978 = .ok (.dup, 1) := by decide +kernel
theorem d_Mo_init_979 : decode b_Mo_init 979 = .ok (.iconst 0, 1) := by decide +kernel
theorem d_Mo_init_980 : decode b_Mo_init 980 = .ok (.ldc_w 394, 3) := by decide +kernel
theorem d_Mo_init_983 : decode b_Mo_init 983 = .ok (.aastore, 1) := by decide +kernel
theorem d_Mo_init_984 : decode b_Mo_init 984 = .ok (.dup, 1) := by decide +kernel
theorem d_Mo_init_985 : decode b_Mo_init 985 = .ok (.iconst 1, 1) := by decide +kernel
theorem d_Mo_init_986 : decode b_Mo_init 986 = .ok (.ldc_w 320, 3) := by decide +kernel
theorem d_Mo_init_989 : decode b_Mo_init 989 = .ok (.aastore, 1) := by decide +kernel
theorem d_Mo_init_990 : decode b_Mo_init 990 = .ok (.dup, 1) := by decide +kernel
theorem d_Mo_init_991 : decode b_Mo_init 991 = .ok (.iconst 2, 1) := by decide +kernel
theorem d_Mo_init_992 : decode b_Mo_init 992 = .ok (.ldc_w 396, 3) := by decide +kernel
theorem d_Mo_init_995 : decode b_Mo_init 995 = .ok (.aastore, 1) := by decide +kernel
theorem d_Mo_init_996 : decode b_Mo_init 996 = .ok (.dup, 1) := by decide +kernel
theorem d_Mo_init_997 : decode b_Mo_init 997 = .ok (.iconst 3, 1) := by decide +kernel
theorem d_Mo_init_998 : decode b_Mo_init 998 = .ok (.ldc_w 398, 3) := by decide +kernel
theorem d_Mo_init_1001 : decode b_Mo_init 1001 = .ok (.aastore, 1) := by decide +kernel
theorem d_Mo_init_1002 : decode b_Mo_init 1002 = .ok (.putfield 400, 3) := by decide +kernel
theorem d_Mo_init_1005 : decode b_Mo_init 1005 = .ok (.aload_n 0, 1) := by decide +kernel
theorem d_Mo_init_1006 : decode b_Mo_init 1006 = .ok (.bipush 22, 2) := by decide +kernel
theorem d_Mo_init_1008 : decode b_Mo_init 1008 = .ok (.newarray .int, 2) := by decide +kernel
theorem d_Mo_init_1010 : decode b_Mo_init 1010 = .ok (.putfield 403, 3) := by decide +kernel
theorem d_Mo_init_1013 : decode b_Mo_init 1013 = .ok (.aload_n 0, 1) := by decide +kernel
theorem d_Mo_init_1014 : decode b_Mo_init 1014 = .ok (.bipush 7, 2) := by decide +kernel
theorem d_Mo_init_1016 : decode b_Mo_init 1016 = .ok (.newarray .int, 2) := by decide +kernel
theorem d_Mo_init_1018 : decode b_Mo_init 1018 = .ok (.putfield 406, 3) := by decide +kernel
theorem d_Mo_init_1021 : decode b_Mo_init 1021 = .ok (.aload_n 0, 1) := by decide +kernel
theorem d_Mo_init_1022 : decode b_Mo_init 1022 = .ok (.iconst 4, 1) := by decide +kernel
theorem d_Mo_init_1023 : decode b_Mo_init 1023 = .ok (.newarray .int, 2) := by decide +kernel
theorem d_Mo_init_1025 : decode b_Mo_init 1025 = .ok (.putfield 409, 3) := by decide +kernel
theorem d_Mo_init_1028 : decode b_Mo_init 1028 = .ok (.aload_n 0, 1) := by decide +kernel
theorem d_Mo_init_1029 : decode b_Mo_init 1029 = .ok (.bipush 24, 2) := by decide +kernel
theorem d_Mo_init_1031 : decode b_Mo_init 1031 = .ok (.newarray .int, 2) := by decide +kernel
theorem d_Mo_init_1033 : decode b_Mo_init 1033 = .ok (.putfield 412, 3) := by decide +kernel
theorem d_Mo_init_1036 : decode b_Mo_init 1036 = .ok (.aload_n 0, 1) := by decide +kernel
theorem d_Mo_init_1037 : decode b_Mo_init 1037 = .ok (.bipush 64, 2) := by decide +kernel
theorem d_Mo_init_1039 : decode b_Mo_init 1039 = .ok (.newarray .byte, 2) := by decide +kernel
theorem d_Mo_init_1041 : decode b_Mo_init 1041 = .ok (.putfield 415, 3) := by decide +kernel
theorem d_Mo_init_1044 : decode b_Mo_init 1044 = .ok (.aload_n 0, 1) := by decide +kernel
theorem d_Mo_init_1045 : decode b_Mo_init 1045 = .ok (.iconst 0, 1) := by decide +kernel
theorem d_Mo_init_1046 : decode b_Mo_init 1046 = .ok (.putfield 418, 3) := by decide +kernel
theorem d_Mo_init_1049 : decode b_Mo_init 1049 = .ok (.aload_n 0, 1) := by decide +kernel
theorem d_Mo_init_1050 : decode b_Mo_init 1050 = .ok (.ldc_w 421, 3) := by decide +kernel
theorem d_Mo_init_1053 : decode b_Mo_init 1053 = .ok (.newarray .byte, 2) := by decide +kernel
theorem d_Mo_init_1055 : decode b_Mo_init 1055 = .ok (.putfield 422, 3) := by decide +kernel
theorem d_Mo_init_1058 : decode b_Mo_init 1058 = .ok (.aload_n 0, 1) := by decide +kernel
theorem d_Mo_init_1059 : decode b_Mo_init 1059 = .ok (.sipush 20000, 3) := by decide +kernel
theorem d_Mo_init_1062 : decode b_Mo_init 1062 = .ok (.newarray .byte, 2) := by decide +kernel
theorem d_Mo_init_1064 : decode b_Mo_init 1064 = .ok (.putfield 425, 3) := by decide +kernel
theorem d_Mo_init_1067 : decode b_Mo_init 1067 = .ok (.aload_n 0, 1) := by decide +kernel
theorem d_Mo_init_1068 : decode b_Mo_init 1068 = .ok (.iconst 0, 1) := by decide +kernel
theorem d_Mo_init_1069 : decode b_Mo_init 1069 = .ok (.putfield 428, 3) := by decide +kernel
theorem d_Mo_init_1072 : decode b_Mo_init 1072 = .ok (.aload_n 0, 1) := by decide +kernel
theorem d_Mo_init_1073 : decode b_Mo_init 1073 = .ok (.iconst 0, 1) := by decide +kernel
theorem d_Mo_init_1074 : decode b_Mo_init 1074 = .ok (.putfield 431, 3) := by decide +kernel
theorem d_Mo_init_1077 : decode b_Mo_init 1077 = .ok (.aload_n 0, 1) := by decide +kernel
theorem d_Mo_init_1078 : decode b_Mo_init 1078 = .ok (.bipush 24, 2) := by decide +kernel
theorem d_Mo_init_1080 : decode b_Mo_init 1080 = .ok (.newarray .byte, 2) := by decide +kernel
theorem d_Mo_init_1082 : decode b_Mo_init 1082 = .ok (.putfield 434, 3) := by decide +kernel
theorem d_Mo_init_1085 : decode b_Mo_init 1085 = .ok (.aload_n 0, 1) := by decide +kernel
theorem d_Mo_init_1086 : decode b_Mo_init 1086 = .ok (.iconst 0, 1) := by decide +kernel
theorem d_Mo_init_1087 : decode b_Mo_init 1087 = .ok (.putfield 437, 3) := by decide +kernel
theorem d_Mo_init_1090 : decode b_Mo_init 1090 = .ok (.aload_n 0, 1) := by decide +kernel
theorem d_Mo_init_1091 : decode b_Mo_init 1091 = .ok (.lconst 0, 1) := by decide +kernel
theorem d_Mo_init_1092 : decode b_Mo_init 1092 = .ok (.putfield 440, 3) := by decide +kernel
theorem d_Mo_init_1095 : decode b_Mo_init 1095 = .ok (.iconst 0, 1) := by decide +kernel
theorem d_Mo_init_1096 : decode b_Mo_init 1096 = .ok (.istore_n 1, 1) := by decide +kernel
theorem d_Mo_init_1097 : decode b_Mo_init 1097 = .ok (.iload_n 1, 1) := by decide +kernel
theorem d_Mo_init_1098 : decode b_Mo_init 1098 = .ok (.bipush 33, 2) := by decide +kernel
theorem d_Mo_init_1100 : decode b_Mo_init 1100 = .ok (.if_icmp .ge 22, 3) := by decide +kernel
theorem d_Mo_init_1103 : decode b_Mo_init 1103 = .ok (.aload_n 0, 1) := by decide +kernel
theorem d_Mo_init_1104 : decode b_Mo_init 1104 = .ok (.getfield 239, 3) := by decide +kernel
theorem d_Mo_init_1107 : decode b_Mo_init 1107 = .ok (.iload_n 1, 1) := by decide +kernel
theorem d_Mo_init_1108 : decode b_Mo_init 1108 = .ok (.new 237, 3) := by decide +kernel
theorem d_Mo_init_1111 : decode b_Mo_init 1111 = .ok (.dup, 1) := by decide +kernel
theorem d_Mo_init_1112 : decode b_Mo_init 1112 = .ok (.invokespecial 443, 3) := by decide +kernel
theorem d_Mo_init_1115 : decode b_Mo_init 1115 = .ok (.aastore, 1) := by decide +kernel
theorem d_Mo_init_1116 : decode b_Mo_init 1116 = .ok (.iinc 1 1, 3) := by decide +kernel
theorem d_Mo_init_1119 : decode b_Mo_init 1119 = .ok (.goto (-22), 3) := by decide +kernel
theorem d_Mo_init_1122 : decode b_Mo_init 1122 = .ok (.aload_n 0, 1) := by decide +kernel
theorem d_Mo_init_1123 : decode b_Mo_init 1123 = .ok (.sipush 1000, 3) := by decide +kernel
theorem d_Mo_init_1126 : decode b_Mo_init 1126 = .ok (.putfield 116, 3) := by decide +kernel
theorem d_Mo_init_1129 : decode b_Mo_init 1129 = .ok (.return_, 1) := by decide +kernel

