/-! the law decoded -/
theorem dl_1008 : decode code 1008 = .ok (.iadd, 1) := by decide +kernel
theorem dl_1009 : decode code 1009 = .ok (.iaload, 1) := by decide +kernel
theorem dl_1010 : decode code 1010 = .ok (.aload_n 0, 1) := by decide +kernel
theorem dl_1011 : decode code 1011 = .ok (.iload_n 3, 1) := by decide +kernel
theorem dl_1012 : decode code 1012 = .ok (.iconst 3, 1) := by decide +kernel
theorem dl_1013 : decode code 1013 = .ok (.iadd, 1) := by decide +kernel
theorem dl_1014 : decode code 1014 = .ok (.iaload, 1) := by decide +kernel
theorem dl_1015 : decode code 1015 = .ok (.invokevirtual 126, 3) := by decide +kernel
theorem dl_1018 : decode code 1018 = .ok (.if_icmp .eq 137, 3) := by decide +kernel
theorem dl_1021 : decode code 1021 = .ok (.iconst 0, 1) := by decide +kernel
theorem dl_1022 : decode code 1022 = .ok (.ireturn, 1) := by decide +kernel
theorem dl_1023 : decode code 1023 = .ok (.aload_n 1, 1) := by decide +kernel
theorem dl_1024 : decode code 1024 = .ok (.aload_n 0, 1) := by decide +kernel
theorem dl_1025 : decode code 1025 = .ok (.iload_n 3, 1) := by decide +kernel
theorem dl_1026 : decode code 1026 = .ok (.iconst 1, 1) := by decide +kernel
theorem dl_1027 : decode code 1027 = .ok (.iadd, 1) := by decide +kernel
theorem dl_1028 : decode code 1028 = .ok (.iaload, 1) := by decide +kernel
theorem dl_1029 : decode code 1029 = .ok (.aload_n 0, 1) := by decide +kernel
theorem dl_1030 : decode code 1030 = .ok (.iload_n 3, 1) := by decide +kernel
theorem dl_1031 : decode code 1031 = .ok (.iconst 2, 1) := by decide +kernel
theorem dl_1032 : decode code 1032 = .ok (.iadd, 1) := by decide +kernel
theorem dl_1033 : decode code 1033 = .ok (.iaload, 1) := by decide +kernel
theorem dl_1034 : decode code 1034 = .ok (.aload_n 0, 1) := by decide +kernel
theorem dl_1035 : decode code 1035 = .ok (.iload_n 3, 1) := by decide +kernel
theorem dl_1036 : decode code 1036 = .ok (.iconst 3, 1) := by decide +kernel
theorem dl_1037 : decode code 1037 = .ok (.iadd, 1) := by decide +kernel
theorem dl_1038 : decode code 1038 = .ok (.iaload, 1) := by decide +kernel
theorem dl_1039 : decode code 1039 = .ok (.invokevirtual 127, 3) := by decide +kernel
theorem dl_1042 : decode code 1042 = .ok (.aload_n 2, 1) := by decide +kernel
theorem dl_1043 : decode code 1043 = .ok (.aload_n 0, 1) := by decide +kernel
theorem dl_1044 : decode code 1044 = .ok (.iload_n 3, 1) := by decide +kernel
theorem dl_1045 : decode code 1045 = .ok (.iconst 1, 1) := by decide +kernel
theorem dl_1046 : decode code 1046 = .ok (.iadd, 1) := by decide +kernel
theorem dl_1047 : decode code 1047 = .ok (.iaload, 1) := by decide +kernel
theorem dl_1048 : decode code 1048 = .ok (.aload_n 0, 1) := by decide +kernel
theorem dl_1049 : decode code 1049 = .ok (.iload_n 3, 1) := by decide +kernel
theorem dl_1050 : decode code 1050 = .ok (.iconst 2, 1) := by decide +kernel
theorem dl_1051 : decode code 1051 = .ok (.iadd, 1) := by decide +kernel
theorem dl_1052 : decode code 1052 = .ok (.iaload, 1) := by decide +kernel
theorem dl_1053 : decode code 1053 = .ok (.aload_n 0, 1) := by decide +kernel
theorem dl_1054 : decode code 1054 = .ok (.iload_n 3, 1) := by decide +kernel
theorem dl_1055 : decode code 1055 = .ok (.iconst 3, 1) := by decide +kernel
theorem dl_1056 : decode code 1056 = .ok (.iadd, 1) := by decide +kernel
theorem dl_1057 : decode code 1057 = .ok (.iaload, 1) := by decide +kernel
theorem dl_1058 : decode code 1058 = .ok (.invokevirtual 130, 3) := by decide +kernel
theorem dl_1061 : decode code 1061 = .ok (.if_icmp .eq 94, 3) := by decide +kernel
theorem dl_1064 : decode code 1064 = .ok (.iconst 0, 1) := by decide +kernel
theorem dl_1065 : decode code 1065 = .ok (.ireturn, 1) := by decide +kernel
theorem dl_1066 : decode code 1066 = .ok (.aload_n 1, 1) := by decide +kernel
theorem dl_1067 : decode code 1067 = .ok (.aload_n 0, 1) := by decide +kernel
theorem dl_1068 : decode code 1068 = .ok (.iload_n 3, 1) := by decide +kernel
theorem dl_1069 : decode code 1069 = .ok (.iconst 1, 1) := by decide +kernel
theorem dl_1070 : decode code 1070 = .ok (.iadd, 1) := by decide +kernel
theorem dl_1071 : decode code 1071 = .ok (.iaload, 1) := by decide +kernel
theorem dl_1072 : decode code 1072 = .ok (.aload_n 0, 1) := by decide +kernel
theorem dl_1073 : decode code 1073 = .ok (.iload_n 3, 1) := by decide +kernel
theorem dl_1074 : decode code 1074 = .ok (.iconst 2, 1) := by decide +kernel
theorem dl_1075 : decode code 1075 = .ok (.iadd, 1) := by decide +kernel
theorem dl_1076 : decode code 1076 = .ok (.iaload, 1) := by decide +kernel
theorem dl_1077 : decode code 1077 = .ok (.aload_n 0, 1) := by decide +kernel
theorem dl_1078 : decode code 1078 = .ok (.iload_n 3, 1) := by decide +kernel
theorem dl_1079 : decode code 1079 = .ok (.iconst 3, 1) := by decide +kernel
theorem dl_1080 : decode code 1080 = .ok (.iadd, 1) := by decide +kernel
theorem dl_1081 : decode code 1081 = .ok (.iaload, 1) := by decide +kernel
theorem dl_1082 : decode code 1082 = .ok (.invokevirtual 131, 3) := by decide +kernel
theorem dl_1085 : decode code 1085 = .ok (.aload_n 2, 1) := by decide +kernel
theorem dl_1086 : decode code 1086 = .ok (.aload_n 0, 1) := by decide +kernel
theorem dl_1087 : decode code 1087 = .ok (.iload_n 3, 1) := by decide +kernel
theorem dl_1088 : decode code 1088 = .ok (.iconst 1, 1) := by decide +kernel
theorem dl_1089 : decode code 1089 = .ok (.iadd, 1) := by decide +kernel
