/-! Each instruction of each method, decoded. Written by wip/tools/emit_names.py. -/
theorem d_PR_init_0 : decode c_PR_init 0 = .ok (.aload_n 0, 1) := by decide +kernel
theorem d_PR_init_1 : decode c_PR_init 1 = .ok (.invokespecial 1, 3) := by decide +kernel
theorem d_PR_init_4 : decode c_PR_init 4 = .ok (.aload_n 0, 1) := by decide +kernel
theorem d_PR_init_5 : decode c_PR_init 5 = .ok (.bipush 12, 2) := by decide +kernel
theorem d_PR_init_7 : decode c_PR_init 7 = .ok (.anewarray 9, 3) := by decide +kernel
theorem d_PR_init_10 : decode c_PR_init 10 = .ok (.putfield 11, 3) := by decide +kernel
theorem d_PR_init_13 : decode c_PR_init 13 = .ok (.aload_n 0, 1) := by decide +kernel
theorem d_PR_init_14 : decode c_PR_init 14 = .ok (.bipush 40, 2) := by decide +kernel
theorem d_PR_init_16 : decode c_PR_init 16 = .ok (.anewarray 15, 3) := by decide +kernel
theorem d_PR_init_19 : decode c_PR_init 19 = .ok (.putfield 17, 3) := by decide +kernel
theorem d_PR_init_22 : decode c_PR_init 22 = .ok (.aload_n 0, 1) := by decide +kernel
theorem d_PR_init_23 : decode c_PR_init 23 = .ok (.bipush 20, 2) := by decide +kernel
theorem d_PR_init_25 : decode c_PR_init 25 = .ok (.anewarray 21, 3) := by decide +kernel
theorem d_PR_init_28 : decode c_PR_init 28 = .ok (.putfield 23, 3) := by decide +kernel
theorem d_PR_init_31 : decode c_PR_init 31 = .ok (.aload_n 0, 1) := by decide +kernel
theorem d_PR_init_32 : decode c_PR_init 32 = .ok (.new 27, 3) := by decide +kernel
theorem d_PR_init_35 : decode c_PR_init 35 = .ok (.dup, 1) := by decide +kernel
theorem d_PR_init_36 : decode c_PR_init 36 = .ok (.invokespecial 29, 3) := by decide +kernel
theorem d_PR_init_39 : decode c_PR_init 39 = .ok (.putfield 30, 3) := by decide +kernel
theorem d_PR_init_42 : decode c_PR_init 42 = .ok (.aload_n 0, 1) := by decide +kernel
theorem d_PR_init_43 : decode c_PR_init 43 = .ok (.new 34, 3) := by decide +kernel
theorem d_PR_init_46 : decode c_PR_init 46 = .ok (.dup, 1) := by decide +kernel
theorem d_PR_init_47 : decode c_PR_init 47 = .ok (.invokespecial 36, 3) := by decide +kernel
theorem d_PR_init_50 : decode c_PR_init 50 = .ok (.putfield 37, 3) := by decide +kernel
theorem d_PR_init_53 : decode c_PR_init 53 = .ok (.aload_n 0, 1) := by decide +kernel
theorem d_PR_init_54 : decode c_PR_init 54 = .ok (.new 41, 3) := by decide +kernel
theorem d_PR_init_57 : decode c_PR_init 57 = .ok (.dup, 1) := by decide +kernel
theorem d_PR_init_58 : decode c_PR_init 58 = .ok (.invokespecial 43, 3) := by decide +kernel
theorem d_PR_init_61 : decode c_PR_init 61 = .ok (.putfield 44, 3) := by decide +kernel
theorem d_PR_init_64 : decode c_PR_init 64 = .ok (.aload_n 0, 1) := by decide +kernel
theorem d_PR_init_65 : decode c_PR_init 65 = .ok (.new 48, 3) := by decide +kernel
theorem d_PR_init_68 : decode c_PR_init 68 = .ok (.dup, 1) := by decide +kernel
theorem d_PR_init_69 : decode c_PR_init 69 = .ok (.invokespecial 50, 3) := by decide +kernel
theorem d_PR_init_72 : decode c_PR_init 72 = .ok (.putfield 51, 3) := by decide +kernel
theorem d_PR_init_75 : decode c_PR_init 75 = .ok (.aload_n 0, 1) := by decide +kernel
theorem d_PR_init_76 : decode c_PR_init 76 = .ok (.bipush 24, 2) := by decide +kernel
theorem d_PR_init_78 : decode c_PR_init 78 = .ok (.newarray .int, 2) := by decide +kernel
theorem d_PR_init_80 : decode c_PR_init 80 = .ok (.putfield 55, 3) := by decide +kernel
theorem d_PR_init_83 : decode c_PR_init 83 = .ok (.iconst 0, 1) := by decide +kernel
theorem d_PR_init_84 : decode c_PR_init 84 = .ok (.istore_n 1, 1) := by decide +kernel
theorem d_PR_init_85 : decode c_PR_init 85 = .ok (.iload_n 1, 1) := by decide +kernel
theorem d_PR_init_86 : decode c_PR_init 86 = .ok (.bipush 12, 2) := by decide +kernel
theorem d_PR_init_88 : decode c_PR_init 88 = .ok (.if_icmp .ge 22, 3) := by decide +kernel
theorem d_PR_init_91 : decode c_PR_init 91 = .ok (.aload_n 0, 1) := by decide +kernel
theorem d_PR_init_92 : decode c_PR_init 92 = .ok (.getfield 11, 3) := by decide +kernel
theorem d_PR_init_95 : decode c_PR_init 95 = .ok (.iload_n 1, 1) := by decide +kernel
theorem d_PR_init_96 : decode c_PR_init 96 = .ok (.new 9, 3) := by decide +kernel
theorem d_PR_init_99 : decode c_PR_init 99 = .ok (.dup, 1) := by decide +kernel
theorem d_PR_init_100 : decode c_PR_init 100 = .ok (.invokespecial 59, 3) := by decide +kernel
theorem d_PR_init_103 : decode c_PR_init 103 = .ok (.aastore, 1) := by decide +kernel
theorem d_PR_init_104 : decode c_PR_init 104 = .ok (.iinc 1 1, 3) := by decide +kernel
theorem d_PR_init_107 : decode c_PR_init 107 = .ok (.goto (-22), 3) := by decide +kernel
theorem d_PR_init_110 : decode c_PR_init 110 = .ok (.iconst 0, 1) := by decide +kernel
theorem d_PR_init_111 : decode c_PR_init 111 = .ok (.istore_n 1, 1) := by decide +kernel
theorem d_PR_init_112 : decode c_PR_init 112 = .ok (.iload_n 1, 1) := by decide +kernel
theorem d_PR_init_113 : decode c_PR_init 113 = .ok (.bipush 40, 2) := by decide +kernel
theorem d_PR_init_115 : decode c_PR_init 115 = .ok (.if_icmp .ge 22, 3) := by decide +kernel
theorem d_PR_init_118 : decode c_PR_init 118 = .ok (.aload_n 0, 1) := by decide +kernel
theorem d_PR_init_119 : decode c_PR_init 119 = .ok (.getfield 17, 3) := by decide +kernel
theorem d_PR_init_122 : decode c_PR_init 122 = .ok (.iload_n 1, 1) := by decide +kernel
theorem d_PR_init_123 : decode c_PR_init 123 = .ok (.new 15, 3) := by decide +kernel
theorem d_PR_init_126 : decode c_PR_init 126 = .ok (.dup, 1) := by decide +kernel
theorem d_PR_init_127 : decode c_PR_init 127 = .ok (.invokespecial 60, 3) := by decide +kernel
theorem d_PR_init_130 : decode c_PR_init 130 = .ok (.aastore, 1) := by decide +kernel
theorem d_PR_init_131 : decode c_PR_init 131 = .ok (.iinc 1 1, 3) := by decide +kernel
theorem d_PR_init_134 : decode c_PR_init 134 = .ok (.goto (-22), 3) := by decide +kernel
theorem d_PR_init_137 : decode c_PR_init 137 = .ok (.iconst 0, 1) := by decide +kernel
theorem d_PR_init_138 : decode c_PR_init 138 = .ok (.istore_n 1, 1) := by decide +kernel
theorem d_PR_init_139 : decode c_PR_init 139 = .ok (.iload_n 1, 1) := by decide +kernel
theorem d_PR_init_140 : decode c_PR_init 140 = .ok (.bipush 20, 2) := by decide +kernel
theorem d_PR_init_142 : decode c_PR_init 142 = .ok (.if_icmp .ge 22, 3) := by decide +kernel
theorem d_PR_init_145 : decode c_PR_init 145 = .ok (.aload_n 0, 1) := by decide +kernel
theorem d_PR_init_146 : decode c_PR_init 146 = .ok (.getfield 23, 3) := by decide +kernel
theorem d_PR_init_149 : decode c_PR_init 149 = .ok (.iload_n 1, 1) := by decide +kernel
theorem d_PR_init_150 : decode c_PR_init 150 = .ok (.new 21, 3) := by decide +kernel
theorem d_PR_init_153 : decode c_PR_init 153 = .ok (.dup, 1) := by decide +kernel
theorem d_PR_init_154 : decode c_PR_init 154 = .ok (.invokespecial 61, 3) := by decide +kernel
theorem d_PR_init_157 : decode c_PR_init 157 = .ok (.aastore, 1) := by decide +kernel
theorem d_PR_init_158 : decode c_PR_init 158 = .ok (.iinc 1 1, 3) := by decide +kernel
theorem d_PR_init_161 : decode c_PR_init 161 = .ok (.goto (-22), 3) := by decide +kernel
theorem d_PR_init_164 : decode c_PR_init 164 = .ok (.return_, 1) := by decide +kernel
theorem d_PR_place_0 : decode c_PR_place 0 = .ok (.iload_n 1, 1) := by decide +kernel
theorem d_PR_place_1 : decode c_PR_place 1 = .ok (.invokestatic 62, 3) := by decide +kernel
theorem d_PR_place_4 : decode c_PR_place 4 = .ok (.iload_n 2, 1) := by decide +kernel
theorem d_PR_place_5 : decode c_PR_place 5 = .ok (.iload_n 3, 1) := by decide +kernel
theorem d_PR_place_6 : decode c_PR_place 6 = .ok (.iload 4, 2) := by decide +kernel
theorem d_PR_place_8 : decode c_PR_place 8 = .ok (.invokestatic 66, 3) := by decide +kernel
theorem d_PR_place_11 : decode c_PR_place 11 = .ok (.aload_n 0, 1) := by decide +kernel
theorem d_PR_place_12 : decode c_PR_place 12 = .ok (.getfield 11, 3) := by decide +kernel
theorem d_PR_place_15 : decode c_PR_place 15 = .ok (.iload_n 1, 1) := by decide +kernel
theorem d_PR_place_16 : decode c_PR_place 16 = .ok (.aaload, 1) := by decide +kernel
theorem d_PR_place_17 : decode c_PR_place 17 = .ok (.astore 5, 2) := by decide +kernel
theorem d_PR_place_19 : decode c_PR_place 19 = .ok (.aload 5, 2) := by decide +kernel
theorem d_PR_place_21 : decode c_PR_place 21 = .ok (.iload_n 2, 1) := by decide +kernel
theorem d_PR_place_22 : decode c_PR_place 22 = .ok (.putfield 70, 3) := by decide +kernel
theorem d_PR_place_25 : decode c_PR_place 25 = .ok (.aload 5, 2) := by decide +kernel
theorem d_PR_place_27 : decode c_PR_place 27 = .ok (.iload_n 3, 1) := by decide +kernel
theorem d_PR_place_28 : decode c_PR_place 28 = .ok (.putfield 74, 3) := by decide +kernel
theorem d_PR_place_31 : decode c_PR_place 31 = .ok (.aload 5, 2) := by decide +kernel
theorem d_PR_place_33 : decode c_PR_place 33 = .ok (.iload 4, 2) := by decide +kernel
theorem d_PR_place_35 : decode c_PR_place 35 = .ok (.putfield 77, 3) := by decide +kernel
theorem d_PR_place_38 : decode c_PR_place 38 = .ok (.return_, 1) := by decide +kernel
theorem d_PR_limit_0 : decode c_PR_limit 0 = .ok (.iload_n 1, 1) := by decide +kernel
theorem d_PR_limit_1 : decode c_PR_limit 1 = .ok (.invokestatic 62, 3) := by decide +kernel
theorem d_PR_limit_4 : decode c_PR_limit 4 = .ok (.iload_n 2, 1) := by decide +kernel
theorem d_PR_limit_5 : decode c_PR_limit 5 = .ok (.iconst 0, 1) := by decide +kernel
theorem d_PR_limit_6 : decode c_PR_limit 6 = .ok (.ldc 80, 2) := by decide +kernel
theorem d_PR_limit_8 : decode c_PR_limit 8 = .ok (.invokestatic 81, 3) := by decide +kernel
theorem d_PR_limit_11 : decode c_PR_limit 11 = .ok (.iload_n 3, 1) := by decide +kernel
theorem d_PR_limit_12 : decode c_PR_limit 12 = .ok (.iconst 0, 1) := by decide +kernel
theorem d_PR_limit_13 : decode c_PR_limit 13 = .ok (.bipush 7, 2) := by decide +kernel
theorem d_PR_limit_15 : decode c_PR_limit 15 = .ok (.invokestatic 81, 3) := by decide +kernel
theorem d_PR_limit_18 : decode c_PR_limit 18 = .ok (.aload_n 0, 1) := by decide +kernel
theorem d_PR_limit_19 : decode c_PR_limit 19 = .ok (.getfield 11, 3) := by decide +kernel
theorem d_PR_limit_22 : decode c_PR_limit 22 = .ok (.iload_n 1, 1) := by decide +kernel
theorem d_PR_limit_23 : decode c_PR_limit 23 = .ok (.aaload, 1) := by decide +kernel
theorem d_PR_limit_24 : decode c_PR_limit 24 = .ok (.iload_n 2, 1) := by decide +kernel
theorem d_PR_limit_25 : decode c_PR_limit 25 = .ok (.putfield 84, 3) := by decide +kernel
theorem d_PR_limit_28 : decode c_PR_limit 28 = .ok (.aload_n 0, 1) := by decide +kernel
theorem d_PR_limit_29 : decode c_PR_limit 29 = .ok (.getfield 11, 3) := by decide +kernel
theorem d_PR_limit_32 : decode c_PR_limit 32 = .ok (.iload_n 1, 1) := by decide +kernel
theorem d_PR_limit_33 : decode c_PR_limit 33 = .ok (.aaload, 1) := by decide +kernel
theorem d_PR_limit_34 : decode c_PR_limit 34 = .ok (.iload_n 3, 1) := by decide +kernel
theorem d_PR_limit_35 : decode c_PR_limit 35 = .ok (.putfield 87, 3) := by decide +kernel
theorem d_PR_limit_38 : decode c_PR_limit 38 = .ok (.return_, 1) := by decide +kernel
theorem d_PR_unit_0 : decode c_PR_unit 0 = .ok (.iload_n 1, 1) := by decide +kernel
theorem d_PR_unit_1 : decode c_PR_unit 1 = .ok (.iconst 0, 1) := by decide +kernel
theorem d_PR_unit_2 : decode c_PR_unit 2 = .ok (.bipush 99, 2) := by decide +kernel
theorem d_PR_unit_4 : decode c_PR_unit 4 = .ok (.invokestatic 81, 3) := by decide +kernel
theorem d_PR_unit_7 : decode c_PR_unit 7 = .ok (.iload_n 2, 1) := by decide +kernel
theorem d_PR_unit_8 : decode c_PR_unit 8 = .ok (.iconst 0, 1) := by decide +kernel
theorem d_PR_unit_9 : decode c_PR_unit 9 = .ok (.bipush 99, 2) := by decide +kernel
theorem d_PR_unit_11 : decode c_PR_unit 11 = .ok (.invokestatic 81, 3) := by decide +kernel
theorem d_PR_unit_14 : decode c_PR_unit 14 = .ok (.iload_n 3, 1) := by decide +kernel
theorem d_PR_unit_15 : decode c_PR_unit 15 = .ok (.iconst 0, 1) := by decide +kernel
theorem d_PR_unit_16 : decode c_PR_unit 16 = .ok (.bipush 7, 2) := by decide +kernel
theorem d_PR_unit_18 : decode c_PR_unit 18 = .ok (.invokestatic 81, 3) := by decide +kernel
theorem d_PR_unit_21 : decode c_PR_unit 21 = .ok (.aload_n 0, 1) := by decide +kernel
theorem d_PR_unit_22 : decode c_PR_unit 22 = .ok (.getfield 90, 3) := by decide +kernel
theorem d_PR_unit_25 : decode c_PR_unit 25 = .ok (.bipush 40, 2) := by decide +kernel
theorem d_PR_unit_27 : decode c_PR_unit 27 = .ok (.if_icmp .lt 13, 3) := by decide +kernel
theorem d_PR_unit_30 : decode c_PR_unit 30 = .ok (.new 93, 3) := by decide +kernel
theorem d_PR_unit_33 : decode c_PR_unit 33 = .ok (.dup, 1) := by decide +kernel
theorem d_PR_unit_34 : decode c_PR_unit 34 = .ok (.ldc 95, 2) := by decide +kernel
theorem d_PR_unit_36 : decode c_PR_unit 36 = .ok (.invokespecial 97, 3) := by decide +kernel
theorem d_PR_unit_39 : decode c_PR_unit 39 = .ok (.athrow, 1) := by decide +kernel
theorem d_PR_unit_40 : decode c_PR_unit 40 = .ok (.aload_n 0, 1) := by decide +kernel
theorem d_PR_unit_41 : decode c_PR_unit 41 = .ok (.getfield 17, 3) := by decide +kernel
theorem d_PR_unit_44 : decode c_PR_unit 44 = .ok (.aload_n 0, 1) := by decide +kernel
theorem d_PR_unit_45 : decode c_PR_unit 45 = .ok (.getfield 90, 3) := by decide +kernel
theorem d_PR_unit_48 : decode c_PR_unit 48 = .ok (.aaload, 1) := by decide +kernel
theorem d_PR_unit_49 : decode c_PR_unit 49 = .ok (.astore 4, 2) := by decide +kernel
theorem d_PR_unit_51 : decode c_PR_unit 51 = .ok (.aload 4, 2) := by decide +kernel
theorem d_PR_unit_53 : decode c_PR_unit 53 = .ok (.iload_n 1, 1) := by decide +kernel
theorem d_PR_unit_54 : decode c_PR_unit 54 = .ok (.putfield 100, 3) := by decide +kernel
theorem d_PR_unit_57 : decode c_PR_unit 57 = .ok (.aload 4, 2) := by decide +kernel
theorem d_PR_unit_59 : decode c_PR_unit 59 = .ok (.iload_n 2, 1) := by decide +kernel
theorem d_PR_unit_60 : decode c_PR_unit 60 = .ok (.putfield 103, 3) := by decide +kernel
theorem d_PR_unit_63 : decode c_PR_unit 63 = .ok (.aload 4, 2) := by decide +kernel
theorem d_PR_unit_65 : decode c_PR_unit 65 = .ok (.iload_n 3, 1) := by decide +kernel
theorem d_PR_unit_66 : decode c_PR_unit 66 = .ok (.putfield 106, 3) := by decide +kernel
theorem d_PR_unit_69 : decode c_PR_unit 69 = .ok (.aload_n 0, 1) := by decide +kernel
theorem d_PR_unit_70 : decode c_PR_unit 70 = .ok (.dup, 1) := by decide +kernel
theorem d_PR_unit_71 : decode c_PR_unit 71 = .ok (.getfield 90, 3) := by decide +kernel
theorem d_PR_unit_74 : decode c_PR_unit 74 = .ok (.iconst 1, 1) := by decide +kernel
theorem d_PR_unit_75 : decode c_PR_unit 75 = .ok (.iadd, 1) := by decide +kernel
theorem d_PR_unit_76 : decode c_PR_unit 76 = .ok (.putfield 90, 3) := by decide +kernel
theorem d_PR_unit_79 : decode c_PR_unit 79 = .ok (.aload_n 0, 1) := by decide +kernel
theorem d_PR_unit_80 : decode c_PR_unit 80 = .ok (.getfield 90, 3) := by decide +kernel
theorem d_PR_unit_83 : decode c_PR_unit 83 = .ok (.iconst 1, 1) := by decide +kernel
theorem d_PR_unit_84 : decode c_PR_unit 84 = .ok (.isub, 1) := by decide +kernel
theorem d_PR_unit_85 : decode c_PR_unit 85 = .ok (.ireturn, 1) := by decide +kernel
theorem d_PR_size_0 : decode c_PR_size 0 = .ok (.aload_n 0, 1) := by decide +kernel
theorem d_PR_size_1 : decode c_PR_size 1 = .ok (.iload_n 1, 1) := by decide +kernel
theorem d_PR_size_2 : decode c_PR_size 2 = .ok (.invokevirtual 109, 3) := by decide +kernel
theorem d_PR_size_5 : decode c_PR_size 5 = .ok (.iload_n 2, 1) := by decide +kernel
theorem d_PR_size_6 : decode c_PR_size 6 = .ok (.iload_n 3, 1) := by decide +kernel
theorem d_PR_size_7 : decode c_PR_size 7 = .ok (.iload 4, 2) := by decide +kernel
theorem d_PR_size_9 : decode c_PR_size 9 = .ok (.invokestatic 66, 3) := by decide +kernel
theorem d_PR_size_12 : decode c_PR_size 12 = .ok (.iload 5, 2) := by decide +kernel
theorem d_PR_size_14 : decode c_PR_size 14 = .ok (.iconst 1, 1) := by decide +kernel
theorem d_PR_size_15 : decode c_PR_size 15 = .ok (.ldc 112, 2) := by decide +kernel
theorem d_PR_size_17 : decode c_PR_size 17 = .ok (.invokestatic 81, 3) := by decide +kernel
theorem d_PR_size_20 : decode c_PR_size 20 = .ok (.aload_n 0, 1) := by decide +kernel
theorem d_PR_size_21 : decode c_PR_size 21 = .ok (.iload_n 1, 1) := by decide +kernel
theorem d_PR_size_22 : decode c_PR_size 22 = .ok (.invokevirtual 113, 3) := by decide +kernel
theorem d_PR_size_25 : decode c_PR_size 25 = .ok (.aload_n 0, 1) := by decide +kernel
theorem d_PR_size_26 : decode c_PR_size 26 = .ok (.getfield 17, 3) := by decide +kernel
theorem d_PR_size_29 : decode c_PR_size 29 = .ok (.iload_n 1, 1) := by decide +kernel
theorem d_PR_size_30 : decode c_PR_size 30 = .ok (.aaload, 1) := by decide +kernel
theorem d_PR_size_31 : decode c_PR_size 31 = .ok (.astore 6, 2) := by decide +kernel
theorem d_PR_size_33 : decode c_PR_size 33 = .ok (.aload 6, 2) := by decide +kernel
theorem d_PR_size_35 : decode c_PR_size 35 = .ok (.iload_n 2, 1) := by decide +kernel
theorem d_PR_size_36 : decode c_PR_size 36 = .ok (.putfield 116, 3) := by decide +kernel
theorem d_PR_size_39 : decode c_PR_size 39 = .ok (.aload 6, 2) := by decide +kernel
theorem d_PR_size_41 : decode c_PR_size 41 = .ok (.iload_n 3, 1) := by decide +kernel
theorem d_PR_size_42 : decode c_PR_size 42 = .ok (.putfield 117, 3) := by decide +kernel
theorem d_PR_size_45 : decode c_PR_size 45 = .ok (.aload 6, 2) := by decide +kernel
theorem d_PR_size_47 : decode c_PR_size 47 = .ok (.iload 4, 2) := by decide +kernel
theorem d_PR_size_49 : decode c_PR_size 49 = .ok (.putfield 118, 3) := by decide +kernel
theorem d_PR_size_52 : decode c_PR_size 52 = .ok (.aload 6, 2) := by decide +kernel
theorem d_PR_size_54 : decode c_PR_size 54 = .ok (.iload 5, 2) := by decide +kernel
theorem d_PR_size_56 : decode c_PR_size 56 = .ok (.putfield 119, 3) := by decide +kernel
theorem d_PR_size_59 : decode c_PR_size 59 = .ok (.return_, 1) := by decide +kernel
theorem d_PR_nature_0 : decode c_PR_nature 0 = .ok (.aload_n 0, 1) := by decide +kernel
theorem d_PR_nature_1 : decode c_PR_nature 1 = .ok (.iload_n 1, 1) := by decide +kernel
theorem d_PR_nature_2 : decode c_PR_nature 2 = .ok (.invokevirtual 109, 3) := by decide +kernel
theorem d_PR_nature_5 : decode c_PR_nature 5 = .ok (.iload_n 2, 1) := by decide +kernel
theorem d_PR_nature_6 : decode c_PR_nature 6 = .ok (.iconst 0, 1) := by decide +kernel
theorem d_PR_nature_7 : decode c_PR_nature 7 = .ok (.bipush 7, 2) := by decide +kernel
theorem d_PR_nature_9 : decode c_PR_nature 9 = .ok (.invokestatic 81, 3) := by decide +kernel
theorem d_PR_nature_12 : decode c_PR_nature 12 = .ok (.iload_n 3, 1) := by decide +kernel
theorem d_PR_nature_13 : decode c_PR_nature 13 = .ok (.iconst 0, 1) := by decide +kernel
theorem d_PR_nature_14 : decode c_PR_nature 14 = .ok (.bipush 7, 2) := by decide +kernel
theorem d_PR_nature_16 : decode c_PR_nature 16 = .ok (.invokestatic 81, 3) := by decide +kernel
theorem d_PR_nature_19 : decode c_PR_nature 19 = .ok (.iload 4, 2) := by decide +kernel
theorem d_PR_nature_21 : decode c_PR_nature 21 = .ok (.iconst 0, 1) := by decide +kernel
theorem d_PR_nature_22 : decode c_PR_nature 22 = .ok (.sipush 1000, 3) := by decide +kernel
theorem d_PR_nature_25 : decode c_PR_nature 25 = .ok (.invokestatic 81, 3) := by decide +kernel
theorem d_PR_nature_28 : decode c_PR_nature 28 = .ok (.aload_n 0, 1) := by decide +kernel
theorem d_PR_nature_29 : decode c_PR_nature 29 = .ok (.iload_n 1, 1) := by decide +kernel
theorem d_PR_nature_30 : decode c_PR_nature 30 = .ok (.invokevirtual 113, 3) := by decide +kernel
theorem d_PR_nature_33 : decode c_PR_nature 33 = .ok (.aload_n 0, 1) := by decide +kernel
theorem d_PR_nature_34 : decode c_PR_nature 34 = .ok (.getfield 17, 3) := by decide +kernel
theorem d_PR_nature_37 : decode c_PR_nature 37 = .ok (.iload_n 1, 1) := by decide +kernel
theorem d_PR_nature_38 : decode c_PR_nature 38 = .ok (.aaload, 1) := by decide +kernel
theorem d_PR_nature_39 : decode c_PR_nature 39 = .ok (.astore 5, 2) := by decide +kernel
theorem d_PR_nature_41 : decode c_PR_nature 41 = .ok (.aload 5, 2) := by decide +kernel
theorem d_PR_nature_43 : decode c_PR_nature 43 = .ok (.iload_n 2, 1) := by decide +kernel
theorem d_PR_nature_44 : decode c_PR_nature 44 = .ok (.putfield 122, 3) := by decide +kernel
theorem d_PR_nature_47 : decode c_PR_nature 47 = .ok (.aload 5, 2) := by decide +kernel
theorem d_PR_nature_49 : decode c_PR_nature 49 = .ok (.iload_n 3, 1) := by decide +kernel
theorem d_PR_nature_50 : decode c_PR_nature 50 = .ok (.putfield 125, 3) := by decide +kernel
theorem d_PR_nature_53 : decode c_PR_nature 53 = .ok (.aload 5, 2) := by decide +kernel
theorem d_PR_nature_55 : decode c_PR_nature 55 = .ok (.iload 4, 2) := by decide +kernel
theorem d_PR_nature_57 : decode c_PR_nature 57 = .ok (.putfield 128, 3) := by decide +kernel
theorem d_PR_nature_60 : decode c_PR_nature 60 = .ok (.return_, 1) := by decide +kernel
theorem d_PR_rule_0 : decode c_PR_rule 0 = .ok (.iload_n 1, 1) := by decide +kernel
theorem d_PR_rule_1 : decode c_PR_rule 1 = .ok (.iconst 1, 1) := by decide +kernel
theorem d_PR_rule_2 : decode c_PR_rule 2 = .ok (.bipush 100, 2) := by decide +kernel
theorem d_PR_rule_4 : decode c_PR_rule 4 = .ok (.invokestatic 81, 3) := by decide +kernel
theorem d_PR_rule_7 : decode c_PR_rule 7 = .ok (.iload_n 2, 1) := by decide +kernel
theorem d_PR_rule_8 : decode c_PR_rule 8 = .ok (.iconst 0, 1) := by decide +kernel
theorem d_PR_rule_9 : decode c_PR_rule 9 = .ok (.getstatic 131, 3) := by decide +kernel
theorem d_PR_rule_12 : decode c_PR_rule 12 = .ok (.arraylength, 1) := by decide +kernel
theorem d_PR_rule_13 : decode c_PR_rule 13 = .ok (.iconst 1, 1) := by decide +kernel
theorem d_PR_rule_14 : decode c_PR_rule 14 = .ok (.isub, 1) := by decide +kernel
theorem d_PR_rule_15 : decode c_PR_rule 15 = .ok (.invokestatic 81, 3) := by decide +kernel
theorem d_PR_rule_18 : decode c_PR_rule 18 = .ok (.getstatic 131, 3) := by decide +kernel
theorem d_PR_rule_21 : decode c_PR_rule 21 = .ok (.iload_n 2, 1) := by decide +kernel
theorem d_PR_rule_22 : decode c_PR_rule 22 = .ok (.aaload, 1) := by decide +kernel
theorem d_PR_rule_23 : decode c_PR_rule 23 = .ok (.astore 5, 2) := by decide +kernel
theorem d_PR_rule_25 : decode c_PR_rule 25 = .ok (.iload_n 3, 1) := by decide +kernel
theorem d_PR_rule_26 : decode c_PR_rule 26 = .ok (.aload 5, 2) := by decide +kernel
theorem d_PR_rule_28 : decode c_PR_rule 28 = .ok (.getfield 135, 3) := by decide +kernel
theorem d_PR_rule_31 : decode c_PR_rule 31 = .ok (.aload 5, 2) := by decide +kernel
theorem d_PR_rule_33 : decode c_PR_rule 33 = .ok (.getfield 140, 3) := by decide +kernel
theorem d_PR_rule_36 : decode c_PR_rule 36 = .ok (.invokestatic 81, 3) := by decide +kernel
theorem d_PR_rule_39 : decode c_PR_rule 39 = .ok (.iload 4, 2) := by decide +kernel
theorem d_PR_rule_41 : decode c_PR_rule 41 = .ok (.aload 5, 2) := by decide +kernel
theorem d_PR_rule_43 : decode c_PR_rule 43 = .ok (.invokevirtual 143, 3) := by decide +kernel
theorem d_PR_rule_46 : decode c_PR_rule 46 = .ok (.aload 5, 2) := by decide +kernel
theorem d_PR_rule_48 : decode c_PR_rule 48 = .ok (.invokevirtual 147, 3) := by decide +kernel
theorem d_PR_rule_51 : decode c_PR_rule 51 = .ok (.invokestatic 81, 3) := by decide +kernel
theorem d_PR_rule_54 : decode c_PR_rule 54 = .ok (.aload_n 0, 1) := by decide +kernel
theorem d_PR_rule_55 : decode c_PR_rule 55 = .ok (.getfield 30, 3) := by decide +kernel
theorem d_PR_rule_58 : decode c_PR_rule 58 = .ok (.invokevirtual 150, 3) := by decide +kernel
theorem d_PR_rule_61 : decode c_PR_rule 61 = .ok (.ifCond .gt 13, 3) := by decide +kernel
theorem d_PR_rule_64 : decode c_PR_rule 64 = .ok (.new 93, 3) := by decide +kernel
theorem d_PR_rule_67 : decode c_PR_rule 67 = .ok (.dup, 1) := by decide +kernel
theorem d_PR_rule_68 : decode c_PR_rule 68 = .ok (.ldc 153, 2) := by decide +kernel
theorem d_PR_rule_70 : decode c_PR_rule 70 = .ok (.invokespecial 97, 3) := by decide +kernel
theorem d_PR_rule_73 : decode c_PR_rule 73 = .ok (.athrow, 1) := by decide +kernel
theorem d_PR_rule_74 : decode c_PR_rule 74 = .ok (.aload_n 0, 1) := by decide +kernel
theorem d_PR_rule_75 : decode c_PR_rule 75 = .ok (.getfield 30, 3) := by decide +kernel
theorem d_PR_rule_78 : decode c_PR_rule 78 = .ok (.iload_n 1, 1) := by decide +kernel
theorem d_PR_rule_79 : decode c_PR_rule 79 = .ok (.aload 5, 2) := by decide +kernel
theorem d_PR_rule_81 : decode c_PR_rule 81 = .ok (.iload_n 3, 1) := by decide +kernel
theorem d_PR_rule_82 : decode c_PR_rule 82 = .ok (.iload 4, 2) := by decide +kernel
theorem d_PR_rule_84 : decode c_PR_rule 84 = .ok (.invokevirtual 155, 3) := by decide +kernel
theorem d_PR_rule_87 : decode c_PR_rule 87 = .ok (.ireturn, 1) := by decide +kernel
theorem d_PR_sign_0 : decode c_PR_sign 0 = .ok (.aload_n 0, 1) := by decide +kernel
theorem d_PR_sign_1 : decode c_PR_sign 1 = .ok (.getfield 44, 3) := by decide +kernel
theorem d_PR_sign_4 : decode c_PR_sign 4 = .ok (.iload_n 1, 1) := by decide +kernel
theorem d_PR_sign_5 : decode c_PR_sign 5 = .ok (.sipush 255, 3) := by decide +kernel
theorem d_PR_sign_8 : decode c_PR_sign 8 = .ok (.iand, 1) := by decide +kernel
theorem d_PR_sign_9 : decode c_PR_sign 9 = .ok (.invokevirtual 159, 3) := by decide +kernel
theorem d_PR_sign_12 : decode c_PR_sign 12 = .ok (.ireturn, 1) := by decide +kernel
theorem d_PR_read_0 : decode c_PR_read 0 = .ok (.aload_n 0, 1) := by decide +kernel
theorem d_PR_read_1 : decode c_PR_read 1 = .ok (.getfield 44, 3) := by decide +kernel
theorem d_PR_read_4 : decode c_PR_read 4 = .ok (.aload_n 0, 1) := by decide +kernel
theorem d_PR_read_5 : decode c_PR_read 5 = .ok (.getfield 30, 3) := by decide +kernel
theorem d_PR_read_8 : decode c_PR_read 8 = .ok (.invokevirtual 150, 3) := by decide +kernel
theorem d_PR_read_11 : decode c_PR_read 11 = .ok (.invokevirtual 163, 3) := by decide +kernel
theorem d_PR_read_14 : decode c_PR_read 14 = .ok (.istore_n 1, 1) := by decide +kernel
theorem d_PR_read_15 : decode c_PR_read 15 = .ok (.iconst 0, 1) := by decide +kernel
theorem d_PR_read_16 : decode c_PR_read 16 = .ok (.istore_n 2, 1) := by decide +kernel
theorem d_PR_read_17 : decode c_PR_read 17 = .ok (.iload_n 2, 1) := by decide +kernel
theorem d_PR_read_18 : decode c_PR_read 18 = .ok (.iload_n 1, 1) := by decide +kernel
theorem d_PR_read_19 : decode c_PR_read 19 = .ok (.if_icmp .ge 49, 3) := by decide +kernel
theorem d_PR_read_22 : decode c_PR_read 22 = .ok (.iload_n 2, 1) := by decide +kernel
theorem d_PR_read_23 : decode c_PR_read 23 = .ok (.bipush 24, 2) := by decide +kernel
theorem d_PR_read_25 : decode c_PR_read 25 = .ok (.if_icmp .ge 43, 3) := by decide +kernel
theorem d_PR_read_28 : decode c_PR_read 28 = .ok (.aload_n 0, 1) := by decide +kernel
theorem d_PR_read_29 : decode c_PR_read 29 = .ok (.getfield 44, 3) := by decide +kernel
theorem d_PR_read_32 : decode c_PR_read 32 = .ok (.getfield 166, 3) := by decide +kernel
theorem d_PR_read_35 : decode c_PR_read 35 = .ok (.iload_n 2, 1) := by decide +kernel
theorem d_PR_read_36 : decode c_PR_read 36 = .ok (.aaload, 1) := by decide +kernel
theorem d_PR_read_37 : decode c_PR_read 37 = .ok (.astore_n 3, 1) := by decide +kernel
theorem d_PR_read_38 : decode c_PR_read 38 = .ok (.aload_n 0, 1) := by decide +kernel
theorem d_PR_read_39 : decode c_PR_read 39 = .ok (.getfield 30, 3) := by decide +kernel
theorem d_PR_read_42 : decode c_PR_read 42 = .ok (.aload_n 3, 1) := by decide +kernel
theorem d_PR_read_43 : decode c_PR_read 43 = .ok (.getfield 170, 3) := by decide +kernel
theorem d_PR_read_46 : decode c_PR_read 46 = .ok (.aload_n 3, 1) := by decide +kernel
theorem d_PR_read_47 : decode c_PR_read 47 = .ok (.getfield 175, 3) := by decide +kernel
theorem d_PR_read_50 : decode c_PR_read 50 = .ok (.aload_n 3, 1) := by decide +kernel
theorem d_PR_read_51 : decode c_PR_read 51 = .ok (.getfield 179, 3) := by decide +kernel
theorem d_PR_read_54 : decode c_PR_read 54 = .ok (.aload_n 3, 1) := by decide +kernel
theorem d_PR_read_55 : decode c_PR_read 55 = .ok (.getfield 182, 3) := by decide +kernel
theorem d_PR_read_58 : decode c_PR_read 58 = .ok (.invokevirtual 155, 3) := by decide +kernel
theorem d_PR_read_61 : decode c_PR_read 61 = .ok (.pop, 1) := by decide +kernel
theorem d_PR_read_62 : decode c_PR_read 62 = .ok (.iinc 2 1, 3) := by decide +kernel
theorem d_PR_read_65 : decode c_PR_read 65 = .ok (.goto (-48), 3) := by decide +kernel
theorem d_PR_read_68 : decode c_PR_read 68 = .ok (.aload_n 0, 1) := by decide +kernel
theorem d_PR_read_69 : decode c_PR_read 69 = .ok (.getfield 44, 3) := by decide +kernel
theorem d_PR_read_72 : decode c_PR_read 72 = .ok (.invokevirtual 185, 3) := by decide +kernel
theorem d_PR_read_75 : decode c_PR_read 75 = .ok (.iload_n 1, 1) := by decide +kernel
theorem d_PR_read_76 : decode c_PR_read 76 = .ok (.ireturn, 1) := by decide +kernel
theorem d_PR_own_0 : decode c_PR_own 0 = .ok (.iload_n 1, 1) := by decide +kernel
theorem d_PR_own_1 : decode c_PR_own 1 = .ok (.iconst 0, 1) := by decide +kernel
theorem d_PR_own_2 : decode c_PR_own 2 = .ok (.iconst 3, 1) := by decide +kernel
theorem d_PR_own_3 : decode c_PR_own 3 = .ok (.invokestatic 81, 3) := by decide +kernel
theorem d_PR_own_6 : decode c_PR_own 6 = .ok (.iload_n 2, 1) := by decide +kernel
theorem d_PR_own_7 : decode c_PR_own 7 = .ok (.iconst 0, 1) := by decide +kernel
theorem d_PR_own_8 : decode c_PR_own 8 = .ok (.iconst 3, 1) := by decide +kernel
theorem d_PR_own_9 : decode c_PR_own 9 = .ok (.invokestatic 81, 3) := by decide +kernel
theorem d_PR_own_12 : decode c_PR_own 12 = .ok (.aload_n 0, 1) := by decide +kernel
theorem d_PR_own_13 : decode c_PR_own 13 = .ok (.getfield 37, 3) := by decide +kernel
theorem d_PR_own_16 : decode c_PR_own 16 = .ok (.getfield 188, 3) := by decide +kernel
theorem d_PR_own_19 : decode c_PR_own 19 = .ok (.iload_n 1, 1) := by decide +kernel
theorem d_PR_own_20 : decode c_PR_own 20 = .ok (.iload_n 2, 1) := by decide +kernel
theorem d_PR_own_21 : decode c_PR_own 21 = .ok (.iastore, 1) := by decide +kernel
theorem d_PR_own_22 : decode c_PR_own 22 = .ok (.return_, 1) := by decide +kernel
theorem d_PR_except_0 : decode c_PR_except 0 = .ok (.iload_n 1, 1) := by decide +kernel
theorem d_PR_except_1 : decode c_PR_except 1 = .ok (.ifCond .lt 14, 3) := by decide +kernel
theorem d_PR_except_4 : decode c_PR_except 4 = .ok (.iload_n 1, 1) := by decide +kernel
theorem d_PR_except_5 : decode c_PR_except 5 = .ok (.aload_n 0, 1) := by decide +kernel
theorem d_PR_except_6 : decode c_PR_except 6 = .ok (.getfield 30, 3) := by decide +kernel
theorem d_PR_except_9 : decode c_PR_except 9 = .ok (.getfield 191, 3) := by decide +kernel
theorem d_PR_except_12 : decode c_PR_except 12 = .ok (.if_icmp .lt 13, 3) := by decide +kernel
theorem d_PR_except_15 : decode c_PR_except 15 = .ok (.new 194, 3) := by decide +kernel
theorem d_PR_except_18 : decode c_PR_except 18 = .ok (.dup, 1) := by decide +kernel
theorem d_PR_except_19 : decode c_PR_except 19 = .ok (.ldc 196, 2) := by decide +kernel
theorem d_PR_except_21 : decode c_PR_except 21 = .ok (.invokespecial 198, 3) := by decide +kernel
theorem d_PR_except_24 : decode c_PR_except 24 = .ok (.athrow, 1) := by decide +kernel
theorem d_PR_except_25 : decode c_PR_except 25 = .ok (.iload_n 2, 1) := by decide +kernel
theorem d_PR_except_26 : decode c_PR_except 26 = .ok (.iconst (-1), 1) := by decide +kernel
theorem d_PR_except_27 : decode c_PR_except 27 = .ok (.bipush 11, 2) := by decide +kernel
theorem d_PR_except_29 : decode c_PR_except 29 = .ok (.invokestatic 81, 3) := by decide +kernel
theorem d_PR_except_32 : decode c_PR_except 32 = .ok (.iload_n 3, 1) := by decide +kernel
theorem d_PR_except_33 : decode c_PR_except 33 = .ok (.iconst (-1), 1) := by decide +kernel
theorem d_PR_except_34 : decode c_PR_except 34 = .ok (.bipush 7, 2) := by decide +kernel
theorem d_PR_except_36 : decode c_PR_except 36 = .ok (.invokestatic 81, 3) := by decide +kernel
theorem d_PR_except_39 : decode c_PR_except 39 = .ok (.iload 4, 2) := by decide +kernel
theorem d_PR_except_41 : decode c_PR_except 41 = .ok (.iconst 0, 1) := by decide +kernel
theorem d_PR_except_42 : decode c_PR_except 42 = .ok (.sipush 1000, 3) := by decide +kernel
theorem d_PR_except_45 : decode c_PR_except 45 = .ok (.invokestatic 81, 3) := by decide +kernel
theorem d_PR_except_48 : decode c_PR_except 48 = .ok (.aload_n 0, 1) := by decide +kernel
theorem d_PR_except_49 : decode c_PR_except 49 = .ok (.iload_n 1, 1) := by decide +kernel
theorem d_PR_except_50 : decode c_PR_except 50 = .ok (.iload_n 2, 1) := by decide +kernel
theorem d_PR_except_51 : decode c_PR_except 51 = .ok (.iload_n 3, 1) := by decide +kernel
theorem d_PR_except_52 : decode c_PR_except 52 = .ok (.invokevirtual 199, 3) := by decide +kernel
theorem d_PR_except_55 : decode c_PR_except 55 = .ok (.istore 5, 2) := by decide +kernel
theorem d_PR_except_57 : decode c_PR_except 57 = .ok (.iload 5, 2) := by decide +kernel
theorem d_PR_except_59 : decode c_PR_except 59 = .ok (.iconst (-1), 1) := by decide +kernel
theorem d_PR_except_60 : decode c_PR_except 60 = .ok (.if_icmp .eq 29, 3) := by decide +kernel
theorem d_PR_except_63 : decode c_PR_except 63 = .ok (.aload_n 0, 1) := by decide +kernel
theorem d_PR_except_64 : decode c_PR_except 64 = .ok (.getfield 23, 3) := by decide +kernel
theorem d_PR_except_67 : decode c_PR_except 67 = .ok (.iload 5, 2) := by decide +kernel
theorem d_PR_except_69 : decode c_PR_except 69 = .ok (.aaload, 1) := by decide +kernel
theorem d_PR_except_70 : decode c_PR_except 70 = .ok (.aload_n 0, 1) := by decide +kernel
theorem d_PR_except_71 : decode c_PR_except 71 = .ok (.getfield 23, 3) := by decide +kernel
theorem d_PR_except_74 : decode c_PR_except 74 = .ok (.iload 5, 2) := by decide +kernel
theorem d_PR_except_76 : decode c_PR_except 76 = .ok (.aaload, 1) := by decide +kernel
theorem d_PR_except_77 : decode c_PR_except 77 = .ok (.getfield 203, 3) := by decide +kernel
theorem d_PR_except_80 : decode c_PR_except 80 = .ok (.iload 4, 2) := by decide +kernel
theorem d_PR_except_82 : decode c_PR_except 82 = .ok (.invokestatic 206, 3) := by decide +kernel
theorem d_PR_except_85 : decode c_PR_except 85 = .ok (.putfield 203, 3) := by decide +kernel
theorem d_PR_except_88 : decode c_PR_except 88 = .ok (.return_, 1) := by decide +kernel
theorem d_PR_except_89 : decode c_PR_except 89 = .ok (.aload_n 0, 1) := by decide +kernel
theorem d_PR_except_90 : decode c_PR_except 90 = .ok (.getfield 212, 3) := by decide +kernel
theorem d_PR_except_93 : decode c_PR_except 93 = .ok (.bipush 20, 2) := by decide +kernel
theorem d_PR_except_95 : decode c_PR_except 95 = .ok (.if_icmp .lt 13, 3) := by decide +kernel
theorem d_PR_except_98 : decode c_PR_except 98 = .ok (.new 93, 3) := by decide +kernel
theorem d_PR_except_101 : decode c_PR_except 101 = .ok (.dup, 1) := by decide +kernel
theorem d_PR_except_102 : decode c_PR_except 102 = .ok (.ldc 215, 2) := by decide +kernel
theorem d_PR_except_104 : decode c_PR_except 104 = .ok (.invokespecial 97, 3) := by decide +kernel
theorem d_PR_except_107 : decode c_PR_except 107 = .ok (.athrow, 1) := by decide +kernel
theorem d_PR_except_108 : decode c_PR_except 108 = .ok (.aload_n 0, 1) := by decide +kernel
theorem d_PR_except_109 : decode c_PR_except 109 = .ok (.getfield 23, 3) := by decide +kernel
theorem d_PR_except_112 : decode c_PR_except 112 = .ok (.aload_n 0, 1) := by decide +kernel
theorem d_PR_except_113 : decode c_PR_except 113 = .ok (.getfield 212, 3) := by decide +kernel
theorem d_PR_except_116 : decode c_PR_except 116 = .ok (.aaload, 1) := by decide +kernel
theorem d_PR_except_117 : decode c_PR_except 117 = .ok (.astore 6, 2) := by decide +kernel
theorem d_PR_except_119 : decode c_PR_except 119 = .ok (.aload 6, 2) := by decide +kernel
theorem d_PR_except_121 : decode c_PR_except 121 = .ok (.iload_n 1, 1) := by decide +kernel
theorem d_PR_except_122 : decode c_PR_except 122 = .ok (.putfield 217, 3) := by decide +kernel
theorem d_PR_except_125 : decode c_PR_except 125 = .ok (.aload 6, 2) := by decide +kernel
theorem d_PR_except_127 : decode c_PR_except 127 = .ok (.iload_n 2, 1) := by decide +kernel
theorem d_PR_except_128 : decode c_PR_except 128 = .ok (.putfield 220, 3) := by decide +kernel
theorem d_PR_except_131 : decode c_PR_except 131 = .ok (.aload 6, 2) := by decide +kernel
theorem d_PR_except_133 : decode c_PR_except 133 = .ok (.iload_n 3, 1) := by decide +kernel
theorem d_PR_except_134 : decode c_PR_except 134 = .ok (.putfield 223, 3) := by decide +kernel
theorem d_PR_except_137 : decode c_PR_except 137 = .ok (.aload 6, 2) := by decide +kernel
theorem d_PR_except_139 : decode c_PR_except 139 = .ok (.iload 4, 2) := by decide +kernel
theorem d_PR_except_141 : decode c_PR_except 141 = .ok (.putfield 203, 3) := by decide +kernel
theorem d_PR_except_144 : decode c_PR_except 144 = .ok (.aload_n 0, 1) := by decide +kernel
theorem d_PR_except_145 : decode c_PR_except 145 = .ok (.dup, 1) := by decide +kernel
theorem d_PR_except_146 : decode c_PR_except 146 = .ok (.getfield 212, 3) := by decide +kernel
theorem d_PR_except_149 : decode c_PR_except 149 = .ok (.iconst 1, 1) := by decide +kernel
theorem d_PR_except_150 : decode c_PR_except 150 = .ok (.iadd, 1) := by decide +kernel
theorem d_PR_except_151 : decode c_PR_except 151 = .ok (.putfield 212, 3) := by decide +kernel
theorem d_PR_except_154 : decode c_PR_except 154 = .ok (.return_, 1) := by decide +kernel
theorem d_PR_may_0 : decode c_PR_may 0 = .ok (.aload_n 0, 1) := by decide +kernel
theorem d_PR_may_1 : decode c_PR_may 1 = .ok (.iload_n 1, 1) := by decide +kernel
theorem d_PR_may_2 : decode c_PR_may 2 = .ok (.iload_n 2, 1) := by decide +kernel
theorem d_PR_may_3 : decode c_PR_may 3 = .ok (.iload_n 3, 1) := by decide +kernel
theorem d_PR_may_4 : decode c_PR_may 4 = .ok (.invokevirtual 224, 3) := by decide +kernel
theorem d_PR_may_7 : decode c_PR_may 7 = .ok (.aload_n 0, 1) := by decide +kernel
theorem d_PR_may_8 : decode c_PR_may 8 = .ok (.iload_n 1, 1) := by decide +kernel
theorem d_PR_may_9 : decode c_PR_may 9 = .ok (.iload_n 2, 1) := by decide +kernel
theorem d_PR_may_10 : decode c_PR_may 10 = .ok (.iload_n 3, 1) := by decide +kernel
theorem d_PR_may_11 : decode c_PR_may 11 = .ok (.invokevirtual 227, 3) := by decide +kernel
theorem d_PR_may_14 : decode c_PR_may 14 = .ok (.ireturn, 1) := by decide +kernel
theorem d_PR_explain_0 : decode c_PR_explain 0 = .ok (.iload_n 1, 1) := by decide +kernel
theorem d_PR_explain_1 : decode c_PR_explain 1 = .ok (.invokestatic 230, 3) := by decide +kernel
theorem d_PR_explain_4 : decode c_PR_explain 4 = .ok (.iload_n 1, 1) := by decide +kernel
theorem d_PR_explain_5 : decode c_PR_explain 5 = .ok (.aload_n 0, 1) := by decide +kernel
theorem d_PR_explain_6 : decode c_PR_explain 6 = .ok (.getfield 233, 3) := by decide +kernel
theorem d_PR_explain_9 : decode c_PR_explain 9 = .ok (.if_icmp .ge 12, 3) := by decide +kernel
theorem d_PR_explain_12 : decode c_PR_explain 12 = .ok (.aload_n 0, 1) := by decide +kernel
theorem d_PR_explain_13 : decode c_PR_explain 13 = .ok (.getfield 55, 3) := by decide +kernel
theorem d_PR_explain_16 : decode c_PR_explain 16 = .ok (.iload_n 1, 1) := by decide +kernel
theorem d_PR_explain_17 : decode c_PR_explain 17 = .ok (.iaload, 1) := by decide +kernel
theorem d_PR_explain_18 : decode c_PR_explain 18 = .ok (.goto 4, 3) := by decide +kernel
theorem d_PR_explain_21 : decode c_PR_explain 21 = .ok (.iconst (-1), 1) := by decide +kernel
theorem d_PR_explain_22 : decode c_PR_explain 22 = .ok (.ireturn, 1) := by decide +kernel
theorem d_PR_put_0 : decode c_PR_put 0 = .ok (.aload_n 0, 1) := by decide +kernel
theorem d_PR_put_1 : decode c_PR_put 1 = .ok (.iload_n 1, 1) := by decide +kernel
theorem d_PR_put_2 : decode c_PR_put 2 = .ok (.iload_n 2, 1) := by decide +kernel
theorem d_PR_put_3 : decode c_PR_put 3 = .ok (.iload_n 3, 1) := by decide +kernel
theorem d_PR_put_4 : decode c_PR_put 4 = .ok (.invokevirtual 224, 3) := by decide +kernel
theorem d_PR_put_7 : decode c_PR_put 7 = .ok (.aload_n 0, 1) := by decide +kernel
theorem d_PR_put_8 : decode c_PR_put 8 = .ok (.getfield 17, 3) := by decide +kernel
theorem d_PR_put_11 : decode c_PR_put 11 = .ok (.iload_n 1, 1) := by decide +kernel
theorem d_PR_put_12 : decode c_PR_put 12 = .ok (.aaload, 1) := by decide +kernel
theorem d_PR_put_13 : decode c_PR_put 13 = .ok (.getfield 236, 3) := by decide +kernel
theorem d_PR_put_16 : decode c_PR_put 16 = .ok (.iload_n 2, 1) := by decide +kernel
theorem d_PR_put_17 : decode c_PR_put 17 = .ok (.if_icmp .ne 13, 3) := by decide +kernel
theorem d_PR_put_20 : decode c_PR_put 20 = .ok (.new 237, 3) := by decide +kernel
theorem d_PR_put_23 : decode c_PR_put 23 = .ok (.dup, 1) := by decide +kernel
theorem d_PR_put_24 : decode c_PR_put 24 = .ok (.ldc 239, 2) := by decide +kernel
theorem d_PR_put_26 : decode c_PR_put 26 = .ok (.invokespecial 241, 3) := by decide +kernel
theorem d_PR_put_29 : decode c_PR_put 29 = .ok (.athrow, 1) := by decide +kernel
theorem d_PR_put_30 : decode c_PR_put 30 = .ok (.aload_n 0, 1) := by decide +kernel
theorem d_PR_put_31 : decode c_PR_put 31 = .ok (.iload_n 1, 1) := by decide +kernel
theorem d_PR_put_32 : decode c_PR_put 32 = .ok (.iload_n 2, 1) := by decide +kernel
theorem d_PR_put_33 : decode c_PR_put 33 = .ok (.iload_n 3, 1) := by decide +kernel
theorem d_PR_put_34 : decode c_PR_put 34 = .ok (.invokevirtual 227, 3) := by decide +kernel
theorem d_PR_put_37 : decode c_PR_put 37 = .ok (.istore 4, 2) := by decide +kernel
theorem d_PR_put_39 : decode c_PR_put 39 = .ok (.iload 4, 2) := by decide +kernel
theorem d_PR_put_41 : decode c_PR_put 41 = .ok (.ifCond .ne 13, 3) := by decide +kernel
theorem d_PR_put_44 : decode c_PR_put 44 = .ok (.aload_n 0, 1) := by decide +kernel
theorem d_PR_put_45 : decode c_PR_put 45 = .ok (.getfield 17, 3) := by decide +kernel
theorem d_PR_put_48 : decode c_PR_put 48 = .ok (.iload_n 1, 1) := by decide +kernel
theorem d_PR_put_49 : decode c_PR_put 49 = .ok (.aaload, 1) := by decide +kernel
theorem d_PR_put_50 : decode c_PR_put 50 = .ok (.iload_n 2, 1) := by decide +kernel
theorem d_PR_put_51 : decode c_PR_put 51 = .ok (.putfield 236, 3) := by decide +kernel
theorem d_PR_put_54 : decode c_PR_put 54 = .ok (.iload 4, 2) := by decide +kernel
theorem d_PR_put_56 : decode c_PR_put 56 = .ok (.ireturn, 1) := by decide +kernel
theorem d_PR_take_0 : decode c_PR_take 0 = .ok (.aload_n 0, 1) := by decide +kernel
theorem d_PR_take_1 : decode c_PR_take 1 = .ok (.iload_n 1, 1) := by decide +kernel
theorem d_PR_take_2 : decode c_PR_take 2 = .ok (.invokevirtual 109, 3) := by decide +kernel
theorem d_PR_take_5 : decode c_PR_take 5 = .ok (.aload_n 0, 1) := by decide +kernel
theorem d_PR_take_6 : decode c_PR_take 6 = .ok (.getfield 17, 3) := by decide +kernel
theorem d_PR_take_9 : decode c_PR_take 9 = .ok (.iload_n 1, 1) := by decide +kernel
theorem d_PR_take_10 : decode c_PR_take 10 = .ok (.aaload, 1) := by decide +kernel
theorem d_PR_take_11 : decode c_PR_take 11 = .ok (.getfield 236, 3) := by decide +kernel
theorem d_PR_take_14 : decode c_PR_take 14 = .ok (.iconst (-1), 1) := by decide +kernel
theorem d_PR_take_15 : decode c_PR_take 15 = .ok (.if_icmp .ne 13, 3) := by decide +kernel
theorem d_PR_take_18 : decode c_PR_take 18 = .ok (.new 237, 3) := by decide +kernel
theorem d_PR_take_21 : decode c_PR_take 21 = .ok (.dup, 1) := by decide +kernel
theorem d_PR_take_22 : decode c_PR_take 22 = .ok (.ldc 242, 2) := by decide +kernel
theorem d_PR_take_24 : decode c_PR_take 24 = .ok (.invokespecial 241, 3) := by decide +kernel
theorem d_PR_take_27 : decode c_PR_take 27 = .ok (.athrow, 1) := by decide +kernel
theorem d_PR_take_28 : decode c_PR_take 28 = .ok (.aload_n 0, 1) := by decide +kernel
theorem d_PR_take_29 : decode c_PR_take 29 = .ok (.getfield 17, 3) := by decide +kernel
theorem d_PR_take_32 : decode c_PR_take 32 = .ok (.iload_n 1, 1) := by decide +kernel
theorem d_PR_take_33 : decode c_PR_take 33 = .ok (.aaload, 1) := by decide +kernel
theorem d_PR_take_34 : decode c_PR_take 34 = .ok (.iconst (-1), 1) := by decide +kernel
theorem d_PR_take_35 : decode c_PR_take 35 = .ok (.putfield 236, 3) := by decide +kernel
theorem d_PR_take_38 : decode c_PR_take 38 = .ok (.return_, 1) := by decide +kernel
theorem d_PR_turned_0 : decode c_PR_turned 0 = .ok (.aload_n 0, 1) := by decide +kernel
theorem d_PR_turned_1 : decode c_PR_turned 1 = .ok (.iload_n 1, 1) := by decide +kernel
theorem d_PR_turned_2 : decode c_PR_turned 2 = .ok (.invokevirtual 109, 3) := by decide +kernel
theorem d_PR_turned_5 : decode c_PR_turned 5 = .ok (.iload_n 2, 1) := by decide +kernel
theorem d_PR_turned_6 : decode c_PR_turned 6 = .ok (.invokestatic 62, 3) := by decide +kernel
theorem d_PR_turned_9 : decode c_PR_turned 9 = .ok (.aload_n 0, 1) := by decide +kernel
theorem d_PR_turned_10 : decode c_PR_turned 10 = .ok (.getfield 11, 3) := by decide +kernel
theorem d_PR_turned_13 : decode c_PR_turned 13 = .ok (.iload_n 2, 1) := by decide +kernel
theorem d_PR_turned_14 : decode c_PR_turned 14 = .ok (.aaload, 1) := by decide +kernel
theorem d_PR_turned_15 : decode c_PR_turned 15 = .ok (.aload_n 0, 1) := by decide +kernel
theorem d_PR_turned_16 : decode c_PR_turned 16 = .ok (.getfield 17, 3) := by decide +kernel
theorem d_PR_turned_19 : decode c_PR_turned 19 = .ok (.iload_n 1, 1) := by decide +kernel
theorem d_PR_turned_20 : decode c_PR_turned 20 = .ok (.aaload, 1) := by decide +kernel
theorem d_PR_turned_21 : decode c_PR_turned 21 = .ok (.invokevirtual 244, 3) := by decide +kernel
theorem d_PR_turned_24 : decode c_PR_turned 24 = .ok (.ireturn, 1) := by decide +kernel
theorem d_PR_never_0 : decode c_PR_never 0 = .ok (.iload_n 1, 1) := by decide +kernel
theorem d_PR_never_1 : decode c_PR_never 1 = .ok (.invokestatic 230, 3) := by decide +kernel
theorem d_PR_never_4 : decode c_PR_never 4 = .ok (.aload_n 0, 1) := by decide +kernel
theorem d_PR_never_5 : decode c_PR_never 5 = .ok (.getfield 30, 3) := by decide +kernel
theorem d_PR_never_8 : decode c_PR_never 8 = .ok (.iload_n 1, 1) := by decide +kernel
theorem d_PR_never_9 : decode c_PR_never 9 = .ok (.invokevirtual 248, 3) := by decide +kernel
theorem d_PR_never_12 : decode c_PR_never 12 = .ok (.ireturn, 1) := by decide +kernel
theorem d_PR_clash_0 : decode c_PR_clash 0 = .ok (.iload_n 1, 1) := by decide +kernel
theorem d_PR_clash_1 : decode c_PR_clash 1 = .ok (.invokestatic 230, 3) := by decide +kernel
theorem d_PR_clash_4 : decode c_PR_clash 4 = .ok (.iload_n 2, 1) := by decide +kernel
theorem d_PR_clash_5 : decode c_PR_clash 5 = .ok (.iconst 0, 1) := by decide +kernel
theorem d_PR_clash_6 : decode c_PR_clash 6 = .ok (.iconst 1, 1) := by decide +kernel
theorem d_PR_clash_7 : decode c_PR_clash 7 = .ok (.invokestatic 81, 3) := by decide +kernel
theorem d_PR_clash_10 : decode c_PR_clash 10 = .ok (.iload_n 1, 1) := by decide +kernel
theorem d_PR_clash_11 : decode c_PR_clash 11 = .ok (.aload_n 0, 1) := by decide +kernel
theorem d_PR_clash_12 : decode c_PR_clash 12 = .ok (.getfield 30, 3) := by decide +kernel
theorem d_PR_clash_15 : decode c_PR_clash 15 = .ok (.getfield 251, 3) := by decide +kernel
theorem d_PR_clash_18 : decode c_PR_clash 18 = .ok (.if_icmp .lt 5, 3) := by decide +kernel
theorem d_PR_clash_21 : decode c_PR_clash 21 = .ok (.iconst (-1), 1) := by decide +kernel
theorem d_PR_clash_22 : decode c_PR_clash 22 = .ok (.ireturn, 1) := by decide +kernel
theorem d_PR_clash_23 : decode c_PR_clash 23 = .ok (.iload_n 2, 1) := by decide +kernel
theorem d_PR_clash_24 : decode c_PR_clash 24 = .ok (.ifCond .ne 15, 3) := by decide +kernel
theorem d_PR_clash_27 : decode c_PR_clash 27 = .ok (.aload_n 0, 1) := by decide +kernel
theorem d_PR_clash_28 : decode c_PR_clash 28 = .ok (.getfield 30, 3) := by decide +kernel
theorem d_PR_clash_31 : decode c_PR_clash 31 = .ok (.getfield 254, 3) := by decide +kernel
theorem d_PR_clash_34 : decode c_PR_clash 34 = .ok (.iload_n 1, 1) := by decide +kernel
theorem d_PR_clash_35 : decode c_PR_clash 35 = .ok (.iaload, 1) := by decide +kernel
theorem d_PR_clash_36 : decode c_PR_clash 36 = .ok (.goto 12, 3) := by decide +kernel
theorem d_PR_clash_39 : decode c_PR_clash 39 = .ok (.aload_n 0, 1) := by decide +kernel
theorem d_PR_clash_40 : decode c_PR_clash 40 = .ok (.getfield 30, 3) := by decide +kernel
theorem d_PR_clash_43 : decode c_PR_clash 43 = .ok (.getfield 257, 3) := by decide +kernel
theorem d_PR_clash_46 : decode c_PR_clash 46 = .ok (.iload_n 1, 1) := by decide +kernel
theorem d_PR_clash_47 : decode c_PR_clash 47 = .ok (.iaload, 1) := by decide +kernel
theorem d_PR_clash_48 : decode c_PR_clash 48 = .ok (.ireturn, 1) := by decide +kernel
theorem d_PR_at_0 : decode c_PR_at 0 = .ok (.iload_n 1, 1) := by decide +kernel
theorem d_PR_at_1 : decode c_PR_at 1 = .ok (.invokestatic 62, 3) := by decide +kernel
theorem d_PR_at_4 : decode c_PR_at 4 = .ok (.iload_n 2, 1) := by decide +kernel
theorem d_PR_at_5 : decode c_PR_at 5 = .ok (.invokestatic 230, 3) := by decide +kernel
theorem d_PR_at_8 : decode c_PR_at 8 = .ok (.iconst 0, 1) := by decide +kernel
theorem d_PR_at_9 : decode c_PR_at 9 = .ok (.istore_n 3, 1) := by decide +kernel
theorem d_PR_at_10 : decode c_PR_at 10 = .ok (.iconst 0, 1) := by decide +kernel
theorem d_PR_at_11 : decode c_PR_at 11 = .ok (.istore 4, 2) := by decide +kernel
theorem d_PR_at_13 : decode c_PR_at 13 = .ok (.iload 4, 2) := by decide +kernel
theorem d_PR_at_15 : decode c_PR_at 15 = .ok (.aload_n 0, 1) := by decide +kernel
theorem d_PR_at_16 : decode c_PR_at 16 = .ok (.getfield 90, 3) := by decide +kernel
theorem d_PR_at_19 : decode c_PR_at 19 = .ok (.if_icmp .ge 34, 3) := by decide +kernel
theorem d_PR_at_22 : decode c_PR_at 22 = .ok (.aload_n 0, 1) := by decide +kernel
theorem d_PR_at_23 : decode c_PR_at 23 = .ok (.getfield 17, 3) := by decide +kernel
theorem d_PR_at_26 : decode c_PR_at 26 = .ok (.iload 4, 2) := by decide +kernel
theorem d_PR_at_28 : decode c_PR_at 28 = .ok (.aaload, 1) := by decide +kernel
theorem d_PR_at_29 : decode c_PR_at 29 = .ok (.getfield 236, 3) := by decide +kernel
theorem d_PR_at_32 : decode c_PR_at 32 = .ok (.iload_n 1, 1) := by decide +kernel
theorem d_PR_at_33 : decode c_PR_at 33 = .ok (.if_icmp .ne 14, 3) := by decide +kernel
theorem d_PR_at_36 : decode c_PR_at 36 = .ok (.iload_n 3, 1) := by decide +kernel
theorem d_PR_at_37 : decode c_PR_at 37 = .ok (.iload_n 2, 1) := by decide +kernel
theorem d_PR_at_38 : decode c_PR_at 38 = .ok (.if_icmp .ne 6, 3) := by decide +kernel
theorem d_PR_at_41 : decode c_PR_at 41 = .ok (.iload 4, 2) := by decide +kernel
theorem d_PR_at_43 : decode c_PR_at 43 = .ok (.ireturn, 1) := by decide +kernel
theorem d_PR_at_44 : decode c_PR_at 44 = .ok (.iinc 3 1, 3) := by decide +kernel
theorem d_PR_at_47 : decode c_PR_at 47 = .ok (.iinc 4 1, 3) := by decide +kernel
theorem d_PR_at_50 : decode c_PR_at 50 = .ok (.goto (-37), 3) := by decide +kernel
theorem d_PR_at_53 : decode c_PR_at 53 = .ok (.iconst (-1), 1) := by decide +kernel
theorem d_PR_at_54 : decode c_PR_at 54 = .ok (.ireturn, 1) := by decide +kernel
theorem d_PR_count_0 : decode c_PR_count 0 = .ok (.iload_n 1, 1) := by decide +kernel
theorem d_PR_count_1 : decode c_PR_count 1 = .ok (.tableswitch 81 0 5 #[39, 47, 52, 57, 65, 73], 39) := by decide +kernel
theorem d_PR_count_40 : decode c_PR_count 40 = .ok (.aload_n 0, 1) := by decide +kernel
theorem d_PR_count_41 : decode c_PR_count 41 = .ok (.getfield 30, 3) := by decide +kernel
theorem d_PR_count_44 : decode c_PR_count 44 = .ok (.getfield 191, 3) := by decide +kernel
theorem d_PR_count_47 : decode c_PR_count 47 = .ok (.ireturn, 1) := by decide +kernel
theorem d_PR_count_48 : decode c_PR_count 48 = .ok (.aload_n 0, 1) := by decide +kernel
theorem d_PR_count_49 : decode c_PR_count 49 = .ok (.getfield 90, 3) := by decide +kernel
theorem d_PR_count_52 : decode c_PR_count 52 = .ok (.ireturn, 1) := by decide +kernel
theorem d_PR_count_53 : decode c_PR_count 53 = .ok (.aload_n 0, 1) := by decide +kernel
theorem d_PR_count_54 : decode c_PR_count 54 = .ok (.getfield 212, 3) := by decide +kernel
theorem d_PR_count_57 : decode c_PR_count 57 = .ok (.ireturn, 1) := by decide +kernel
theorem d_PR_count_58 : decode c_PR_count 58 = .ok (.aload_n 0, 1) := by decide +kernel
theorem d_PR_count_59 : decode c_PR_count 59 = .ok (.getfield 30, 3) := by decide +kernel
theorem d_PR_count_62 : decode c_PR_count 62 = .ok (.getfield 251, 3) := by decide +kernel
theorem d_PR_count_65 : decode c_PR_count 65 = .ok (.ireturn, 1) := by decide +kernel
theorem d_PR_count_66 : decode c_PR_count 66 = .ok (.aload_n 0, 1) := by decide +kernel
theorem d_PR_count_67 : decode c_PR_count 67 = .ok (.getfield 44, 3) := by decide +kernel
theorem d_PR_count_70 : decode c_PR_count 70 = .ok (.getfield 260, 3) := by decide +kernel
theorem d_PR_count_73 : decode c_PR_count 73 = .ok (.ireturn, 1) := by decide +kernel
theorem d_PR_count_74 : decode c_PR_count 74 = .ok (.aload_n 0, 1) := by decide +kernel
theorem d_PR_count_75 : decode c_PR_count 75 = .ok (.getfield 37, 3) := by decide +kernel
theorem d_PR_count_78 : decode c_PR_count 78 = .ok (.getfield 263, 3) := by decide +kernel
theorem d_PR_count_81 : decode c_PR_count 81 = .ok (.ireturn, 1) := by decide +kernel
theorem d_PR_count_82 : decode c_PR_count 82 = .ok (.iconst (-1), 1) := by decide +kernel
theorem d_PR_count_83 : decode c_PR_count 83 = .ok (.ireturn, 1) := by decide +kernel
theorem d_PR_ask_0 : decode c_PR_ask 0 = .ok (.aload_n 0, 1) := by decide +kernel
theorem d_PR_ask_1 : decode c_PR_ask 1 = .ok (.iload_n 1, 1) := by decide +kernel
theorem d_PR_ask_2 : decode c_PR_ask 2 = .ok (.iload_n 2, 1) := by decide +kernel
theorem d_PR_ask_3 : decode c_PR_ask 3 = .ok (.iload_n 3, 1) := by decide +kernel
theorem d_PR_ask_4 : decode c_PR_ask 4 = .ok (.invokevirtual 266, 3) := by decide +kernel
theorem d_PR_ask_7 : decode c_PR_ask 7 = .ok (.aload_n 0, 1) := by decide +kernel
theorem d_PR_ask_8 : decode c_PR_ask 8 = .ok (.getfield 17, 3) := by decide +kernel
theorem d_PR_ask_11 : decode c_PR_ask 11 = .ok (.iload_n 1, 1) := by decide +kernel
theorem d_PR_ask_12 : decode c_PR_ask 12 = .ok (.aaload, 1) := by decide +kernel
theorem d_PR_ask_13 : decode c_PR_ask 13 = .ok (.getfield 106, 3) := by decide +kernel
theorem d_PR_ask_16 : decode c_PR_ask 16 = .ok (.istore 4, 2) := by decide +kernel
theorem d_PR_ask_18 : decode c_PR_ask 18 = .ok (.aload_n 0, 1) := by decide +kernel
theorem d_PR_ask_19 : decode c_PR_ask 19 = .ok (.iconst 0, 1) := by decide +kernel
theorem d_PR_ask_20 : decode c_PR_ask 20 = .ok (.putfield 233, 3) := by decide +kernel
theorem d_PR_ask_23 : decode c_PR_ask 23 = .ok (.iconst 0, 1) := by decide +kernel
theorem d_PR_ask_24 : decode c_PR_ask 24 = .ok (.istore 5, 2) := by decide +kernel
theorem d_PR_ask_26 : decode c_PR_ask 26 = .ok (.iload 5, 2) := by decide +kernel
theorem d_PR_ask_28 : decode c_PR_ask 28 = .ok (.aload_n 0, 1) := by decide +kernel
theorem d_PR_ask_29 : decode c_PR_ask 29 = .ok (.getfield 30, 3) := by decide +kernel
theorem d_PR_ask_32 : decode c_PR_ask 32 = .ok (.getfield 191, 3) := by decide +kernel
theorem d_PR_ask_35 : decode c_PR_ask 35 = .ok (.if_icmp .ge 89, 3) := by decide +kernel
theorem d_PR_ask_38 : decode c_PR_ask 38 = .ok (.aload_n 0, 1) := by decide +kernel
theorem d_PR_ask_39 : decode c_PR_ask 39 = .ok (.getfield 30, 3) := by decide +kernel
theorem d_PR_ask_42 : decode c_PR_ask 42 = .ok (.getfield 269, 3) := by decide +kernel
theorem d_PR_ask_45 : decode c_PR_ask 45 = .ok (.iload 5, 2) := by decide +kernel
theorem d_PR_ask_47 : decode c_PR_ask 47 = .ok (.iaload, 1) := by decide +kernel
theorem d_PR_ask_48 : decode c_PR_ask 48 = .ok (.istore 6, 2) := by decide +kernel
theorem d_PR_ask_50 : decode c_PR_ask 50 = .ok (.aload_n 0, 1) := by decide +kernel
theorem d_PR_ask_51 : decode c_PR_ask 51 = .ok (.getfield 30, 3) := by decide +kernel
theorem d_PR_ask_54 : decode c_PR_ask 54 = .ok (.getfield 272, 3) := by decide +kernel
theorem d_PR_ask_57 : decode c_PR_ask 57 = .ok (.iload 6, 2) := by decide +kernel
theorem d_PR_ask_59 : decode c_PR_ask 59 = .ok (.aaload, 1) := by decide +kernel
theorem d_PR_ask_60 : decode c_PR_ask 60 = .ok (.astore 7, 2) := by decide +kernel
theorem d_PR_ask_62 : decode c_PR_ask 62 = .ok (.aload_n 0, 1) := by decide +kernel
theorem d_PR_ask_63 : decode c_PR_ask 63 = .ok (.iload 6, 2) := by decide +kernel
theorem d_PR_ask_65 : decode c_PR_ask 65 = .ok (.iload_n 2, 1) := by decide +kernel
theorem d_PR_ask_66 : decode c_PR_ask 66 = .ok (.iload 4, 2) := by decide +kernel
theorem d_PR_ask_68 : decode c_PR_ask 68 = .ok (.iload_n 3, 1) := by decide +kernel
theorem d_PR_ask_69 : decode c_PR_ask 69 = .ok (.invokevirtual 275, 3) := by decide +kernel
theorem d_PR_ask_72 : decode c_PR_ask 72 = .ok (.ifCond .ne 46, 3) := by decide +kernel
theorem d_PR_ask_75 : decode c_PR_ask 75 = .ok (.aload 7, 2) := by decide +kernel
theorem d_PR_ask_77 : decode c_PR_ask 77 = .ok (.aload_n 0, 1) := by decide +kernel
theorem d_PR_ask_78 : decode c_PR_ask 78 = .ok (.getfield 51, 3) := by decide +kernel
theorem d_PR_ask_81 : decode c_PR_ask 81 = .ok (.aload_n 0, 1) := by decide +kernel
theorem d_PR_ask_82 : decode c_PR_ask 82 = .ok (.getfield 37, 3) := by decide +kernel
theorem d_PR_ask_85 : decode c_PR_ask 85 = .ok (.invokevirtual 279, 3) := by decide +kernel
theorem d_PR_ask_88 : decode c_PR_ask 88 = .ok (.ifCond .eq 30, 3) := by decide +kernel
theorem d_PR_ask_91 : decode c_PR_ask 91 = .ok (.aload 7, 2) := by decide +kernel
theorem d_PR_ask_93 : decode c_PR_ask 93 = .ok (.iconst 1, 1) := by decide +kernel
theorem d_PR_ask_94 : decode c_PR_ask 94 = .ok (.putfield 283, 3) := by decide +kernel
theorem d_PR_ask_97 : decode c_PR_ask 97 = .ok (.aload_n 0, 1) := by decide +kernel
theorem d_PR_ask_98 : decode c_PR_ask 98 = .ok (.getfield 55, 3) := by decide +kernel
theorem d_PR_ask_101 : decode c_PR_ask 101 = .ok (.aload_n 0, 1) := by decide +kernel
theorem d_PR_ask_102 : decode c_PR_ask 102 = .ok (.getfield 233, 3) := by decide +kernel
theorem d_PR_ask_105 : decode c_PR_ask 105 = .ok (.iload 6, 2) := by decide +kernel
theorem d_PR_ask_107 : decode c_PR_ask 107 = .ok (.iastore, 1) := by decide +kernel
theorem d_PR_ask_108 : decode c_PR_ask 108 = .ok (.aload_n 0, 1) := by decide +kernel
theorem d_PR_ask_109 : decode c_PR_ask 109 = .ok (.dup, 1) := by decide +kernel
theorem d_PR_ask_110 : decode c_PR_ask 110 = .ok (.getfield 233, 3) := by decide +kernel
theorem d_PR_ask_113 : decode c_PR_ask 113 = .ok (.iconst 1, 1) := by decide +kernel
theorem d_PR_ask_114 : decode c_PR_ask 114 = .ok (.iadd, 1) := by decide +kernel
theorem d_PR_ask_115 : decode c_PR_ask 115 = .ok (.putfield 233, 3) := by decide +kernel
theorem d_PR_ask_118 : decode c_PR_ask 118 = .ok (.iinc 5 1, 3) := by decide +kernel
theorem d_PR_ask_121 : decode c_PR_ask 121 = .ok (.goto (-95), 3) := by decide +kernel
theorem d_PR_ask_124 : decode c_PR_ask 124 = .ok (.aload_n 0, 1) := by decide +kernel
theorem d_PR_ask_125 : decode c_PR_ask 125 = .ok (.getfield 233, 3) := by decide +kernel
theorem d_PR_ask_128 : decode c_PR_ask 128 = .ok (.ifCond .ne 7, 3) := by decide +kernel
theorem d_PR_ask_131 : decode c_PR_ask 131 = .ok (.iconst 0, 1) := by decide +kernel
theorem d_PR_ask_132 : decode c_PR_ask 132 = .ok (.goto 11, 3) := by decide +kernel
theorem d_PR_ask_135 : decode c_PR_ask 135 = .ok (.aload_n 0, 1) := by decide +kernel
theorem d_PR_ask_136 : decode c_PR_ask 136 = .ok (.getfield 55, 3) := by decide +kernel
theorem d_PR_ask_139 : decode c_PR_ask 139 = .ok (.iconst 0, 1) := by decide +kernel
theorem d_PR_ask_140 : decode c_PR_ask 140 = .ok (.iaload, 1) := by decide +kernel
theorem d_PR_ask_141 : decode c_PR_ask 141 = .ok (.iconst 1, 1) := by decide +kernel
theorem d_PR_ask_142 : decode c_PR_ask 142 = .ok (.iadd, 1) := by decide +kernel
theorem d_PR_ask_143 : decode c_PR_ask 143 = .ok (.ireturn, 1) := by decide +kernel
theorem d_PR_gather_0 : decode c_PR_gather 0 = .ok (.aload_n 0, 1) := by decide +kernel
theorem d_PR_gather_1 : decode c_PR_gather 1 = .ok (.getfield 51, 3) := by decide +kernel
theorem d_PR_gather_4 : decode c_PR_gather 4 = .ok (.aload_n 0, 1) := by decide +kernel
theorem d_PR_gather_5 : decode c_PR_gather 5 = .ok (.getfield 17, 3) := by decide +kernel
theorem d_PR_gather_8 : decode c_PR_gather 8 = .ok (.iload_n 1, 1) := by decide +kernel
theorem d_PR_gather_9 : decode c_PR_gather 9 = .ok (.aaload, 1) := by decide +kernel
theorem d_PR_gather_10 : decode c_PR_gather 10 = .ok (.aload_n 0, 1) := by decide +kernel
theorem d_PR_gather_11 : decode c_PR_gather 11 = .ok (.getfield 11, 3) := by decide +kernel
theorem d_PR_gather_14 : decode c_PR_gather 14 = .ok (.iload_n 2, 1) := by decide +kernel
theorem d_PR_gather_15 : decode c_PR_gather 15 = .ok (.aaload, 1) := by decide +kernel
theorem d_PR_gather_16 : decode c_PR_gather 16 = .ok (.iload_n 3, 1) := by decide +kernel
theorem d_PR_gather_17 : decode c_PR_gather 17 = .ok (.invokevirtual 287, 3) := by decide +kernel
theorem d_PR_gather_20 : decode c_PR_gather 20 = .ok (.iconst 0, 1) := by decide +kernel
theorem d_PR_gather_21 : decode c_PR_gather 21 = .ok (.istore 4, 2) := by decide +kernel
theorem d_PR_gather_23 : decode c_PR_gather 23 = .ok (.iload 4, 2) := by decide +kernel
theorem d_PR_gather_25 : decode c_PR_gather 25 = .ok (.aload_n 0, 1) := by decide +kernel
theorem d_PR_gather_26 : decode c_PR_gather 26 = .ok (.getfield 90, 3) := by decide +kernel
theorem d_PR_gather_29 : decode c_PR_gather 29 = .ok (.if_icmp .ge 43, 3) := by decide +kernel
theorem d_PR_gather_32 : decode c_PR_gather 32 = .ok (.iload 4, 2) := by decide +kernel
theorem d_PR_gather_34 : decode c_PR_gather 34 = .ok (.iload_n 1, 1) := by decide +kernel
theorem d_PR_gather_35 : decode c_PR_gather 35 = .ok (.if_icmp .eq 31, 3) := by decide +kernel
theorem d_PR_gather_38 : decode c_PR_gather 38 = .ok (.aload_n 0, 1) := by decide +kernel
theorem d_PR_gather_39 : decode c_PR_gather 39 = .ok (.getfield 17, 3) := by decide +kernel
theorem d_PR_gather_42 : decode c_PR_gather 42 = .ok (.iload 4, 2) := by decide +kernel
theorem d_PR_gather_44 : decode c_PR_gather 44 = .ok (.aaload, 1) := by decide +kernel
theorem d_PR_gather_45 : decode c_PR_gather 45 = .ok (.getfield 236, 3) := by decide +kernel
theorem d_PR_gather_48 : decode c_PR_gather 48 = .ok (.iload_n 2, 1) := by decide +kernel
theorem d_PR_gather_49 : decode c_PR_gather 49 = .ok (.if_icmp .ne 17, 3) := by decide +kernel
theorem d_PR_gather_52 : decode c_PR_gather 52 = .ok (.aload_n 0, 1) := by decide +kernel
theorem d_PR_gather_53 : decode c_PR_gather 53 = .ok (.getfield 51, 3) := by decide +kernel
theorem d_PR_gather_56 : decode c_PR_gather 56 = .ok (.aload_n 0, 1) := by decide +kernel
theorem d_PR_gather_57 : decode c_PR_gather 57 = .ok (.getfield 17, 3) := by decide +kernel
theorem d_PR_gather_60 : decode c_PR_gather 60 = .ok (.iload 4, 2) := by decide +kernel
theorem d_PR_gather_62 : decode c_PR_gather 62 = .ok (.aaload, 1) := by decide +kernel
theorem d_PR_gather_63 : decode c_PR_gather 63 = .ok (.invokevirtual 291, 3) := by decide +kernel
theorem d_PR_gather_66 : decode c_PR_gather 66 = .ok (.iinc 4 1, 3) := by decide +kernel
theorem d_PR_gather_69 : decode c_PR_gather 69 = .ok (.goto (-46), 3) := by decide +kernel
theorem d_PR_gather_72 : decode c_PR_gather 72 = .ok (.return_, 1) := by decide +kernel
theorem d_PR_isWaived_0 : decode c_PR_isWaived 0 = .ok (.iconst 0, 1) := by decide +kernel
theorem d_PR_isWaived_1 : decode c_PR_isWaived 1 = .ok (.istore 5, 2) := by decide +kernel
theorem d_PR_isWaived_3 : decode c_PR_isWaived 3 = .ok (.iload 5, 2) := by decide +kernel
theorem d_PR_isWaived_5 : decode c_PR_isWaived 5 = .ok (.aload_n 0, 1) := by decide +kernel
theorem d_PR_isWaived_6 : decode c_PR_isWaived 6 = .ok (.getfield 212, 3) := by decide +kernel
theorem d_PR_isWaived_9 : decode c_PR_isWaived 9 = .ok (.if_icmp .ge 29, 3) := by decide +kernel
theorem d_PR_isWaived_12 : decode c_PR_isWaived 12 = .ok (.aload_n 0, 1) := by decide +kernel
theorem d_PR_isWaived_13 : decode c_PR_isWaived 13 = .ok (.getfield 23, 3) := by decide +kernel
theorem d_PR_isWaived_16 : decode c_PR_isWaived 16 = .ok (.iload 5, 2) := by decide +kernel
theorem d_PR_isWaived_18 : decode c_PR_isWaived 18 = .ok (.aaload, 1) := by decide +kernel
theorem d_PR_isWaived_19 : decode c_PR_isWaived 19 = .ok (.iload_n 1, 1) := by decide +kernel
theorem d_PR_isWaived_20 : decode c_PR_isWaived 20 = .ok (.iload_n 2, 1) := by decide +kernel
theorem d_PR_isWaived_21 : decode c_PR_isWaived 21 = .ok (.iload_n 3, 1) := by decide +kernel
theorem d_PR_isWaived_22 : decode c_PR_isWaived 22 = .ok (.iload 4, 2) := by decide +kernel
theorem d_PR_isWaived_24 : decode c_PR_isWaived 24 = .ok (.invokevirtual 295, 3) := by decide +kernel
theorem d_PR_isWaived_27 : decode c_PR_isWaived 27 = .ok (.ifCond .eq 5, 3) := by decide +kernel
theorem d_PR_isWaived_30 : decode c_PR_isWaived 30 = .ok (.iconst 1, 1) := by decide +kernel
theorem d_PR_isWaived_31 : decode c_PR_isWaived 31 = .ok (.ireturn, 1) := by decide +kernel
theorem d_PR_isWaived_32 : decode c_PR_isWaived 32 = .ok (.iinc 5 1, 3) := by decide +kernel
theorem d_PR_isWaived_35 : decode c_PR_isWaived 35 = .ok (.goto (-32), 3) := by decide +kernel
theorem d_PR_isWaived_38 : decode c_PR_isWaived 38 = .ok (.iconst 0, 1) := by decide +kernel
theorem d_PR_isWaived_39 : decode c_PR_isWaived 39 = .ok (.ireturn, 1) := by decide +kernel
theorem d_PR_findWaiver_0 : decode c_PR_findWaiver 0 = .ok (.iconst 0, 1) := by decide +kernel
theorem d_PR_findWaiver_1 : decode c_PR_findWaiver 1 = .ok (.istore 4, 2) := by decide +kernel
theorem d_PR_findWaiver_3 : decode c_PR_findWaiver 3 = .ok (.iload 4, 2) := by decide +kernel
theorem d_PR_findWaiver_5 : decode c_PR_findWaiver 5 = .ok (.aload_n 0, 1) := by decide +kernel
theorem d_PR_findWaiver_6 : decode c_PR_findWaiver 6 = .ok (.getfield 212, 3) := by decide +kernel
theorem d_PR_findWaiver_9 : decode c_PR_findWaiver 9 = .ok (.if_icmp .ge 48, 3) := by decide +kernel
theorem d_PR_findWaiver_12 : decode c_PR_findWaiver 12 = .ok (.aload_n 0, 1) := by decide +kernel
theorem d_PR_findWaiver_13 : decode c_PR_findWaiver 13 = .ok (.getfield 23, 3) := by decide +kernel
theorem d_PR_findWaiver_16 : decode c_PR_findWaiver 16 = .ok (.iload 4, 2) := by decide +kernel
theorem d_PR_findWaiver_18 : decode c_PR_findWaiver 18 = .ok (.aaload, 1) := by decide +kernel
theorem d_PR_findWaiver_19 : decode c_PR_findWaiver 19 = .ok (.astore 5, 2) := by decide +kernel
theorem d_PR_findWaiver_21 : decode c_PR_findWaiver 21 = .ok (.aload 5, 2) := by decide +kernel
theorem d_PR_findWaiver_23 : decode c_PR_findWaiver 23 = .ok (.getfield 217, 3) := by decide +kernel
theorem d_PR_findWaiver_26 : decode c_PR_findWaiver 26 = .ok (.iload_n 1, 1) := by decide +kernel
theorem d_PR_findWaiver_27 : decode c_PR_findWaiver 27 = .ok (.if_icmp .ne 24, 3) := by decide +kernel
theorem d_PR_findWaiver_30 : decode c_PR_findWaiver 30 = .ok (.aload 5, 2) := by decide +kernel
theorem d_PR_findWaiver_32 : decode c_PR_findWaiver 32 = .ok (.getfield 220, 3) := by decide +kernel
theorem d_PR_findWaiver_35 : decode c_PR_findWaiver 35 = .ok (.iload_n 2, 1) := by decide +kernel
theorem d_PR_findWaiver_36 : decode c_PR_findWaiver 36 = .ok (.if_icmp .ne 15, 3) := by decide +kernel
theorem d_PR_findWaiver_39 : decode c_PR_findWaiver 39 = .ok (.aload 5, 2) := by decide +kernel
theorem d_PR_findWaiver_41 : decode c_PR_findWaiver 41 = .ok (.getfield 223, 3) := by decide +kernel
theorem d_PR_findWaiver_44 : decode c_PR_findWaiver 44 = .ok (.iload_n 3, 1) := by decide +kernel
theorem d_PR_findWaiver_45 : decode c_PR_findWaiver 45 = .ok (.if_icmp .ne 6, 3) := by decide +kernel
theorem d_PR_findWaiver_48 : decode c_PR_findWaiver 48 = .ok (.iload 4, 2) := by decide +kernel
theorem d_PR_findWaiver_50 : decode c_PR_findWaiver 50 = .ok (.ireturn, 1) := by decide +kernel
theorem d_PR_findWaiver_51 : decode c_PR_findWaiver 51 = .ok (.iinc 4 1, 3) := by decide +kernel
theorem d_PR_findWaiver_54 : decode c_PR_findWaiver 54 = .ok (.goto (-51), 3) := by decide +kernel
theorem d_PR_findWaiver_57 : decode c_PR_findWaiver 57 = .ok (.iconst (-1), 1) := by decide +kernel
theorem d_PR_findWaiver_58 : decode c_PR_findWaiver 58 = .ok (.ireturn, 1) := by decide +kernel
theorem d_PR_needQuestion_0 : decode c_PR_needQuestion 0 = .ok (.aload_n 0, 1) := by decide +kernel
theorem d_PR_needQuestion_1 : decode c_PR_needQuestion 1 = .ok (.iload_n 1, 1) := by decide +kernel
theorem d_PR_needQuestion_2 : decode c_PR_needQuestion 2 = .ok (.invokevirtual 109, 3) := by decide +kernel
theorem d_PR_needQuestion_5 : decode c_PR_needQuestion 5 = .ok (.iload_n 2, 1) := by decide +kernel
theorem d_PR_needQuestion_6 : decode c_PR_needQuestion 6 = .ok (.invokestatic 62, 3) := by decide +kernel
theorem d_PR_needQuestion_9 : decode c_PR_needQuestion 9 = .ok (.iload_n 3, 1) := by decide +kernel
theorem d_PR_needQuestion_10 : decode c_PR_needQuestion 10 = .ok (.iconst 0, 1) := by decide +kernel
theorem d_PR_needQuestion_11 : decode c_PR_needQuestion 11 = .ok (.sipush 1000, 3) := by decide +kernel
theorem d_PR_needQuestion_14 : decode c_PR_needQuestion 14 = .ok (.invokestatic 81, 3) := by decide +kernel
theorem d_PR_needQuestion_17 : decode c_PR_needQuestion 17 = .ok (.return_, 1) := by decide +kernel
theorem d_PR_needUnit_0 : decode c_PR_needUnit 0 = .ok (.iload_n 1, 1) := by decide +kernel
theorem d_PR_needUnit_1 : decode c_PR_needUnit 1 = .ok (.ifCond .lt 11, 3) := by decide +kernel
theorem d_PR_needUnit_4 : decode c_PR_needUnit 4 = .ok (.iload_n 1, 1) := by decide +kernel
theorem d_PR_needUnit_5 : decode c_PR_needUnit 5 = .ok (.aload_n 0, 1) := by decide +kernel
theorem d_PR_needUnit_6 : decode c_PR_needUnit 6 = .ok (.getfield 90, 3) := by decide +kernel
theorem d_PR_needUnit_9 : decode c_PR_needUnit 9 = .ok (.if_icmp .lt 14, 3) := by decide +kernel
theorem d_PR_needUnit_12 : decode c_PR_needUnit 12 = .ok (.new 194, 3) := by decide +kernel
theorem d_PR_needUnit_15 : decode c_PR_needUnit 15 = .ok (.dup, 1) := by decide +kernel
theorem d_PR_needUnit_16 : decode c_PR_needUnit 16 = .ok (.ldc_w 298, 3) := by decide +kernel
theorem d_PR_needUnit_19 : decode c_PR_needUnit 19 = .ok (.invokespecial 198, 3) := by decide +kernel
theorem d_PR_needUnit_22 : decode c_PR_needUnit 22 = .ok (.athrow, 1) := by decide +kernel
theorem d_PR_needUnit_23 : decode c_PR_needUnit 23 = .ok (.return_, 1) := by decide +kernel
theorem d_PR_needNowhere_0 : decode c_PR_needNowhere 0 = .ok (.aload_n 0, 1) := by decide +kernel
theorem d_PR_needNowhere_1 : decode c_PR_needNowhere 1 = .ok (.getfield 17, 3) := by decide +kernel
theorem d_PR_needNowhere_4 : decode c_PR_needNowhere 4 = .ok (.iload_n 1, 1) := by decide +kernel
theorem d_PR_needNowhere_5 : decode c_PR_needNowhere 5 = .ok (.aaload, 1) := by decide +kernel
theorem d_PR_needNowhere_6 : decode c_PR_needNowhere 6 = .ok (.getfield 236, 3) := by decide +kernel
theorem d_PR_needNowhere_9 : decode c_PR_needNowhere 9 = .ok (.iconst (-1), 1) := by decide +kernel
theorem d_PR_needNowhere_10 : decode c_PR_needNowhere 10 = .ok (.if_icmp .eq 14, 3) := by decide +kernel
theorem d_PR_needNowhere_13 : decode c_PR_needNowhere 13 = .ok (.new 237, 3) := by decide +kernel
theorem d_PR_needNowhere_16 : decode c_PR_needNowhere 16 = .ok (.dup, 1) := by decide +kernel
theorem d_PR_needNowhere_17 : decode c_PR_needNowhere 17 = .ok (.ldc_w 300, 3) := by decide +kernel
theorem d_PR_needNowhere_20 : decode c_PR_needNowhere 20 = .ok (.invokespecial 241, 3) := by decide +kernel
theorem d_PR_needNowhere_23 : decode c_PR_needNowhere 23 = .ok (.athrow, 1) := by decide +kernel
theorem d_PR_needNowhere_24 : decode c_PR_needNowhere 24 = .ok (.return_, 1) := by decide +kernel
theorem d_PR_needPlace_0 : decode c_PR_needPlace 0 = .ok (.iload_n 0, 1) := by decide +kernel
theorem d_PR_needPlace_1 : decode c_PR_needPlace 1 = .ok (.iconst 0, 1) := by decide +kernel
theorem d_PR_needPlace_2 : decode c_PR_needPlace 2 = .ok (.bipush 11, 2) := by decide +kernel
theorem d_PR_needPlace_4 : decode c_PR_needPlace 4 = .ok (.invokestatic 81, 3) := by decide +kernel
theorem d_PR_needPlace_7 : decode c_PR_needPlace 7 = .ok (.return_, 1) := by decide +kernel
theorem d_PR_needLengths_0 : decode c_PR_needLengths 0 = .ok (.iload_n 0, 1) := by decide +kernel
theorem d_PR_needLengths_1 : decode c_PR_needLengths 1 = .ok (.iconst 1, 1) := by decide +kernel
theorem d_PR_needLengths_2 : decode c_PR_needLengths 2 = .ok (.sipush 9999, 3) := by decide +kernel
theorem d_PR_needLengths_5 : decode c_PR_needLengths 5 = .ok (.invokestatic 81, 3) := by decide +kernel
theorem d_PR_needLengths_8 : decode c_PR_needLengths 8 = .ok (.iload_n 1, 1) := by decide +kernel
theorem d_PR_needLengths_9 : decode c_PR_needLengths 9 = .ok (.iconst 1, 1) := by decide +kernel
theorem d_PR_needLengths_10 : decode c_PR_needLengths 10 = .ok (.sipush 9999, 3) := by decide +kernel
theorem d_PR_needLengths_13 : decode c_PR_needLengths 13 = .ok (.invokestatic 81, 3) := by decide +kernel
theorem d_PR_needLengths_16 : decode c_PR_needLengths 16 = .ok (.iload_n 2, 1) := by decide +kernel
theorem d_PR_needLengths_17 : decode c_PR_needLengths 17 = .ok (.iconst 1, 1) := by decide +kernel
theorem d_PR_needLengths_18 : decode c_PR_needLengths 18 = .ok (.sipush 9999, 3) := by decide +kernel
theorem d_PR_needLengths_21 : decode c_PR_needLengths 21 = .ok (.invokestatic 81, 3) := by decide +kernel
theorem d_PR_needLengths_24 : decode c_PR_needLengths 24 = .ok (.return_, 1) := by decide +kernel
theorem d_PR_needIndex_0 : decode c_PR_needIndex 0 = .ok (.iload_n 0, 1) := by decide +kernel
theorem d_PR_needIndex_1 : decode c_PR_needIndex 1 = .ok (.ifCond .ge 14, 3) := by decide +kernel
theorem d_PR_needIndex_4 : decode c_PR_needIndex 4 = .ok (.new 302, 3) := by decide +kernel
theorem d_PR_needIndex_7 : decode c_PR_needIndex 7 = .ok (.dup, 1) := by decide +kernel
theorem d_PR_needIndex_8 : decode c_PR_needIndex 8 = .ok (.ldc_w 304, 3) := by decide +kernel
theorem d_PR_needIndex_11 : decode c_PR_needIndex 11 = .ok (.invokespecial 306, 3) := by decide +kernel
theorem d_PR_needIndex_14 : decode c_PR_needIndex 14 = .ok (.athrow, 1) := by decide +kernel
theorem d_PR_needIndex_15 : decode c_PR_needIndex 15 = .ok (.return_, 1) := by decide +kernel
theorem d_PR_needWithin_0 : decode c_PR_needWithin 0 = .ok (.iload_n 0, 1) := by decide +kernel
theorem d_PR_needWithin_1 : decode c_PR_needWithin 1 = .ok (.iload_n 1, 1) := by decide +kernel
theorem d_PR_needWithin_2 : decode c_PR_needWithin 2 = .ok (.if_icmp .lt 8, 3) := by decide +kernel
theorem d_PR_needWithin_5 : decode c_PR_needWithin 5 = .ok (.iload_n 0, 1) := by decide +kernel
theorem d_PR_needWithin_6 : decode c_PR_needWithin 6 = .ok (.iload_n 2, 1) := by decide +kernel
theorem d_PR_needWithin_7 : decode c_PR_needWithin 7 = .ok (.if_icmp .le 14, 3) := by decide +kernel
theorem d_PR_needWithin_10 : decode c_PR_needWithin 10 = .ok (.new 302, 3) := by decide +kernel
theorem d_PR_needWithin_13 : decode c_PR_needWithin 13 = .ok (.dup, 1) := by decide +kernel
theorem d_PR_needWithin_14 : decode c_PR_needWithin 14 = .ok (.ldc_w 307, 3) := by decide +kernel
theorem d_PR_needWithin_17 : decode c_PR_needWithin 17 = .ok (.invokespecial 306, 3) := by decide +kernel
theorem d_PR_needWithin_20 : decode c_PR_needWithin 20 = .ok (.athrow, 1) := by decide +kernel
theorem d_PR_needWithin_21 : decode c_PR_needWithin 21 = .ok (.return_, 1) := by decide +kernel
theorem d_KD_hasSecond_0 : decode c_KD_hasSecond 0 = .ok (.aload_n 0, 1) := by decide +kernel
theorem d_KD_hasSecond_1 : decode c_KD_hasSecond 1 = .ok (.getfield 60, 3) := by decide +kernel
theorem d_KD_hasSecond_4 : decode c_KD_hasSecond 4 = .ok (.iconst 2, 1) := by decide +kernel
theorem d_KD_hasSecond_5 : decode c_KD_hasSecond 5 = .ok (.if_icmp .ne 7, 3) := by decide +kernel
theorem d_KD_hasSecond_8 : decode c_KD_hasSecond 8 = .ok (.iconst 1, 1) := by decide +kernel
theorem d_KD_hasSecond_9 : decode c_KD_hasSecond 9 = .ok (.goto 4, 3) := by decide +kernel
theorem d_KD_hasSecond_12 : decode c_KD_hasSecond 12 = .ok (.iconst 0, 1) := by decide +kernel
theorem d_KD_hasSecond_13 : decode c_KD_hasSecond 13 = .ok (.ireturn, 1) := by decide +kernel
theorem d_KD_leastSecond_0 : decode c_KD_leastSecond 0 = .ok (.aload_n 0, 1) := by decide +kernel
theorem d_KD_leastSecond_1 : decode c_KD_leastSecond 1 = .ok (.invokevirtual 70, 3) := by decide +kernel
theorem d_KD_leastSecond_4 : decode c_KD_leastSecond 4 = .ok (.ifCond .eq 10, 3) := by decide +kernel
theorem d_KD_leastSecond_7 : decode c_KD_leastSecond 7 = .ok (.aload_n 0, 1) := by decide +kernel
theorem d_KD_leastSecond_8 : decode c_KD_leastSecond 8 = .ok (.getfield 64, 3) := by decide +kernel
theorem d_KD_leastSecond_11 : decode c_KD_leastSecond 11 = .ok (.goto 4, 3) := by decide +kernel
theorem d_KD_leastSecond_14 : decode c_KD_leastSecond 14 = .ok (.iconst 0, 1) := by decide +kernel
theorem d_KD_leastSecond_15 : decode c_KD_leastSecond 15 = .ok (.ireturn, 1) := by decide +kernel
theorem d_KD_mostSecond_0 : decode c_KD_mostSecond 0 = .ok (.aload_n 0, 1) := by decide +kernel
theorem d_KD_mostSecond_1 : decode c_KD_mostSecond 1 = .ok (.invokevirtual 70, 3) := by decide +kernel
theorem d_KD_mostSecond_4 : decode c_KD_mostSecond 4 = .ok (.ifCond .eq 10, 3) := by decide +kernel
theorem d_KD_mostSecond_7 : decode c_KD_mostSecond 7 = .ok (.aload_n 0, 1) := by decide +kernel
theorem d_KD_mostSecond_8 : decode c_KD_mostSecond 8 = .ok (.getfield 67, 3) := by decide +kernel
theorem d_KD_mostSecond_11 : decode c_KD_mostSecond 11 = .ok (.goto 4, 3) := by decide +kernel
theorem d_KD_mostSecond_14 : decode c_KD_mostSecond 14 = .ok (.iconst 0, 1) := by decide +kernel
theorem d_KD_mostSecond_15 : decode c_KD_mostSecond 15 = .ok (.ireturn, 1) := by decide +kernel
theorem d_NS_init_0 : decode c_NS_init 0 = .ok (.aload_n 0, 1) := by decide +kernel
theorem d_NS_init_1 : decode c_NS_init 1 = .ok (.invokespecial 1, 3) := by decide +kernel
theorem d_NS_init_4 : decode c_NS_init 4 = .ok (.return_, 1) := by decide +kernel
theorem d_NS_clear_0 : decode c_NS_clear 0 = .ok (.aload_n 0, 1) := by decide +kernel
theorem d_NS_clear_1 : decode c_NS_clear 1 = .ok (.lconst 0, 1) := by decide +kernel
theorem d_NS_clear_2 : decode c_NS_clear 2 = .ok (.putfield 7, 3) := by decide +kernel
theorem d_NS_clear_5 : decode c_NS_clear 5 = .ok (.aload_n 0, 1) := by decide +kernel
theorem d_NS_clear_6 : decode c_NS_clear 6 = .ok (.lconst 0, 1) := by decide +kernel
theorem d_NS_clear_7 : decode c_NS_clear 7 = .ok (.putfield 13, 3) := by decide +kernel
theorem d_NS_clear_10 : decode c_NS_clear 10 = .ok (.return_, 1) := by decide +kernel
theorem d_NS_holdOnly_0 : decode c_NS_holdOnly 0 = .ok (.aload_n 0, 1) := by decide +kernel
theorem d_NS_holdOnly_1 : decode c_NS_holdOnly 1 = .ok (.invokevirtual 16, 3) := by decide +kernel
theorem d_NS_holdOnly_4 : decode c_NS_holdOnly 4 = .ok (.aload_n 0, 1) := by decide +kernel
theorem d_NS_holdOnly_5 : decode c_NS_holdOnly 5 = .ok (.iload_n 1, 1) := by decide +kernel
theorem d_NS_holdOnly_6 : decode c_NS_holdOnly 6 = .ok (.invokevirtual 19, 3) := by decide +kernel
theorem d_NS_holdOnly_9 : decode c_NS_holdOnly 9 = .ok (.return_, 1) := by decide +kernel
theorem d_NS_add_0 : decode c_NS_add 0 = .ok (.iload_n 1, 1) := by decide +kernel
theorem d_NS_add_1 : decode c_NS_add 1 = .ok (.bipush 64, 2) := by decide +kernel
theorem d_NS_add_3 : decode c_NS_add 3 = .ok (.if_icmp .ge 18, 3) := by decide +kernel
theorem d_NS_add_6 : decode c_NS_add 6 = .ok (.aload_n 0, 1) := by decide +kernel
theorem d_NS_add_7 : decode c_NS_add 7 = .ok (.dup, 1) := by decide +kernel
theorem d_NS_add_8 : decode c_NS_add 8 = .ok (.getfield 7, 3) := by decide +kernel
theorem d_NS_add_11 : decode c_NS_add 11 = .ok (.lconst 1, 1) := by decide +kernel
theorem d_NS_add_12 : decode c_NS_add 12 = .ok (.iload_n 1, 1) := by decide +kernel
theorem d_NS_add_13 : decode c_NS_add 13 = .ok (.lshl, 1) := by decide +kernel
theorem d_NS_add_14 : decode c_NS_add 14 = .ok (.lor, 1) := by decide +kernel
theorem d_NS_add_15 : decode c_NS_add 15 = .ok (.putfield 7, 3) := by decide +kernel
theorem d_NS_add_18 : decode c_NS_add 18 = .ok (.goto 18, 3) := by decide +kernel
theorem d_NS_add_21 : decode c_NS_add 21 = .ok (.aload_n 0, 1) := by decide +kernel
theorem d_NS_add_22 : decode c_NS_add 22 = .ok (.dup, 1) := by decide +kernel
theorem d_NS_add_23 : decode c_NS_add 23 = .ok (.getfield 13, 3) := by decide +kernel
theorem d_NS_add_26 : decode c_NS_add 26 = .ok (.lconst 1, 1) := by decide +kernel
theorem d_NS_add_27 : decode c_NS_add 27 = .ok (.iload_n 1, 1) := by decide +kernel
theorem d_NS_add_28 : decode c_NS_add 28 = .ok (.bipush 64, 2) := by decide +kernel
theorem d_NS_add_30 : decode c_NS_add 30 = .ok (.isub, 1) := by decide +kernel
theorem d_NS_add_31 : decode c_NS_add 31 = .ok (.lshl, 1) := by decide +kernel
theorem d_NS_add_32 : decode c_NS_add 32 = .ok (.lor, 1) := by decide +kernel
theorem d_NS_add_33 : decode c_NS_add 33 = .ok (.putfield 13, 3) := by decide +kernel
theorem d_NS_add_36 : decode c_NS_add 36 = .ok (.return_, 1) := by decide +kernel
theorem d_NS_has_0 : decode c_NS_has 0 = .ok (.iload_n 1, 1) := by decide +kernel
theorem d_NS_has_1 : decode c_NS_has 1 = .ok (.bipush 64, 2) := by decide +kernel
theorem d_NS_has_3 : decode c_NS_has 3 = .ok (.if_icmp .ge 12, 3) := by decide +kernel
theorem d_NS_has_6 : decode c_NS_has 6 = .ok (.aload_n 0, 1) := by decide +kernel
theorem d_NS_has_7 : decode c_NS_has 7 = .ok (.getfield 7, 3) := by decide +kernel
theorem d_NS_has_10 : decode c_NS_has 10 = .ok (.iload_n 1, 1) := by decide +kernel
theorem d_NS_has_11 : decode c_NS_has 11 = .ok (.lushr, 1) := by decide +kernel
theorem d_NS_has_12 : decode c_NS_has 12 = .ok (.goto 12, 3) := by decide +kernel
theorem d_NS_has_15 : decode c_NS_has 15 = .ok (.aload_n 0, 1) := by decide +kernel
theorem d_NS_has_16 : decode c_NS_has 16 = .ok (.getfield 13, 3) := by decide +kernel
theorem d_NS_has_19 : decode c_NS_has 19 = .ok (.iload_n 1, 1) := by decide +kernel
theorem d_NS_has_20 : decode c_NS_has 20 = .ok (.bipush 64, 2) := by decide +kernel
theorem d_NS_has_22 : decode c_NS_has 22 = .ok (.isub, 1) := by decide +kernel
theorem d_NS_has_23 : decode c_NS_has 23 = .ok (.lushr, 1) := by decide +kernel
theorem d_NS_has_24 : decode c_NS_has 24 = .ok (.lstore_n 2, 1) := by decide +kernel
theorem d_NS_has_25 : decode c_NS_has 25 = .ok (.lload_n 2, 1) := by decide +kernel
theorem d_NS_has_26 : decode c_NS_has 26 = .ok (.lconst 1, 1) := by decide +kernel
theorem d_NS_has_27 : decode c_NS_has 27 = .ok (.land, 1) := by decide +kernel
theorem d_NS_has_28 : decode c_NS_has 28 = .ok (.lconst 0, 1) := by decide +kernel
theorem d_NS_has_29 : decode c_NS_has 29 = .ok (.lcmp, 1) := by decide +kernel
theorem d_NS_has_30 : decode c_NS_has 30 = .ok (.ifCond .eq 7, 3) := by decide +kernel
theorem d_NS_has_33 : decode c_NS_has 33 = .ok (.iconst 1, 1) := by decide +kernel
theorem d_NS_has_34 : decode c_NS_has 34 = .ok (.goto 4, 3) := by decide +kernel
theorem d_NS_has_37 : decode c_NS_has 37 = .ok (.iconst 0, 1) := by decide +kernel
theorem d_NS_has_38 : decode c_NS_has 38 = .ok (.ireturn, 1) := by decide +kernel
theorem d_NS_howMany_0 : decode c_NS_howMany 0 = .ok (.aload_n 0, 1) := by decide +kernel
theorem d_NS_howMany_1 : decode c_NS_howMany 1 = .ok (.getfield 7, 3) := by decide +kernel
theorem d_NS_howMany_4 : decode c_NS_howMany 4 = .ok (.invokestatic 23, 3) := by decide +kernel
theorem d_NS_howMany_7 : decode c_NS_howMany 7 = .ok (.aload_n 0, 1) := by decide +kernel
theorem d_NS_howMany_8 : decode c_NS_howMany 8 = .ok (.getfield 13, 3) := by decide +kernel
theorem d_NS_howMany_11 : decode c_NS_howMany 11 = .ok (.invokestatic 23, 3) := by decide +kernel
theorem d_NS_howMany_14 : decode c_NS_howMany 14 = .ok (.iadd, 1) := by decide +kernel
theorem d_NS_howMany_15 : decode c_NS_howMany 15 = .ok (.ireturn, 1) := by decide +kernel
theorem d_OW_init_0 : decode c_OW_init 0 = .ok (.aload_n 0, 1) := by decide +kernel
theorem d_OW_init_1 : decode c_OW_init 1 = .ok (.invokespecial 3, 3) := by decide +kernel
theorem d_OW_init_4 : decode c_OW_init 4 = .ok (.aload_n 0, 1) := by decide +kernel
theorem d_OW_init_5 : decode c_OW_init 5 = .ok (.iconst 4, 1) := by decide +kernel
theorem d_OW_init_6 : decode c_OW_init 6 = .ok (.newarray .int, 2) := by decide +kernel
theorem d_OW_init_8 : decode c_OW_init 8 = .ok (.putfield 9, 3) := by decide +kernel
theorem d_OW_init_11 : decode c_OW_init 11 = .ok (.return_, 1) := by decide +kernel
theorem d_OW_refuse_0 : decode c_OW_refuse 0 = .ok (.iload_n 1, 1) := by decide +kernel
theorem d_OW_refuse_1 : decode c_OW_refuse 1 = .ok (.ifCond .lt 8, 3) := by decide +kernel
theorem d_OW_refuse_4 : decode c_OW_refuse 4 = .ok (.iload_n 1, 1) := by decide +kernel
theorem d_OW_refuse_5 : decode c_OW_refuse 5 = .ok (.iconst 4, 1) := by decide +kernel
theorem d_OW_refuse_6 : decode c_OW_refuse 6 = .ok (.if_icmp .lt 5, 3) := by decide +kernel
theorem d_OW_refuse_9 : decode c_OW_refuse 9 = .ok (.iconst 0, 1) := by decide +kernel
theorem d_OW_refuse_10 : decode c_OW_refuse 10 = .ok (.ireturn, 1) := by decide +kernel
theorem d_OW_refuse_11 : decode c_OW_refuse 11 = .ok (.aload_n 0, 1) := by decide +kernel
theorem d_OW_refuse_12 : decode c_OW_refuse 12 = .ok (.getfield 9, 3) := by decide +kernel
theorem d_OW_refuse_15 : decode c_OW_refuse 15 = .ok (.iload_n 1, 1) := by decide +kernel
theorem d_OW_refuse_16 : decode c_OW_refuse 16 = .ok (.iaload, 1) := by decide +kernel
theorem d_OW_refuse_17 : decode c_OW_refuse 17 = .ok (.tableswitch 58 1 3 #[27, 29, 46], 27) := by decide +kernel
theorem d_OW_refuse_44 : decode c_OW_refuse 44 = .ok (.iconst 1, 1) := by decide +kernel
theorem d_OW_refuse_45 : decode c_OW_refuse 45 = .ok (.ireturn, 1) := by decide +kernel
theorem d_OW_refuse_46 : decode c_OW_refuse 46 = .ok (.aload_n 2, 1) := by decide +kernel
theorem d_OW_refuse_47 : decode c_OW_refuse 47 = .ok (.getfield 15, 3) := by decide +kernel
theorem d_OW_refuse_50 : decode c_OW_refuse 50 = .ok (.aload_n 2, 1) := by decide +kernel
theorem d_OW_refuse_51 : decode c_OW_refuse 51 = .ok (.getfield 21, 3) := by decide +kernel
theorem d_OW_refuse_54 : decode c_OW_refuse 54 = .ok (.if_icmp .le 7, 3) := by decide +kernel
theorem d_OW_refuse_57 : decode c_OW_refuse 57 = .ok (.iconst 1, 1) := by decide +kernel
theorem d_OW_refuse_58 : decode c_OW_refuse 58 = .ok (.goto 4, 3) := by decide +kernel
theorem d_OW_refuse_61 : decode c_OW_refuse 61 = .ok (.iconst 0, 1) := by decide +kernel
theorem d_OW_refuse_62 : decode c_OW_refuse 62 = .ok (.ireturn, 1) := by decide +kernel
theorem d_OW_refuse_63 : decode c_OW_refuse 63 = .ok (.aload_n 0, 1) := by decide +kernel
theorem d_OW_refuse_64 : decode c_OW_refuse 64 = .ok (.dup, 1) := by decide +kernel
theorem d_OW_refuse_65 : decode c_OW_refuse 65 = .ok (.getfield 24, 3) := by decide +kernel
theorem d_OW_refuse_68 : decode c_OW_refuse 68 = .ok (.iconst 1, 1) := by decide +kernel
theorem d_OW_refuse_69 : decode c_OW_refuse 69 = .ok (.iadd, 1) := by decide +kernel
theorem d_OW_refuse_70 : decode c_OW_refuse 70 = .ok (.putfield 24, 3) := by decide +kernel
theorem d_OW_refuse_73 : decode c_OW_refuse 73 = .ok (.iconst 1, 1) := by decide +kernel
theorem d_OW_refuse_74 : decode c_OW_refuse 74 = .ok (.ireturn, 1) := by decide +kernel
theorem d_OW_refuse_75 : decode c_OW_refuse 75 = .ok (.iconst 0, 1) := by decide +kernel
theorem d_OW_refuse_76 : decode c_OW_refuse 76 = .ok (.ireturn, 1) := by decide +kernel
theorem d_PL_init_0 : decode c_PL_init 0 = .ok (.aload_n 0, 1) := by decide +kernel
theorem d_PL_init_1 : decode c_PL_init 1 = .ok (.invokespecial 3, 3) := by decide +kernel
theorem d_PL_init_4 : decode c_PL_init 4 = .ok (.aload_n 0, 1) := by decide +kernel
theorem d_PL_init_5 : decode c_PL_init 5 = .ok (.sipush 1000, 3) := by decide +kernel
theorem d_PL_init_8 : decode c_PL_init 8 = .ok (.putfield 9, 3) := by decide +kernel
theorem d_PL_init_11 : decode c_PL_init 11 = .ok (.aload_n 0, 1) := by decide +kernel
theorem d_PL_init_12 : decode c_PL_init 12 = .ok (.sipush 1000, 3) := by decide +kernel
theorem d_PL_init_15 : decode c_PL_init 15 = .ok (.putfield 15, 3) := by decide +kernel
theorem d_PL_init_18 : decode c_PL_init 18 = .ok (.aload_n 0, 1) := by decide +kernel
theorem d_PL_init_19 : decode c_PL_init 19 = .ok (.sipush 1000, 3) := by decide +kernel
theorem d_PL_init_22 : decode c_PL_init 22 = .ok (.putfield 18, 3) := by decide +kernel
theorem d_PL_init_25 : decode c_PL_init 25 = .ok (.aload_n 0, 1) := by decide +kernel
theorem d_PL_init_26 : decode c_PL_init 26 = .ok (.ldc 21, 2) := by decide +kernel
theorem d_PL_init_28 : decode c_PL_init 28 = .ok (.putfield 22, 3) := by decide +kernel
theorem d_PL_init_31 : decode c_PL_init 31 = .ok (.return_, 1) := by decide +kernel
theorem d_PL_firstWayFor_0 : decode c_PL_firstWayFor 0 = .ok (.iconst 0, 1) := by decide +kernel
theorem d_PL_firstWayFor_1 : decode c_PL_firstWayFor 1 = .ok (.istore_n 2, 1) := by decide +kernel
theorem d_PL_firstWayFor_2 : decode c_PL_firstWayFor 2 = .ok (.iload_n 2, 1) := by decide +kernel
theorem d_PL_firstWayFor_3 : decode c_PL_firstWayFor 3 = .ok (.bipush 6, 2) := by decide +kernel
theorem d_PL_firstWayFor_5 : decode c_PL_firstWayFor 5 = .ok (.if_icmp .ge 20, 3) := by decide +kernel
theorem d_PL_firstWayFor_8 : decode c_PL_firstWayFor 8 = .ok (.aload_n 0, 1) := by decide +kernel
theorem d_PL_firstWayFor_9 : decode c_PL_firstWayFor 9 = .ok (.aload_n 1, 1) := by decide +kernel
theorem d_PL_firstWayFor_10 : decode c_PL_firstWayFor 10 = .ok (.iload_n 2, 1) := by decide +kernel
theorem d_PL_firstWayFor_11 : decode c_PL_firstWayFor 11 = .ok (.invokevirtual 25, 3) := by decide +kernel
theorem d_PL_firstWayFor_14 : decode c_PL_firstWayFor 14 = .ok (.ifCond .eq 5, 3) := by decide +kernel
theorem d_PL_firstWayFor_17 : decode c_PL_firstWayFor 17 = .ok (.iload_n 2, 1) := by decide +kernel
theorem d_PL_firstWayFor_18 : decode c_PL_firstWayFor 18 = .ok (.ireturn, 1) := by decide +kernel
theorem d_PL_firstWayFor_19 : decode c_PL_firstWayFor 19 = .ok (.iinc 2 1, 3) := by decide +kernel
theorem d_PL_firstWayFor_22 : decode c_PL_firstWayFor 22 = .ok (.goto (-20), 3) := by decide +kernel
theorem d_PL_firstWayFor_25 : decode c_PL_firstWayFor 25 = .ok (.iconst (-1), 1) := by decide +kernel
theorem d_PL_firstWayFor_26 : decode c_PL_firstWayFor 26 = .ok (.ireturn, 1) := by decide +kernel
theorem d_PL_fits_0 : decode c_PL_fits 0 = .ok (.iload_n 2, 1) := by decide +kernel
theorem d_PL_fits_1 : decode c_PL_fits 1 = .ok (.tableswitch 141 0 5 #[39, 56, 73, 90, 107, 124], 39) := by decide +kernel
theorem d_PL_fits_40 : decode c_PL_fits 40 = .ok (.aload_n 0, 1) := by decide +kernel
theorem d_PL_fits_41 : decode c_PL_fits 41 = .ok (.aload_n 1, 1) := by decide +kernel
theorem d_PL_fits_42 : decode c_PL_fits 42 = .ok (.getfield 29, 3) := by decide +kernel
theorem d_PL_fits_45 : decode c_PL_fits 45 = .ok (.aload_n 1, 1) := by decide +kernel
theorem d_PL_fits_46 : decode c_PL_fits 46 = .ok (.getfield 32, 3) := by decide +kernel
theorem d_PL_fits_49 : decode c_PL_fits 49 = .ok (.aload_n 1, 1) := by decide +kernel
theorem d_PL_fits_50 : decode c_PL_fits 50 = .ok (.getfield 33, 3) := by decide +kernel
theorem d_PL_fits_53 : decode c_PL_fits 53 = .ok (.invokevirtual 34, 3) := by decide +kernel
theorem d_PL_fits_56 : decode c_PL_fits 56 = .ok (.ireturn, 1) := by decide +kernel
theorem d_PL_fits_57 : decode c_PL_fits 57 = .ok (.aload_n 0, 1) := by decide +kernel
theorem d_PL_fits_58 : decode c_PL_fits 58 = .ok (.aload_n 1, 1) := by decide +kernel
theorem d_PL_fits_59 : decode c_PL_fits 59 = .ok (.getfield 29, 3) := by decide +kernel
theorem d_PL_fits_62 : decode c_PL_fits 62 = .ok (.aload_n 1, 1) := by decide +kernel
theorem d_PL_fits_63 : decode c_PL_fits 63 = .ok (.getfield 33, 3) := by decide +kernel
theorem d_PL_fits_66 : decode c_PL_fits 66 = .ok (.aload_n 1, 1) := by decide +kernel
theorem d_PL_fits_67 : decode c_PL_fits 67 = .ok (.getfield 32, 3) := by decide +kernel
theorem d_PL_fits_70 : decode c_PL_fits 70 = .ok (.invokevirtual 34, 3) := by decide +kernel
theorem d_PL_fits_73 : decode c_PL_fits 73 = .ok (.ireturn, 1) := by decide +kernel
theorem d_PL_fits_74 : decode c_PL_fits 74 = .ok (.aload_n 0, 1) := by decide +kernel
theorem d_PL_fits_75 : decode c_PL_fits 75 = .ok (.aload_n 1, 1) := by decide +kernel
theorem d_PL_fits_76 : decode c_PL_fits 76 = .ok (.getfield 32, 3) := by decide +kernel
theorem d_PL_fits_79 : decode c_PL_fits 79 = .ok (.aload_n 1, 1) := by decide +kernel
theorem d_PL_fits_80 : decode c_PL_fits 80 = .ok (.getfield 29, 3) := by decide +kernel
theorem d_PL_fits_83 : decode c_PL_fits 83 = .ok (.aload_n 1, 1) := by decide +kernel
theorem d_PL_fits_84 : decode c_PL_fits 84 = .ok (.getfield 33, 3) := by decide +kernel
theorem d_PL_fits_87 : decode c_PL_fits 87 = .ok (.invokevirtual 34, 3) := by decide +kernel
theorem d_PL_fits_90 : decode c_PL_fits 90 = .ok (.ireturn, 1) := by decide +kernel
theorem d_PL_fits_91 : decode c_PL_fits 91 = .ok (.aload_n 0, 1) := by decide +kernel
theorem d_PL_fits_92 : decode c_PL_fits 92 = .ok (.aload_n 1, 1) := by decide +kernel
theorem d_PL_fits_93 : decode c_PL_fits 93 = .ok (.getfield 32, 3) := by decide +kernel
theorem d_PL_fits_96 : decode c_PL_fits 96 = .ok (.aload_n 1, 1) := by decide +kernel
theorem d_PL_fits_97 : decode c_PL_fits 97 = .ok (.getfield 33, 3) := by decide +kernel
theorem d_PL_fits_100 : decode c_PL_fits 100 = .ok (.aload_n 1, 1) := by decide +kernel
theorem d_PL_fits_101 : decode c_PL_fits 101 = .ok (.getfield 29, 3) := by decide +kernel
theorem d_PL_fits_104 : decode c_PL_fits 104 = .ok (.invokevirtual 34, 3) := by decide +kernel
theorem d_PL_fits_107 : decode c_PL_fits 107 = .ok (.ireturn, 1) := by decide +kernel
theorem d_PL_fits_108 : decode c_PL_fits 108 = .ok (.aload_n 0, 1) := by decide +kernel
theorem d_PL_fits_109 : decode c_PL_fits 109 = .ok (.aload_n 1, 1) := by decide +kernel
theorem d_PL_fits_110 : decode c_PL_fits 110 = .ok (.getfield 33, 3) := by decide +kernel
theorem d_PL_fits_113 : decode c_PL_fits 113 = .ok (.aload_n 1, 1) := by decide +kernel
theorem d_PL_fits_114 : decode c_PL_fits 114 = .ok (.getfield 29, 3) := by decide +kernel
theorem d_PL_fits_117 : decode c_PL_fits 117 = .ok (.aload_n 1, 1) := by decide +kernel
theorem d_PL_fits_118 : decode c_PL_fits 118 = .ok (.getfield 32, 3) := by decide +kernel
theorem d_PL_fits_121 : decode c_PL_fits 121 = .ok (.invokevirtual 34, 3) := by decide +kernel
theorem d_PL_fits_124 : decode c_PL_fits 124 = .ok (.ireturn, 1) := by decide +kernel
theorem d_PL_fits_125 : decode c_PL_fits 125 = .ok (.aload_n 0, 1) := by decide +kernel
theorem d_PL_fits_126 : decode c_PL_fits 126 = .ok (.aload_n 1, 1) := by decide +kernel
theorem d_PL_fits_127 : decode c_PL_fits 127 = .ok (.getfield 33, 3) := by decide +kernel
theorem d_PL_fits_130 : decode c_PL_fits 130 = .ok (.aload_n 1, 1) := by decide +kernel
theorem d_PL_fits_131 : decode c_PL_fits 131 = .ok (.getfield 32, 3) := by decide +kernel
theorem d_PL_fits_134 : decode c_PL_fits 134 = .ok (.aload_n 1, 1) := by decide +kernel
theorem d_PL_fits_135 : decode c_PL_fits 135 = .ok (.getfield 29, 3) := by decide +kernel
theorem d_PL_fits_138 : decode c_PL_fits 138 = .ok (.invokevirtual 34, 3) := by decide +kernel
theorem d_PL_fits_141 : decode c_PL_fits 141 = .ok (.ireturn, 1) := by decide +kernel
theorem d_PL_fits_142 : decode c_PL_fits 142 = .ok (.iconst 0, 1) := by decide +kernel
theorem d_PL_fits_143 : decode c_PL_fits 143 = .ok (.ireturn, 1) := by decide +kernel
theorem d_PL_holds_0 : decode c_PL_holds 0 = .ok (.iload_n 1, 1) := by decide +kernel
theorem d_PL_holds_1 : decode c_PL_holds 1 = .ok (.aload_n 0, 1) := by decide +kernel
theorem d_PL_holds_2 : decode c_PL_holds 2 = .ok (.getfield 9, 3) := by decide +kernel
theorem d_PL_holds_5 : decode c_PL_holds 5 = .ok (.if_icmp .gt 23, 3) := by decide +kernel
theorem d_PL_holds_8 : decode c_PL_holds 8 = .ok (.iload_n 2, 1) := by decide +kernel
theorem d_PL_holds_9 : decode c_PL_holds 9 = .ok (.aload_n 0, 1) := by decide +kernel
theorem d_PL_holds_10 : decode c_PL_holds 10 = .ok (.getfield 15, 3) := by decide +kernel
theorem d_PL_holds_13 : decode c_PL_holds 13 = .ok (.if_icmp .gt 15, 3) := by decide +kernel
theorem d_PL_holds_16 : decode c_PL_holds 16 = .ok (.iload_n 3, 1) := by decide +kernel
theorem d_PL_holds_17 : decode c_PL_holds 17 = .ok (.aload_n 0, 1) := by decide +kernel
theorem d_PL_holds_18 : decode c_PL_holds 18 = .ok (.getfield 18, 3) := by decide +kernel
theorem d_PL_holds_21 : decode c_PL_holds 21 = .ok (.if_icmp .gt 7, 3) := by decide +kernel
theorem d_PL_holds_24 : decode c_PL_holds 24 = .ok (.iconst 1, 1) := by decide +kernel
theorem d_PL_holds_25 : decode c_PL_holds 25 = .ok (.goto 4, 3) := by decide +kernel
theorem d_PL_holds_28 : decode c_PL_holds 28 = .ok (.iconst 0, 1) := by decide +kernel
theorem d_PL_holds_29 : decode c_PL_holds 29 = .ok (.ireturn, 1) := by decide +kernel
theorem d_QU_init_0 : decode c_QU_init 0 = .ok (.aload_n 0, 1) := by decide +kernel
theorem d_QU_init_1 : decode c_QU_init 1 = .ok (.invokespecial 3, 3) := by decide +kernel
theorem d_QU_init_4 : decode c_QU_init 4 = .ok (.aload_n 0, 1) := by decide +kernel
theorem d_QU_init_5 : decode c_QU_init 5 = .ok (.new 9, 3) := by decide +kernel
theorem d_QU_init_8 : decode c_QU_init 8 = .ok (.dup, 1) := by decide +kernel
theorem d_QU_init_9 : decode c_QU_init 9 = .ok (.invokespecial 11, 3) := by decide +kernel
theorem d_QU_init_12 : decode c_QU_init 12 = .ok (.putfield 12, 3) := by decide +kernel
theorem d_QU_init_15 : decode c_QU_init 15 = .ok (.aload_n 0, 1) := by decide +kernel
theorem d_QU_init_16 : decode c_QU_init 16 = .ok (.new 9, 3) := by decide +kernel
theorem d_QU_init_19 : decode c_QU_init 19 = .ok (.dup, 1) := by decide +kernel
theorem d_QU_init_20 : decode c_QU_init 20 = .ok (.invokespecial 11, 3) := by decide +kernel
theorem d_QU_init_23 : decode c_QU_init 23 = .ok (.putfield 18, 3) := by decide +kernel
theorem d_QU_init_26 : decode c_QU_init 26 = .ok (.aload_n 0, 1) := by decide +kernel
theorem d_QU_init_27 : decode c_QU_init 27 = .ok (.new 9, 3) := by decide +kernel
theorem d_QU_init_30 : decode c_QU_init 30 = .ok (.dup, 1) := by decide +kernel
theorem d_QU_init_31 : decode c_QU_init 31 = .ok (.invokespecial 11, 3) := by decide +kernel
theorem d_QU_init_34 : decode c_QU_init 34 = .ok (.putfield 21, 3) := by decide +kernel
theorem d_QU_init_37 : decode c_QU_init 37 = .ok (.aload_n 0, 1) := by decide +kernel
theorem d_QU_init_38 : decode c_QU_init 38 = .ok (.new 9, 3) := by decide +kernel
theorem d_QU_init_41 : decode c_QU_init 41 = .ok (.dup, 1) := by decide +kernel
theorem d_QU_init_42 : decode c_QU_init 42 = .ok (.invokespecial 11, 3) := by decide +kernel
theorem d_QU_init_45 : decode c_QU_init 45 = .ok (.putfield 24, 3) := by decide +kernel
theorem d_QU_init_48 : decode c_QU_init 48 = .ok (.return_, 1) := by decide +kernel
theorem d_QU_begin_0 : decode c_QU_begin 0 = .ok (.aload_n 0, 1) := by decide +kernel
theorem d_QU_begin_1 : decode c_QU_begin 1 = .ok (.iload_n 3, 1) := by decide +kernel
theorem d_QU_begin_2 : decode c_QU_begin 2 = .ok (.putfield 27, 3) := by decide +kernel
theorem d_QU_begin_5 : decode c_QU_begin 5 = .ok (.aload_n 0, 1) := by decide +kernel
theorem d_QU_begin_6 : decode c_QU_begin 6 = .ok (.aload_n 2, 1) := by decide +kernel
theorem d_QU_begin_7 : decode c_QU_begin 7 = .ok (.aload_n 1, 1) := by decide +kernel
theorem d_QU_begin_8 : decode c_QU_begin 8 = .ok (.iconst 0, 1) := by decide +kernel
theorem d_QU_begin_9 : decode c_QU_begin 9 = .ok (.invokevirtual 31, 3) := by decide +kernel
theorem d_QU_begin_12 : decode c_QU_begin 12 = .ok (.ifCond .ne 12, 3) := by decide +kernel
theorem d_QU_begin_15 : decode c_QU_begin 15 = .ok (.aload_n 2, 1) := by decide +kernel
theorem d_QU_begin_16 : decode c_QU_begin 16 = .ok (.aload_n 1, 1) := by decide +kernel
theorem d_QU_begin_17 : decode c_QU_begin 17 = .ok (.iconst 2, 1) := by decide +kernel
theorem d_QU_begin_18 : decode c_QU_begin 18 = .ok (.invokevirtual 31, 3) := by decide +kernel
theorem d_QU_begin_21 : decode c_QU_begin 21 = .ok (.ifCond .eq 7, 3) := by decide +kernel
theorem d_QU_begin_24 : decode c_QU_begin 24 = .ok (.iconst 1, 1) := by decide +kernel
theorem d_QU_begin_25 : decode c_QU_begin 25 = .ok (.goto 4, 3) := by decide +kernel
theorem d_QU_begin_28 : decode c_QU_begin 28 = .ok (.iconst 0, 1) := by decide +kernel
theorem d_QU_begin_29 : decode c_QU_begin 29 = .ok (.putfield 37, 3) := by decide +kernel
theorem d_QU_begin_32 : decode c_QU_begin 32 = .ok (.aload_n 0, 1) := by decide +kernel
theorem d_QU_begin_33 : decode c_QU_begin 33 = .ok (.aload_n 2, 1) := by decide +kernel
theorem d_QU_begin_34 : decode c_QU_begin 34 = .ok (.aload_n 1, 1) := by decide +kernel
theorem d_QU_begin_35 : decode c_QU_begin 35 = .ok (.invokevirtual 41, 3) := by decide +kernel
theorem d_QU_begin_38 : decode c_QU_begin 38 = .ok (.iconst (-1), 1) := by decide +kernel
theorem d_QU_begin_39 : decode c_QU_begin 39 = .ok (.if_icmp .eq 7, 3) := by decide +kernel
theorem d_QU_begin_42 : decode c_QU_begin 42 = .ok (.iconst 1, 1) := by decide +kernel
theorem d_QU_begin_43 : decode c_QU_begin 43 = .ok (.goto 4, 3) := by decide +kernel
theorem d_QU_begin_46 : decode c_QU_begin 46 = .ok (.iconst 0, 1) := by decide +kernel
theorem d_QU_begin_47 : decode c_QU_begin 47 = .ok (.putfield 45, 3) := by decide +kernel
theorem d_QU_begin_50 : decode c_QU_begin 50 = .ok (.aload_n 0, 1) := by decide +kernel
theorem d_QU_begin_51 : decode c_QU_begin 51 = .ok (.aload_n 2, 1) := by decide +kernel
theorem d_QU_begin_52 : decode c_QU_begin 52 = .ok (.getfield 48, 3) := by decide +kernel
theorem d_QU_begin_55 : decode c_QU_begin 55 = .ok (.putfield 51, 3) := by decide +kernel
theorem d_QU_begin_58 : decode c_QU_begin 58 = .ok (.aload_n 0, 1) := by decide +kernel
theorem d_QU_begin_59 : decode c_QU_begin 59 = .ok (.aload_n 2, 1) := by decide +kernel
theorem d_QU_begin_60 : decode c_QU_begin 60 = .ok (.getfield 52, 3) := by decide +kernel
theorem d_QU_begin_63 : decode c_QU_begin 63 = .ok (.putfield 55, 3) := by decide +kernel
theorem d_QU_begin_66 : decode c_QU_begin 66 = .ok (.aload_n 0, 1) := by decide +kernel
theorem d_QU_begin_67 : decode c_QU_begin 67 = .ok (.aload_n 1, 1) := by decide +kernel
theorem d_QU_begin_68 : decode c_QU_begin 68 = .ok (.getfield 56, 3) := by decide +kernel
theorem d_QU_begin_71 : decode c_QU_begin 71 = .ok (.putfield 61, 3) := by decide +kernel
theorem d_QU_begin_74 : decode c_QU_begin 74 = .ok (.aload_n 0, 1) := by decide +kernel
theorem d_QU_begin_75 : decode c_QU_begin 75 = .ok (.aload_n 1, 1) := by decide +kernel
theorem d_QU_begin_76 : decode c_QU_begin 76 = .ok (.getfield 62, 3) := by decide +kernel
theorem d_QU_begin_79 : decode c_QU_begin 79 = .ok (.putfield 65, 3) := by decide +kernel
theorem d_QU_begin_82 : decode c_QU_begin 82 = .ok (.aload_n 0, 1) := by decide +kernel
theorem d_QU_begin_83 : decode c_QU_begin 83 = .ok (.aload_n 1, 1) := by decide +kernel
theorem d_QU_begin_84 : decode c_QU_begin 84 = .ok (.getfield 66, 3) := by decide +kernel
theorem d_QU_begin_87 : decode c_QU_begin 87 = .ok (.putfield 69, 3) := by decide +kernel
theorem d_QU_begin_90 : decode c_QU_begin 90 = .ok (.aload_n 0, 1) := by decide +kernel
theorem d_QU_begin_91 : decode c_QU_begin 91 = .ok (.aload_n 1, 1) := by decide +kernel
theorem d_QU_begin_92 : decode c_QU_begin 92 = .ok (.getfield 70, 3) := by decide +kernel
theorem d_QU_begin_95 : decode c_QU_begin 95 = .ok (.putfield 73, 3) := by decide +kernel
theorem d_QU_begin_98 : decode c_QU_begin 98 = .ok (.aload_n 0, 1) := by decide +kernel
theorem d_QU_begin_99 : decode c_QU_begin 99 = .ok (.aload_n 1, 1) := by decide +kernel
theorem d_QU_begin_100 : decode c_QU_begin 100 = .ok (.getfield 74, 3) := by decide +kernel
theorem d_QU_begin_103 : decode c_QU_begin 103 = .ok (.putfield 77, 3) := by decide +kernel
theorem d_QU_begin_106 : decode c_QU_begin 106 = .ok (.aload_n 0, 1) := by decide +kernel
theorem d_QU_begin_107 : decode c_QU_begin 107 = .ok (.iconst 1, 1) := by decide +kernel
theorem d_QU_begin_108 : decode c_QU_begin 108 = .ok (.putfield 78, 3) := by decide +kernel
theorem d_QU_begin_111 : decode c_QU_begin 111 = .ok (.aload_n 0, 1) := by decide +kernel
theorem d_QU_begin_112 : decode c_QU_begin 112 = .ok (.iconst 0, 1) := by decide +kernel
theorem d_QU_begin_113 : decode c_QU_begin 113 = .ok (.putfield 81, 3) := by decide +kernel
theorem d_QU_begin_116 : decode c_QU_begin 116 = .ok (.aload_n 0, 1) := by decide +kernel
theorem d_QU_begin_117 : decode c_QU_begin 117 = .ok (.aload_n 1, 1) := by decide +kernel
theorem d_QU_begin_118 : decode c_QU_begin 118 = .ok (.getfield 74, 3) := by decide +kernel
theorem d_QU_begin_121 : decode c_QU_begin 121 = .ok (.putfield 84, 3) := by decide +kernel
theorem d_QU_begin_124 : decode c_QU_begin 124 = .ok (.aload_n 0, 1) := by decide +kernel
theorem d_QU_begin_125 : decode c_QU_begin 125 = .ok (.aload_n 1, 1) := by decide +kernel
theorem d_QU_begin_126 : decode c_QU_begin 126 = .ok (.getfield 74, 3) := by decide +kernel
theorem d_QU_begin_129 : decode c_QU_begin 129 = .ok (.putfield 87, 3) := by decide +kernel
theorem d_QU_begin_132 : decode c_QU_begin 132 = .ok (.aload_n 0, 1) := by decide +kernel
theorem d_QU_begin_133 : decode c_QU_begin 133 = .ok (.getfield 12, 3) := by decide +kernel
theorem d_QU_begin_136 : decode c_QU_begin 136 = .ok (.aload_n 1, 1) := by decide +kernel
theorem d_QU_begin_137 : decode c_QU_begin 137 = .ok (.getfield 56, 3) := by decide +kernel
theorem d_QU_begin_140 : decode c_QU_begin 140 = .ok (.invokevirtual 90, 3) := by decide +kernel
theorem d_QU_begin_143 : decode c_QU_begin 143 = .ok (.aload_n 0, 1) := by decide +kernel
theorem d_QU_begin_144 : decode c_QU_begin 144 = .ok (.getfield 18, 3) := by decide +kernel
theorem d_QU_begin_147 : decode c_QU_begin 147 = .ok (.aload_n 1, 1) := by decide +kernel
theorem d_QU_begin_148 : decode c_QU_begin 148 = .ok (.getfield 94, 3) := by decide +kernel
theorem d_QU_begin_151 : decode c_QU_begin 151 = .ok (.invokevirtual 90, 3) := by decide +kernel
theorem d_QU_begin_154 : decode c_QU_begin 154 = .ok (.aload_n 0, 1) := by decide +kernel
theorem d_QU_begin_155 : decode c_QU_begin 155 = .ok (.getfield 21, 3) := by decide +kernel
theorem d_QU_begin_158 : decode c_QU_begin 158 = .ok (.aload_n 1, 1) := by decide +kernel
theorem d_QU_begin_159 : decode c_QU_begin 159 = .ok (.getfield 97, 3) := by decide +kernel
theorem d_QU_begin_162 : decode c_QU_begin 162 = .ok (.invokevirtual 90, 3) := by decide +kernel
theorem d_QU_begin_165 : decode c_QU_begin 165 = .ok (.aload_n 0, 1) := by decide +kernel
theorem d_QU_begin_166 : decode c_QU_begin 166 = .ok (.getfield 24, 3) := by decide +kernel
theorem d_QU_begin_169 : decode c_QU_begin 169 = .ok (.invokevirtual 100, 3) := by decide +kernel
theorem d_QU_begin_172 : decode c_QU_begin 172 = .ok (.return_, 1) := by decide +kernel
theorem d_QU_addOther_0 : decode c_QU_addOther 0 = .ok (.aload_n 0, 1) := by decide +kernel
theorem d_QU_addOther_1 : decode c_QU_addOther 1 = .ok (.dup, 1) := by decide +kernel
theorem d_QU_addOther_2 : decode c_QU_addOther 2 = .ok (.getfield 78, 3) := by decide +kernel
theorem d_QU_addOther_5 : decode c_QU_addOther 5 = .ok (.iconst 1, 1) := by decide +kernel
theorem d_QU_addOther_6 : decode c_QU_addOther 6 = .ok (.iadd, 1) := by decide +kernel
theorem d_QU_addOther_7 : decode c_QU_addOther 7 = .ok (.putfield 78, 3) := by decide +kernel
theorem d_QU_addOther_10 : decode c_QU_addOther 10 = .ok (.aload_n 0, 1) := by decide +kernel
theorem d_QU_addOther_11 : decode c_QU_addOther 11 = .ok (.dup, 1) := by decide +kernel
theorem d_QU_addOther_12 : decode c_QU_addOther 12 = .ok (.getfield 81, 3) := by decide +kernel
theorem d_QU_addOther_15 : decode c_QU_addOther 15 = .ok (.aload_n 1, 1) := by decide +kernel
theorem d_QU_addOther_16 : decode c_QU_addOther 16 = .ok (.getfield 62, 3) := by decide +kernel
theorem d_QU_addOther_19 : decode c_QU_addOther 19 = .ok (.iadd, 1) := by decide +kernel
theorem d_QU_addOther_20 : decode c_QU_addOther 20 = .ok (.putfield 81, 3) := by decide +kernel
theorem d_QU_addOther_23 : decode c_QU_addOther 23 = .ok (.aload_n 0, 1) := by decide +kernel
theorem d_QU_addOther_24 : decode c_QU_addOther 24 = .ok (.aload_n 0, 1) := by decide +kernel
theorem d_QU_addOther_25 : decode c_QU_addOther 25 = .ok (.getfield 84, 3) := by decide +kernel
theorem d_QU_addOther_28 : decode c_QU_addOther 28 = .ok (.aload_n 1, 1) := by decide +kernel
theorem d_QU_addOther_29 : decode c_QU_addOther 29 = .ok (.getfield 74, 3) := by decide +kernel
theorem d_QU_addOther_32 : decode c_QU_addOther 32 = .ok (.invokestatic 103, 3) := by decide +kernel
theorem d_QU_addOther_35 : decode c_QU_addOther 35 = .ok (.putfield 84, 3) := by decide +kernel
theorem d_QU_addOther_38 : decode c_QU_addOther 38 = .ok (.aload_n 0, 1) := by decide +kernel
theorem d_QU_addOther_39 : decode c_QU_addOther 39 = .ok (.aload_n 0, 1) := by decide +kernel
theorem d_QU_addOther_40 : decode c_QU_addOther 40 = .ok (.getfield 87, 3) := by decide +kernel
theorem d_QU_addOther_43 : decode c_QU_addOther 43 = .ok (.aload_n 1, 1) := by decide +kernel
theorem d_QU_addOther_44 : decode c_QU_addOther 44 = .ok (.getfield 74, 3) := by decide +kernel
theorem d_QU_addOther_47 : decode c_QU_addOther 47 = .ok (.invokestatic 109, 3) := by decide +kernel
theorem d_QU_addOther_50 : decode c_QU_addOther 50 = .ok (.putfield 87, 3) := by decide +kernel
theorem d_QU_addOther_53 : decode c_QU_addOther 53 = .ok (.aload_n 0, 1) := by decide +kernel
theorem d_QU_addOther_54 : decode c_QU_addOther 54 = .ok (.getfield 12, 3) := by decide +kernel
theorem d_QU_addOther_57 : decode c_QU_addOther 57 = .ok (.aload_n 1, 1) := by decide +kernel
theorem d_QU_addOther_58 : decode c_QU_addOther 58 = .ok (.getfield 56, 3) := by decide +kernel
theorem d_QU_addOther_61 : decode c_QU_addOther 61 = .ok (.invokevirtual 112, 3) := by decide +kernel
theorem d_QU_addOther_64 : decode c_QU_addOther 64 = .ok (.aload_n 1, 1) := by decide +kernel
theorem d_QU_addOther_65 : decode c_QU_addOther 65 = .ok (.getfield 56, 3) := by decide +kernel
theorem d_QU_addOther_68 : decode c_QU_addOther 68 = .ok (.aload_n 0, 1) := by decide +kernel
theorem d_QU_addOther_69 : decode c_QU_addOther 69 = .ok (.getfield 61, 3) := by decide +kernel
theorem d_QU_addOther_72 : decode c_QU_addOther 72 = .ok (.if_icmp .ne 14, 3) := by decide +kernel
theorem d_QU_addOther_75 : decode c_QU_addOther 75 = .ok (.aload_n 0, 1) := by decide +kernel
theorem d_QU_addOther_76 : decode c_QU_addOther 76 = .ok (.getfield 18, 3) := by decide +kernel
theorem d_QU_addOther_79 : decode c_QU_addOther 79 = .ok (.aload_n 1, 1) := by decide +kernel
theorem d_QU_addOther_80 : decode c_QU_addOther 80 = .ok (.getfield 94, 3) := by decide +kernel
theorem d_QU_addOther_83 : decode c_QU_addOther 83 = .ok (.invokevirtual 112, 3) := by decide +kernel
theorem d_QU_addOther_86 : decode c_QU_addOther 86 = .ok (.aload_n 0, 1) := by decide +kernel
theorem d_QU_addOther_87 : decode c_QU_addOther 87 = .ok (.getfield 21, 3) := by decide +kernel
theorem d_QU_addOther_90 : decode c_QU_addOther 90 = .ok (.aload_n 1, 1) := by decide +kernel
theorem d_QU_addOther_91 : decode c_QU_addOther 91 = .ok (.getfield 97, 3) := by decide +kernel
theorem d_QU_addOther_94 : decode c_QU_addOther 94 = .ok (.invokevirtual 112, 3) := by decide +kernel
theorem d_QU_addOther_97 : decode c_QU_addOther 97 = .ok (.aload_n 0, 1) := by decide +kernel
theorem d_QU_addOther_98 : decode c_QU_addOther 98 = .ok (.getfield 24, 3) := by decide +kernel
theorem d_QU_addOther_101 : decode c_QU_addOther 101 = .ok (.aload_n 1, 1) := by decide +kernel
theorem d_QU_addOther_102 : decode c_QU_addOther 102 = .ok (.getfield 66, 3) := by decide +kernel
theorem d_QU_addOther_105 : decode c_QU_addOther 105 = .ok (.invokevirtual 112, 3) := by decide +kernel
theorem d_QU_addOther_108 : decode c_QU_addOther 108 = .ok (.return_, 1) := by decide +kernel
theorem d_QU_meetsHazards_0 : decode c_QU_meetsHazards 0 = .ok (.aload_n 0, 1) := by decide +kernel
theorem d_QU_meetsHazards_1 : decode c_QU_meetsHazards 1 = .ok (.getfield 69, 3) := by decide +kernel
theorem d_QU_meetsHazards_4 : decode c_QU_meetsHazards 4 = .ok (.iload_n 1, 1) := by decide +kernel
theorem d_QU_meetsHazards_5 : decode c_QU_meetsHazards 5 = .ok (.if_icmp .ne 18, 3) := by decide +kernel
theorem d_QU_meetsHazards_8 : decode c_QU_meetsHazards 8 = .ok (.aload_n 0, 1) := by decide +kernel
theorem d_QU_meetsHazards_9 : decode c_QU_meetsHazards 9 = .ok (.getfield 24, 3) := by decide +kernel
theorem d_QU_meetsHazards_12 : decode c_QU_meetsHazards 12 = .ok (.iload_n 2, 1) := by decide +kernel
theorem d_QU_meetsHazards_13 : decode c_QU_meetsHazards 13 = .ok (.invokevirtual 115, 3) := by decide +kernel
theorem d_QU_meetsHazards_16 : decode c_QU_meetsHazards 16 = .ok (.ifCond .eq 7, 3) := by decide +kernel
theorem d_QU_meetsHazards_19 : decode c_QU_meetsHazards 19 = .ok (.iconst 1, 1) := by decide +kernel
theorem d_QU_meetsHazards_20 : decode c_QU_meetsHazards 20 = .ok (.goto 4, 3) := by decide +kernel
theorem d_QU_meetsHazards_23 : decode c_QU_meetsHazards 23 = .ok (.iconst 0, 1) := by decide +kernel
theorem d_QU_meetsHazards_24 : decode c_QU_meetsHazards 24 = .ok (.ireturn, 1) := by decide +kernel
theorem d_RU_init_0 : decode c_RU_init 0 = .ok (.aload_n 0, 1) := by decide +kernel
theorem d_RU_init_1 : decode c_RU_init 1 = .ok (.invokespecial 1, 3) := by decide +kernel
theorem d_RU_init_4 : decode c_RU_init 4 = .ok (.aload_n 0, 1) := by decide +kernel
theorem d_RU_init_5 : decode c_RU_init 5 = .ok (.getstatic 7, 3) := by decide +kernel
theorem d_RU_init_8 : decode c_RU_init 8 = .ok (.putfield 13, 3) := by decide +kernel
theorem d_RU_init_11 : decode c_RU_init 11 = .ok (.return_, 1) := by decide +kernel
theorem d_RU_refuses_0 : decode c_RU_refuses 0 = .ok (.getstatic 18, 3) := by decide +kernel
theorem d_RU_refuses_3 : decode c_RU_refuses 3 = .ok (.aload_n 0, 1) := by decide +kernel
theorem d_RU_refuses_4 : decode c_RU_refuses 4 = .ok (.getfield 13, 3) := by decide +kernel
theorem d_RU_refuses_7 : decode c_RU_refuses 7 = .ok (.invokevirtual 24, 3) := by decide +kernel
theorem d_RU_refuses_10 : decode c_RU_refuses 10 = .ok (.iaload, 1) := by decide +kernel
theorem d_RU_refuses_11 : decode c_RU_refuses 11 = .ok (.tableswitch 314 1 11 #[57, 92, 119, 139, 159, 179, 215, 243, 260, 282, 304], 57) := by decide +kernel
theorem d_RU_refuses_68 : decode c_RU_refuses 68 = .ok (.aload_n 0, 1) := by decide +kernel
theorem d_RU_refuses_69 : decode c_RU_refuses 69 = .ok (.getfield 28, 3) := by decide +kernel
theorem d_RU_refuses_72 : decode c_RU_refuses 72 = .ok (.ifCond .ne 18, 3) := by decide +kernel
theorem d_RU_refuses_75 : decode c_RU_refuses 75 = .ok (.aload_n 1, 1) := by decide +kernel
theorem d_RU_refuses_76 : decode c_RU_refuses 76 = .ok (.getfield 32, 3) := by decide +kernel
theorem d_RU_refuses_79 : decode c_RU_refuses 79 = .ok (.ifCond .ne 7, 3) := by decide +kernel
theorem d_RU_refuses_82 : decode c_RU_refuses 82 = .ok (.iconst 1, 1) := by decide +kernel
theorem d_RU_refuses_83 : decode c_RU_refuses 83 = .ok (.goto 19, 3) := by decide +kernel
theorem d_RU_refuses_86 : decode c_RU_refuses 86 = .ok (.iconst 0, 1) := by decide +kernel
theorem d_RU_refuses_87 : decode c_RU_refuses 87 = .ok (.goto 15, 3) := by decide +kernel
theorem d_RU_refuses_90 : decode c_RU_refuses 90 = .ok (.aload_n 1, 1) := by decide +kernel
theorem d_RU_refuses_91 : decode c_RU_refuses 91 = .ok (.getfield 38, 3) := by decide +kernel
theorem d_RU_refuses_94 : decode c_RU_refuses 94 = .ok (.ifCond .ne 7, 3) := by decide +kernel
theorem d_RU_refuses_97 : decode c_RU_refuses 97 = .ok (.iconst 1, 1) := by decide +kernel
theorem d_RU_refuses_98 : decode c_RU_refuses 98 = .ok (.goto 4, 3) := by decide +kernel
theorem d_RU_refuses_101 : decode c_RU_refuses 101 = .ok (.iconst 0, 1) := by decide +kernel
theorem d_RU_refuses_102 : decode c_RU_refuses 102 = .ok (.ireturn, 1) := by decide +kernel
theorem d_RU_refuses_103 : decode c_RU_refuses 103 = .ok (.aload_n 1, 1) := by decide +kernel
theorem d_RU_refuses_104 : decode c_RU_refuses 104 = .ok (.getfield 41, 3) := by decide +kernel
theorem d_RU_refuses_107 : decode c_RU_refuses 107 = .ok (.aload_n 1, 1) := by decide +kernel
theorem d_RU_refuses_108 : decode c_RU_refuses 108 = .ok (.getfield 44, 3) := by decide +kernel
theorem d_RU_refuses_111 : decode c_RU_refuses 111 = .ok (.iadd, 1) := by decide +kernel
theorem d_RU_refuses_112 : decode c_RU_refuses 112 = .ok (.aload_n 1, 1) := by decide +kernel
theorem d_RU_refuses_113 : decode c_RU_refuses 113 = .ok (.getfield 47, 3) := by decide +kernel
theorem d_RU_refuses_116 : decode c_RU_refuses 116 = .ok (.aload_n 0, 1) := by decide +kernel
theorem d_RU_refuses_117 : decode c_RU_refuses 117 = .ok (.getfield 28, 3) := by decide +kernel
theorem d_RU_refuses_120 : decode c_RU_refuses 120 = .ok (.isub, 1) := by decide +kernel
theorem d_RU_refuses_121 : decode c_RU_refuses 121 = .ok (.if_icmp .le 7, 3) := by decide +kernel
theorem d_RU_refuses_124 : decode c_RU_refuses 124 = .ok (.iconst 1, 1) := by decide +kernel
theorem d_RU_refuses_125 : decode c_RU_refuses 125 = .ok (.goto 4, 3) := by decide +kernel
theorem d_RU_refuses_128 : decode c_RU_refuses 128 = .ok (.iconst 0, 1) := by decide +kernel
theorem d_RU_refuses_129 : decode c_RU_refuses 129 = .ok (.ireturn, 1) := by decide +kernel
theorem d_RU_refuses_130 : decode c_RU_refuses 130 = .ok (.aload_n 1, 1) := by decide +kernel
theorem d_RU_refuses_131 : decode c_RU_refuses 131 = .ok (.getfield 50, 3) := by decide +kernel
theorem d_RU_refuses_134 : decode c_RU_refuses 134 = .ok (.invokevirtual 54, 3) := by decide +kernel
theorem d_RU_refuses_137 : decode c_RU_refuses 137 = .ok (.aload_n 0, 1) := by decide +kernel
theorem d_RU_refuses_138 : decode c_RU_refuses 138 = .ok (.getfield 28, 3) := by decide +kernel
theorem d_RU_refuses_141 : decode c_RU_refuses 141 = .ok (.if_icmp .le 7, 3) := by decide +kernel
theorem d_RU_refuses_144 : decode c_RU_refuses 144 = .ok (.iconst 1, 1) := by decide +kernel
theorem d_RU_refuses_145 : decode c_RU_refuses 145 = .ok (.goto 4, 3) := by decide +kernel
theorem d_RU_refuses_148 : decode c_RU_refuses 148 = .ok (.iconst 0, 1) := by decide +kernel
theorem d_RU_refuses_149 : decode c_RU_refuses 149 = .ok (.ireturn, 1) := by decide +kernel
theorem d_RU_refuses_150 : decode c_RU_refuses 150 = .ok (.aload_n 1, 1) := by decide +kernel
theorem d_RU_refuses_151 : decode c_RU_refuses 151 = .ok (.getfield 59, 3) := by decide +kernel
theorem d_RU_refuses_154 : decode c_RU_refuses 154 = .ok (.invokevirtual 54, 3) := by decide +kernel
theorem d_RU_refuses_157 : decode c_RU_refuses 157 = .ok (.aload_n 0, 1) := by decide +kernel
theorem d_RU_refuses_158 : decode c_RU_refuses 158 = .ok (.getfield 28, 3) := by decide +kernel
theorem d_RU_refuses_161 : decode c_RU_refuses 161 = .ok (.if_icmp .le 7, 3) := by decide +kernel
theorem d_RU_refuses_164 : decode c_RU_refuses 164 = .ok (.iconst 1, 1) := by decide +kernel
theorem d_RU_refuses_165 : decode c_RU_refuses 165 = .ok (.goto 4, 3) := by decide +kernel
theorem d_RU_refuses_168 : decode c_RU_refuses 168 = .ok (.iconst 0, 1) := by decide +kernel
theorem d_RU_refuses_169 : decode c_RU_refuses 169 = .ok (.ireturn, 1) := by decide +kernel
theorem d_RU_refuses_170 : decode c_RU_refuses 170 = .ok (.aload_n 1, 1) := by decide +kernel
theorem d_RU_refuses_171 : decode c_RU_refuses 171 = .ok (.getfield 62, 3) := by decide +kernel
theorem d_RU_refuses_174 : decode c_RU_refuses 174 = .ok (.invokevirtual 54, 3) := by decide +kernel
theorem d_RU_refuses_177 : decode c_RU_refuses 177 = .ok (.aload_n 0, 1) := by decide +kernel
theorem d_RU_refuses_178 : decode c_RU_refuses 178 = .ok (.getfield 28, 3) := by decide +kernel
theorem d_RU_refuses_181 : decode c_RU_refuses 181 = .ok (.if_icmp .le 7, 3) := by decide +kernel
theorem d_RU_refuses_184 : decode c_RU_refuses 184 = .ok (.iconst 1, 1) := by decide +kernel
theorem d_RU_refuses_185 : decode c_RU_refuses 185 = .ok (.goto 4, 3) := by decide +kernel
theorem d_RU_refuses_188 : decode c_RU_refuses 188 = .ok (.iconst 0, 1) := by decide +kernel
theorem d_RU_refuses_189 : decode c_RU_refuses 189 = .ok (.ireturn, 1) := by decide +kernel
theorem d_RU_refuses_190 : decode c_RU_refuses 190 = .ok (.aload_n 1, 1) := by decide +kernel
theorem d_RU_refuses_191 : decode c_RU_refuses 191 = .ok (.aload_n 0, 1) := by decide +kernel
theorem d_RU_refuses_192 : decode c_RU_refuses 192 = .ok (.getfield 28, 3) := by decide +kernel
theorem d_RU_refuses_195 : decode c_RU_refuses 195 = .ok (.aload_n 0, 1) := by decide +kernel
theorem d_RU_refuses_196 : decode c_RU_refuses 196 = .ok (.getfield 65, 3) := by decide +kernel
theorem d_RU_refuses_199 : decode c_RU_refuses 199 = .ok (.invokevirtual 68, 3) := by decide +kernel
theorem d_RU_refuses_202 : decode c_RU_refuses 202 = .ok (.ifCond .ne 18, 3) := by decide +kernel
theorem d_RU_refuses_205 : decode c_RU_refuses 205 = .ok (.aload_n 1, 1) := by decide +kernel
theorem d_RU_refuses_206 : decode c_RU_refuses 206 = .ok (.aload_n 0, 1) := by decide +kernel
theorem d_RU_refuses_207 : decode c_RU_refuses 207 = .ok (.getfield 65, 3) := by decide +kernel
theorem d_RU_refuses_210 : decode c_RU_refuses 210 = .ok (.aload_n 0, 1) := by decide +kernel
theorem d_RU_refuses_211 : decode c_RU_refuses 211 = .ok (.getfield 28, 3) := by decide +kernel
theorem d_RU_refuses_214 : decode c_RU_refuses 214 = .ok (.invokevirtual 68, 3) := by decide +kernel
theorem d_RU_refuses_217 : decode c_RU_refuses 217 = .ok (.ifCond .eq 7, 3) := by decide +kernel
theorem d_RU_refuses_220 : decode c_RU_refuses 220 = .ok (.iconst 1, 1) := by decide +kernel
theorem d_RU_refuses_221 : decode c_RU_refuses 221 = .ok (.goto 4, 3) := by decide +kernel
theorem d_RU_refuses_224 : decode c_RU_refuses 224 = .ok (.iconst 0, 1) := by decide +kernel
theorem d_RU_refuses_225 : decode c_RU_refuses 225 = .ok (.ireturn, 1) := by decide +kernel
theorem d_RU_refuses_226 : decode c_RU_refuses 226 = .ok (.aload_n 1, 1) := by decide +kernel
theorem d_RU_refuses_227 : decode c_RU_refuses 227 = .ok (.getfield 72, 3) := by decide +kernel
theorem d_RU_refuses_230 : decode c_RU_refuses 230 = .ok (.aload_n 0, 1) := by decide +kernel
theorem d_RU_refuses_231 : decode c_RU_refuses 231 = .ok (.getfield 28, 3) := by decide +kernel
theorem d_RU_refuses_234 : decode c_RU_refuses 234 = .ok (.if_icmp .ne 18, 3) := by decide +kernel
theorem d_RU_refuses_237 : decode c_RU_refuses 237 = .ok (.aload_n 1, 1) := by decide +kernel
theorem d_RU_refuses_238 : decode c_RU_refuses 238 = .ok (.getfield 75, 3) := by decide +kernel
theorem d_RU_refuses_241 : decode c_RU_refuses 241 = .ok (.aload_n 0, 1) := by decide +kernel
theorem d_RU_refuses_242 : decode c_RU_refuses 242 = .ok (.getfield 65, 3) := by decide +kernel
theorem d_RU_refuses_245 : decode c_RU_refuses 245 = .ok (.if_icmp .eq 7, 3) := by decide +kernel
theorem d_RU_refuses_248 : decode c_RU_refuses 248 = .ok (.iconst 1, 1) := by decide +kernel
theorem d_RU_refuses_249 : decode c_RU_refuses 249 = .ok (.goto 4, 3) := by decide +kernel
theorem d_RU_refuses_252 : decode c_RU_refuses 252 = .ok (.iconst 0, 1) := by decide +kernel
theorem d_RU_refuses_253 : decode c_RU_refuses 253 = .ok (.ireturn, 1) := by decide +kernel
theorem d_RU_refuses_254 : decode c_RU_refuses 254 = .ok (.aload_n 1, 1) := by decide +kernel
theorem d_RU_refuses_255 : decode c_RU_refuses 255 = .ok (.getfield 78, 3) := by decide +kernel
theorem d_RU_refuses_258 : decode c_RU_refuses 258 = .ok (.aload_n 0, 1) := by decide +kernel
theorem d_RU_refuses_259 : decode c_RU_refuses 259 = .ok (.getfield 28, 3) := by decide +kernel
theorem d_RU_refuses_262 : decode c_RU_refuses 262 = .ok (.if_icmp .le 7, 3) := by decide +kernel
theorem d_RU_refuses_265 : decode c_RU_refuses 265 = .ok (.iconst 1, 1) := by decide +kernel
theorem d_RU_refuses_266 : decode c_RU_refuses 266 = .ok (.goto 4, 3) := by decide +kernel
theorem d_RU_refuses_269 : decode c_RU_refuses 269 = .ok (.iconst 0, 1) := by decide +kernel
theorem d_RU_refuses_270 : decode c_RU_refuses 270 = .ok (.ireturn, 1) := by decide +kernel
theorem d_RU_refuses_271 : decode c_RU_refuses 271 = .ok (.aload_n 1, 1) := by decide +kernel
theorem d_RU_refuses_272 : decode c_RU_refuses 272 = .ok (.getfield 81, 3) := by decide +kernel
theorem d_RU_refuses_275 : decode c_RU_refuses 275 = .ok (.aload_n 1, 1) := by decide +kernel
theorem d_RU_refuses_276 : decode c_RU_refuses 276 = .ok (.getfield 84, 3) := by decide +kernel
theorem d_RU_refuses_279 : decode c_RU_refuses 279 = .ok (.isub, 1) := by decide +kernel
theorem d_RU_refuses_280 : decode c_RU_refuses 280 = .ok (.aload_n 0, 1) := by decide +kernel
theorem d_RU_refuses_281 : decode c_RU_refuses 281 = .ok (.getfield 28, 3) := by decide +kernel
theorem d_RU_refuses_284 : decode c_RU_refuses 284 = .ok (.if_icmp .le 7, 3) := by decide +kernel
theorem d_RU_refuses_287 : decode c_RU_refuses 287 = .ok (.iconst 1, 1) := by decide +kernel
theorem d_RU_refuses_288 : decode c_RU_refuses 288 = .ok (.goto 4, 3) := by decide +kernel
theorem d_RU_refuses_291 : decode c_RU_refuses 291 = .ok (.iconst 0, 1) := by decide +kernel
theorem d_RU_refuses_292 : decode c_RU_refuses 292 = .ok (.ireturn, 1) := by decide +kernel
theorem d_RU_refuses_293 : decode c_RU_refuses 293 = .ok (.aload_n 1, 1) := by decide +kernel
theorem d_RU_refuses_294 : decode c_RU_refuses 294 = .ok (.getfield 87, 3) := by decide +kernel
theorem d_RU_refuses_297 : decode c_RU_refuses 297 = .ok (.aload_n 1, 1) := by decide +kernel
theorem d_RU_refuses_298 : decode c_RU_refuses 298 = .ok (.getfield 90, 3) := by decide +kernel
theorem d_RU_refuses_301 : decode c_RU_refuses 301 = .ok (.isub, 1) := by decide +kernel
theorem d_RU_refuses_302 : decode c_RU_refuses 302 = .ok (.aload_n 0, 1) := by decide +kernel
theorem d_RU_refuses_303 : decode c_RU_refuses 303 = .ok (.getfield 28, 3) := by decide +kernel
theorem d_RU_refuses_306 : decode c_RU_refuses 306 = .ok (.if_icmp .ge 7, 3) := by decide +kernel
theorem d_RU_refuses_309 : decode c_RU_refuses 309 = .ok (.iconst 1, 1) := by decide +kernel
theorem d_RU_refuses_310 : decode c_RU_refuses 310 = .ok (.goto 4, 3) := by decide +kernel
theorem d_RU_refuses_313 : decode c_RU_refuses 313 = .ok (.iconst 0, 1) := by decide +kernel
theorem d_RU_refuses_314 : decode c_RU_refuses 314 = .ok (.ireturn, 1) := by decide +kernel
theorem d_RU_refuses_315 : decode c_RU_refuses 315 = .ok (.aload_n 2, 1) := by decide +kernel
theorem d_RU_refuses_316 : decode c_RU_refuses 316 = .ok (.aload_n 0, 1) := by decide +kernel
theorem d_RU_refuses_317 : decode c_RU_refuses 317 = .ok (.getfield 28, 3) := by decide +kernel
theorem d_RU_refuses_320 : decode c_RU_refuses 320 = .ok (.aload_n 1, 1) := by decide +kernel
theorem d_RU_refuses_321 : decode c_RU_refuses 321 = .ok (.invokevirtual 93, 3) := by decide +kernel
theorem d_RU_refuses_324 : decode c_RU_refuses 324 = .ok (.ireturn, 1) := by decide +kernel
theorem d_RU_refuses_325 : decode c_RU_refuses 325 = .ok (.iconst 0, 1) := by decide +kernel
theorem d_RU_refuses_326 : decode c_RU_refuses 326 = .ok (.ireturn, 1) := by decide +kernel
theorem d_RB_init_0 : decode c_RB_init 0 = .ok (.aload_n 0, 1) := by decide +kernel
theorem d_RB_init_1 : decode c_RB_init 1 = .ok (.invokespecial 3, 3) := by decide +kernel
theorem d_RB_init_4 : decode c_RB_init 4 = .ok (.aload_n 0, 1) := by decide +kernel
theorem d_RB_init_5 : decode c_RB_init 5 = .ok (.bipush 24, 2) := by decide +kernel
theorem d_RB_init_7 : decode c_RB_init 7 = .ok (.anewarray 9, 3) := by decide +kernel
theorem d_RB_init_10 : decode c_RB_init 10 = .ok (.putfield 11, 3) := by decide +kernel
theorem d_RB_init_13 : decode c_RB_init 13 = .ok (.aload_n 0, 1) := by decide +kernel
theorem d_RB_init_14 : decode c_RB_init 14 = .ok (.bipush 24, 2) := by decide +kernel
theorem d_RB_init_16 : decode c_RB_init 16 = .ok (.newarray .int, 2) := by decide +kernel
theorem d_RB_init_18 : decode c_RB_init 18 = .ok (.putfield 17, 3) := by decide +kernel
theorem d_RB_init_21 : decode c_RB_init 21 = .ok (.aload_n 0, 1) := by decide +kernel
theorem d_RB_init_22 : decode c_RB_init 22 = .ok (.sipush 276, 3) := by decide +kernel
theorem d_RB_init_25 : decode c_RB_init 25 = .ok (.newarray .int, 2) := by decide +kernel
theorem d_RB_init_27 : decode c_RB_init 27 = .ok (.putfield 21, 3) := by decide +kernel
theorem d_RB_init_30 : decode c_RB_init 30 = .ok (.aload_n 0, 1) := by decide +kernel
theorem d_RB_init_31 : decode c_RB_init 31 = .ok (.sipush 276, 3) := by decide +kernel
theorem d_RB_init_34 : decode c_RB_init 34 = .ok (.newarray .int, 2) := by decide +kernel
theorem d_RB_init_36 : decode c_RB_init 36 = .ok (.putfield 24, 3) := by decide +kernel
theorem d_RB_init_39 : decode c_RB_init 39 = .ok (.iconst 0, 1) := by decide +kernel
theorem d_RB_init_40 : decode c_RB_init 40 = .ok (.istore_n 1, 1) := by decide +kernel
theorem d_RB_init_41 : decode c_RB_init 41 = .ok (.iload_n 1, 1) := by decide +kernel
theorem d_RB_init_42 : decode c_RB_init 42 = .ok (.bipush 24, 2) := by decide +kernel
theorem d_RB_init_44 : decode c_RB_init 44 = .ok (.if_icmp .ge 22, 3) := by decide +kernel
theorem d_RB_init_47 : decode c_RB_init 47 = .ok (.aload_n 0, 1) := by decide +kernel
theorem d_RB_init_48 : decode c_RB_init 48 = .ok (.getfield 11, 3) := by decide +kernel
theorem d_RB_init_51 : decode c_RB_init 51 = .ok (.iload_n 1, 1) := by decide +kernel
theorem d_RB_init_52 : decode c_RB_init 52 = .ok (.new 9, 3) := by decide +kernel
theorem d_RB_init_55 : decode c_RB_init 55 = .ok (.dup, 1) := by decide +kernel
theorem d_RB_init_56 : decode c_RB_init 56 = .ok (.invokespecial 27, 3) := by decide +kernel
theorem d_RB_init_59 : decode c_RB_init 59 = .ok (.aastore, 1) := by decide +kernel
theorem d_RB_init_60 : decode c_RB_init 60 = .ok (.iinc 1 1, 3) := by decide +kernel
theorem d_RB_init_63 : decode c_RB_init 63 = .ok (.goto (-22), 3) := by decide +kernel
theorem d_RB_init_66 : decode c_RB_init 66 = .ok (.return_, 1) := by decide +kernel
theorem d_RB_room_0 : decode c_RB_room 0 = .ok (.bipush 24, 2) := by decide +kernel
theorem d_RB_room_2 : decode c_RB_room 2 = .ok (.aload_n 0, 1) := by decide +kernel
theorem d_RB_room_3 : decode c_RB_room 3 = .ok (.getfield 28, 3) := by decide +kernel
theorem d_RB_room_6 : decode c_RB_room 6 = .ok (.isub, 1) := by decide +kernel
theorem d_RB_room_7 : decode c_RB_room 7 = .ok (.ireturn, 1) := by decide +kernel
theorem d_RB_addRule_0 : decode c_RB_addRule 0 = .ok (.aload_n 0, 1) := by decide +kernel
theorem d_RB_addRule_1 : decode c_RB_addRule 1 = .ok (.getfield 28, 3) := by decide +kernel
theorem d_RB_addRule_4 : decode c_RB_addRule 4 = .ok (.istore 5, 2) := by decide +kernel
theorem d_RB_addRule_6 : decode c_RB_addRule 6 = .ok (.iload 5, 2) := by decide +kernel
theorem d_RB_addRule_8 : decode c_RB_addRule 8 = .ok (.bipush 24, 2) := by decide +kernel
theorem d_RB_addRule_10 : decode c_RB_addRule 10 = .ok (.if_icmp .lt 5, 3) := by decide +kernel
theorem d_RB_addRule_13 : decode c_RB_addRule 13 = .ok (.iconst (-1), 1) := by decide +kernel
theorem d_RB_addRule_14 : decode c_RB_addRule 14 = .ok (.ireturn, 1) := by decide +kernel
theorem d_RB_addRule_15 : decode c_RB_addRule 15 = .ok (.aload_n 0, 1) := by decide +kernel
theorem d_RB_addRule_16 : decode c_RB_addRule 16 = .ok (.getfield 11, 3) := by decide +kernel
theorem d_RB_addRule_19 : decode c_RB_addRule 19 = .ok (.iload 5, 2) := by decide +kernel
theorem d_RB_addRule_21 : decode c_RB_addRule 21 = .ok (.aaload, 1) := by decide +kernel
theorem d_RB_addRule_22 : decode c_RB_addRule 22 = .ok (.astore 6, 2) := by decide +kernel
theorem d_RB_addRule_24 : decode c_RB_addRule 24 = .ok (.aload 6, 2) := by decide +kernel
theorem d_RB_addRule_26 : decode c_RB_addRule 26 = .ok (.iload_n 1, 1) := by decide +kernel
theorem d_RB_addRule_27 : decode c_RB_addRule 27 = .ok (.putfield 32, 3) := by decide +kernel
theorem d_RB_addRule_30 : decode c_RB_addRule 30 = .ok (.aload 6, 2) := by decide +kernel
theorem d_RB_addRule_32 : decode c_RB_addRule 32 = .ok (.aload_n 2, 1) := by decide +kernel
theorem d_RB_addRule_33 : decode c_RB_addRule 33 = .ok (.putfield 35, 3) := by decide +kernel
theorem d_RB_addRule_36 : decode c_RB_addRule 36 = .ok (.aload 6, 2) := by decide +kernel
theorem d_RB_addRule_38 : decode c_RB_addRule 38 = .ok (.iload_n 3, 1) := by decide +kernel
theorem d_RB_addRule_39 : decode c_RB_addRule 39 = .ok (.putfield 39, 3) := by decide +kernel
theorem d_RB_addRule_42 : decode c_RB_addRule 42 = .ok (.aload 6, 2) := by decide +kernel
theorem d_RB_addRule_44 : decode c_RB_addRule 44 = .ok (.iload 4, 2) := by decide +kernel
theorem d_RB_addRule_46 : decode c_RB_addRule 46 = .ok (.putfield 42, 3) := by decide +kernel
theorem d_RB_addRule_49 : decode c_RB_addRule 49 = .ok (.aload_n 0, 1) := by decide +kernel
theorem d_RB_addRule_50 : decode c_RB_addRule 50 = .ok (.iload 5, 2) := by decide +kernel
theorem d_RB_addRule_52 : decode c_RB_addRule 52 = .ok (.invokevirtual 45, 3) := by decide +kernel
theorem d_RB_addRule_55 : decode c_RB_addRule 55 = .ok (.aload_n 0, 1) := by decide +kernel
theorem d_RB_addRule_56 : decode c_RB_addRule 56 = .ok (.iload 5, 2) := by decide +kernel
theorem d_RB_addRule_58 : decode c_RB_addRule 58 = .ok (.invokevirtual 49, 3) := by decide +kernel
theorem d_RB_addRule_61 : decode c_RB_addRule 61 = .ok (.aload_n 0, 1) := by decide +kernel
theorem d_RB_addRule_62 : decode c_RB_addRule 62 = .ok (.dup, 1) := by decide +kernel
theorem d_RB_addRule_63 : decode c_RB_addRule 63 = .ok (.getfield 28, 3) := by decide +kernel
theorem d_RB_addRule_66 : decode c_RB_addRule 66 = .ok (.iconst 1, 1) := by decide +kernel
theorem d_RB_addRule_67 : decode c_RB_addRule 67 = .ok (.iadd, 1) := by decide +kernel
theorem d_RB_addRule_68 : decode c_RB_addRule 68 = .ok (.putfield 28, 3) := by decide +kernel
theorem d_RB_addRule_71 : decode c_RB_addRule 71 = .ok (.iload 5, 2) := by decide +kernel
theorem d_RB_addRule_73 : decode c_RB_addRule 73 = .ok (.ireturn, 1) := by decide +kernel
theorem d_RB_neverRefused_0 : decode c_RB_neverRefused 0 = .ok (.iconst 0, 1) := by decide +kernel
theorem d_RB_neverRefused_1 : decode c_RB_neverRefused 1 = .ok (.istore_n 2, 1) := by decide +kernel
theorem d_RB_neverRefused_2 : decode c_RB_neverRefused 2 = .ok (.iconst 0, 1) := by decide +kernel
theorem d_RB_neverRefused_3 : decode c_RB_neverRefused 3 = .ok (.istore_n 3, 1) := by decide +kernel
theorem d_RB_neverRefused_4 : decode c_RB_neverRefused 4 = .ok (.iload_n 3, 1) := by decide +kernel
theorem d_RB_neverRefused_5 : decode c_RB_neverRefused 5 = .ok (.aload_n 0, 1) := by decide +kernel
theorem d_RB_neverRefused_6 : decode c_RB_neverRefused 6 = .ok (.getfield 28, 3) := by decide +kernel
theorem d_RB_neverRefused_9 : decode c_RB_neverRefused 9 = .ok (.if_icmp .ge 31, 3) := by decide +kernel
theorem d_RB_neverRefused_12 : decode c_RB_neverRefused 12 = .ok (.aload_n 0, 1) := by decide +kernel
theorem d_RB_neverRefused_13 : decode c_RB_neverRefused 13 = .ok (.getfield 11, 3) := by decide +kernel
theorem d_RB_neverRefused_16 : decode c_RB_neverRefused 16 = .ok (.iload_n 3, 1) := by decide +kernel
theorem d_RB_neverRefused_17 : decode c_RB_neverRefused 17 = .ok (.aaload, 1) := by decide +kernel
theorem d_RB_neverRefused_18 : decode c_RB_neverRefused 18 = .ok (.getfield 52, 3) := by decide +kernel
theorem d_RB_neverRefused_21 : decode c_RB_neverRefused 21 = .ok (.ifCond .ne 13, 3) := by decide +kernel
theorem d_RB_neverRefused_24 : decode c_RB_neverRefused 24 = .ok (.iload_n 2, 1) := by decide +kernel
theorem d_RB_neverRefused_25 : decode c_RB_neverRefused 25 = .ok (.iload_n 1, 1) := by decide +kernel
theorem d_RB_neverRefused_26 : decode c_RB_neverRefused 26 = .ok (.if_icmp .ne 5, 3) := by decide +kernel
theorem d_RB_neverRefused_29 : decode c_RB_neverRefused 29 = .ok (.iload_n 3, 1) := by decide +kernel
theorem d_RB_neverRefused_30 : decode c_RB_neverRefused 30 = .ok (.ireturn, 1) := by decide +kernel
theorem d_RB_neverRefused_31 : decode c_RB_neverRefused 31 = .ok (.iinc 2 1, 3) := by decide +kernel
theorem d_RB_neverRefused_34 : decode c_RB_neverRefused 34 = .ok (.iinc 3 1, 3) := by decide +kernel
theorem d_RB_neverRefused_37 : decode c_RB_neverRefused 37 = .ok (.goto (-33), 3) := by decide +kernel
theorem d_RB_neverRefused_40 : decode c_RB_neverRefused 40 = .ok (.iconst (-1), 1) := by decide +kernel
theorem d_RB_neverRefused_41 : decode c_RB_neverRefused 41 = .ok (.ireturn, 1) := by decide +kernel
theorem d_RB_noteClashes_0 : decode c_RB_noteClashes 0 = .ok (.aload_n 0, 1) := by decide +kernel
theorem d_RB_noteClashes_1 : decode c_RB_noteClashes 1 = .ok (.getfield 11, 3) := by decide +kernel
theorem d_RB_noteClashes_4 : decode c_RB_noteClashes 4 = .ok (.iload_n 1, 1) := by decide +kernel
theorem d_RB_noteClashes_5 : decode c_RB_noteClashes 5 = .ok (.aaload, 1) := by decide +kernel
theorem d_RB_noteClashes_6 : decode c_RB_noteClashes 6 = .ok (.astore_n 2, 1) := by decide +kernel
theorem d_RB_noteClashes_7 : decode c_RB_noteClashes 7 = .ok (.iconst 0, 1) := by decide +kernel
theorem d_RB_noteClashes_8 : decode c_RB_noteClashes 8 = .ok (.istore_n 3, 1) := by decide +kernel
theorem d_RB_noteClashes_9 : decode c_RB_noteClashes 9 = .ok (.iload_n 3, 1) := by decide +kernel
theorem d_RB_noteClashes_10 : decode c_RB_noteClashes 10 = .ok (.iload_n 1, 1) := by decide +kernel
theorem d_RB_noteClashes_11 : decode c_RB_noteClashes 11 = .ok (.if_icmp .ge 81, 3) := by decide +kernel
theorem d_RB_noteClashes_14 : decode c_RB_noteClashes 14 = .ok (.aload_n 0, 1) := by decide +kernel
theorem d_RB_noteClashes_15 : decode c_RB_noteClashes 15 = .ok (.getfield 56, 3) := by decide +kernel
theorem d_RB_noteClashes_18 : decode c_RB_noteClashes 18 = .ok (.sipush 276, 3) := by decide +kernel
theorem d_RB_noteClashes_21 : decode c_RB_noteClashes 21 = .ok (.if_icmp .ge 71, 3) := by decide +kernel
theorem d_RB_noteClashes_24 : decode c_RB_noteClashes 24 = .ok (.aload_n 0, 1) := by decide +kernel
theorem d_RB_noteClashes_25 : decode c_RB_noteClashes 25 = .ok (.getfield 11, 3) := by decide +kernel
theorem d_RB_noteClashes_28 : decode c_RB_noteClashes 28 = .ok (.iload_n 3, 1) := by decide +kernel
theorem d_RB_noteClashes_29 : decode c_RB_noteClashes 29 = .ok (.aaload, 1) := by decide +kernel
theorem d_RB_noteClashes_30 : decode c_RB_noteClashes 30 = .ok (.getfield 32, 3) := by decide +kernel
theorem d_RB_noteClashes_33 : decode c_RB_noteClashes 33 = .ok (.aload_n 2, 1) := by decide +kernel
theorem d_RB_noteClashes_34 : decode c_RB_noteClashes 34 = .ok (.getfield 32, 3) := by decide +kernel
theorem d_RB_noteClashes_37 : decode c_RB_noteClashes 37 = .ok (.if_icmp .ne 49, 3) := by decide +kernel
theorem d_RB_noteClashes_40 : decode c_RB_noteClashes 40 = .ok (.aload_n 0, 1) := by decide +kernel
theorem d_RB_noteClashes_41 : decode c_RB_noteClashes 41 = .ok (.getfield 11, 3) := by decide +kernel
theorem d_RB_noteClashes_44 : decode c_RB_noteClashes 44 = .ok (.iload_n 3, 1) := by decide +kernel
theorem d_RB_noteClashes_45 : decode c_RB_noteClashes 45 = .ok (.aaload, 1) := by decide +kernel
theorem d_RB_noteClashes_46 : decode c_RB_noteClashes 46 = .ok (.getfield 35, 3) := by decide +kernel
theorem d_RB_noteClashes_49 : decode c_RB_noteClashes 49 = .ok (.aload_n 2, 1) := by decide +kernel
theorem d_RB_noteClashes_50 : decode c_RB_noteClashes 50 = .ok (.getfield 35, 3) := by decide +kernel
theorem d_RB_noteClashes_53 : decode c_RB_noteClashes 53 = .ok (.if_acmp .ne 33, 3) := by decide +kernel
theorem d_RB_noteClashes_56 : decode c_RB_noteClashes 56 = .ok (.aload_n 0, 1) := by decide +kernel
theorem d_RB_noteClashes_57 : decode c_RB_noteClashes 57 = .ok (.getfield 21, 3) := by decide +kernel
theorem d_RB_noteClashes_60 : decode c_RB_noteClashes 60 = .ok (.aload_n 0, 1) := by decide +kernel
theorem d_RB_noteClashes_61 : decode c_RB_noteClashes 61 = .ok (.getfield 56, 3) := by decide +kernel
theorem d_RB_noteClashes_64 : decode c_RB_noteClashes 64 = .ok (.iload_n 3, 1) := by decide +kernel
theorem d_RB_noteClashes_65 : decode c_RB_noteClashes 65 = .ok (.iastore, 1) := by decide +kernel
theorem d_RB_noteClashes_66 : decode c_RB_noteClashes 66 = .ok (.aload_n 0, 1) := by decide +kernel
theorem d_RB_noteClashes_67 : decode c_RB_noteClashes 67 = .ok (.getfield 24, 3) := by decide +kernel
theorem d_RB_noteClashes_70 : decode c_RB_noteClashes 70 = .ok (.aload_n 0, 1) := by decide +kernel
theorem d_RB_noteClashes_71 : decode c_RB_noteClashes 71 = .ok (.getfield 56, 3) := by decide +kernel
theorem d_RB_noteClashes_74 : decode c_RB_noteClashes 74 = .ok (.iload_n 1, 1) := by decide +kernel
theorem d_RB_noteClashes_75 : decode c_RB_noteClashes 75 = .ok (.iastore, 1) := by decide +kernel
theorem d_RB_noteClashes_76 : decode c_RB_noteClashes 76 = .ok (.aload_n 0, 1) := by decide +kernel
theorem d_RB_noteClashes_77 : decode c_RB_noteClashes 77 = .ok (.dup, 1) := by decide +kernel
theorem d_RB_noteClashes_78 : decode c_RB_noteClashes 78 = .ok (.getfield 56, 3) := by decide +kernel
theorem d_RB_noteClashes_81 : decode c_RB_noteClashes 81 = .ok (.iconst 1, 1) := by decide +kernel
theorem d_RB_noteClashes_82 : decode c_RB_noteClashes 82 = .ok (.iadd, 1) := by decide +kernel
theorem d_RB_noteClashes_83 : decode c_RB_noteClashes 83 = .ok (.putfield 56, 3) := by decide +kernel
theorem d_RB_noteClashes_86 : decode c_RB_noteClashes 86 = .ok (.iinc 3 1, 3) := by decide +kernel
theorem d_RB_noteClashes_89 : decode c_RB_noteClashes 89 = .ok (.goto (-80), 3) := by decide +kernel
theorem d_RB_noteClashes_92 : decode c_RB_noteClashes 92 = .ok (.return_, 1) := by decide +kernel
theorem d_RB_insertInOrder_0 : decode c_RB_insertInOrder 0 = .ok (.iload_n 1, 1) := by decide +kernel
theorem d_RB_insertInOrder_1 : decode c_RB_insertInOrder 1 = .ok (.istore_n 2, 1) := by decide +kernel
theorem d_RB_insertInOrder_2 : decode c_RB_insertInOrder 2 = .ok (.iload_n 2, 1) := by decide +kernel
theorem d_RB_insertInOrder_3 : decode c_RB_insertInOrder 3 = .ok (.ifCond .le 51, 3) := by decide +kernel
theorem d_RB_insertInOrder_6 : decode c_RB_insertInOrder 6 = .ok (.aload_n 0, 1) := by decide +kernel
theorem d_RB_insertInOrder_7 : decode c_RB_insertInOrder 7 = .ok (.getfield 11, 3) := by decide +kernel
theorem d_RB_insertInOrder_10 : decode c_RB_insertInOrder 10 = .ok (.aload_n 0, 1) := by decide +kernel
theorem d_RB_insertInOrder_11 : decode c_RB_insertInOrder 11 = .ok (.getfield 17, 3) := by decide +kernel
theorem d_RB_insertInOrder_14 : decode c_RB_insertInOrder 14 = .ok (.iload_n 2, 1) := by decide +kernel
theorem d_RB_insertInOrder_15 : decode c_RB_insertInOrder 15 = .ok (.iconst 1, 1) := by decide +kernel
theorem d_RB_insertInOrder_16 : decode c_RB_insertInOrder 16 = .ok (.isub, 1) := by decide +kernel
theorem d_RB_insertInOrder_17 : decode c_RB_insertInOrder 17 = .ok (.iaload, 1) := by decide +kernel
theorem d_RB_insertInOrder_18 : decode c_RB_insertInOrder 18 = .ok (.aaload, 1) := by decide +kernel
theorem d_RB_insertInOrder_19 : decode c_RB_insertInOrder 19 = .ok (.getfield 32, 3) := by decide +kernel
theorem d_RB_insertInOrder_22 : decode c_RB_insertInOrder 22 = .ok (.aload_n 0, 1) := by decide +kernel
theorem d_RB_insertInOrder_23 : decode c_RB_insertInOrder 23 = .ok (.getfield 11, 3) := by decide +kernel
theorem d_RB_insertInOrder_26 : decode c_RB_insertInOrder 26 = .ok (.iload_n 1, 1) := by decide +kernel
theorem d_RB_insertInOrder_27 : decode c_RB_insertInOrder 27 = .ok (.aaload, 1) := by decide +kernel
theorem d_RB_insertInOrder_28 : decode c_RB_insertInOrder 28 = .ok (.getfield 32, 3) := by decide +kernel
theorem d_RB_insertInOrder_31 : decode c_RB_insertInOrder 31 = .ok (.if_icmp .le 23, 3) := by decide +kernel
theorem d_RB_insertInOrder_34 : decode c_RB_insertInOrder 34 = .ok (.aload_n 0, 1) := by decide +kernel
theorem d_RB_insertInOrder_35 : decode c_RB_insertInOrder 35 = .ok (.getfield 17, 3) := by decide +kernel
theorem d_RB_insertInOrder_38 : decode c_RB_insertInOrder 38 = .ok (.iload_n 2, 1) := by decide +kernel
theorem d_RB_insertInOrder_39 : decode c_RB_insertInOrder 39 = .ok (.aload_n 0, 1) := by decide +kernel
theorem d_RB_insertInOrder_40 : decode c_RB_insertInOrder 40 = .ok (.getfield 17, 3) := by decide +kernel
theorem d_RB_insertInOrder_43 : decode c_RB_insertInOrder 43 = .ok (.iload_n 2, 1) := by decide +kernel
theorem d_RB_insertInOrder_44 : decode c_RB_insertInOrder 44 = .ok (.iconst 1, 1) := by decide +kernel
theorem d_RB_insertInOrder_45 : decode c_RB_insertInOrder 45 = .ok (.isub, 1) := by decide +kernel
theorem d_RB_insertInOrder_46 : decode c_RB_insertInOrder 46 = .ok (.iaload, 1) := by decide +kernel
theorem d_RB_insertInOrder_47 : decode c_RB_insertInOrder 47 = .ok (.iastore, 1) := by decide +kernel
theorem d_RB_insertInOrder_48 : decode c_RB_insertInOrder 48 = .ok (.iinc 2 (-1), 3) := by decide +kernel
theorem d_RB_insertInOrder_51 : decode c_RB_insertInOrder 51 = .ok (.goto (-49), 3) := by decide +kernel
theorem d_RB_insertInOrder_54 : decode c_RB_insertInOrder 54 = .ok (.aload_n 0, 1) := by decide +kernel
theorem d_RB_insertInOrder_55 : decode c_RB_insertInOrder 55 = .ok (.getfield 17, 3) := by decide +kernel
theorem d_RB_insertInOrder_58 : decode c_RB_insertInOrder 58 = .ok (.iload_n 2, 1) := by decide +kernel
theorem d_RB_insertInOrder_59 : decode c_RB_insertInOrder 59 = .ok (.iload_n 1, 1) := by decide +kernel
theorem d_RB_insertInOrder_60 : decode c_RB_insertInOrder 60 = .ok (.iastore, 1) := by decide +kernel
theorem d_RB_insertInOrder_61 : decode c_RB_insertInOrder 61 = .ok (.return_, 1) := by decide +kernel
theorem d_TX_init_0 : decode c_TX_init 0 = .ok (.aload_n 0, 1) := by decide +kernel
theorem d_TX_init_1 : decode c_TX_init 1 = .ok (.invokespecial 3, 3) := by decide +kernel
theorem d_TX_init_4 : decode c_TX_init 4 = .ok (.aload_n 0, 1) := by decide +kernel
theorem d_TX_init_5 : decode c_TX_init 5 = .ok (.sipush 400, 3) := by decide +kernel
theorem d_TX_init_8 : decode c_TX_init 8 = .ok (.newarray .int, 2) := by decide +kernel
theorem d_TX_init_10 : decode c_TX_init 10 = .ok (.putfield 9, 3) := by decide +kernel
theorem d_TX_init_13 : decode c_TX_init 13 = .ok (.aload_n 0, 1) := by decide +kernel
theorem d_TX_init_14 : decode c_TX_init 14 = .ok (.bipush 24, 2) := by decide +kernel
theorem d_TX_init_16 : decode c_TX_init 16 = .ok (.anewarray 15, 3) := by decide +kernel
theorem d_TX_init_19 : decode c_TX_init 19 = .ok (.putfield 17, 3) := by decide +kernel
theorem d_TX_init_22 : decode c_TX_init 22 = .ok (.aload_n 0, 1) := by decide +kernel
theorem d_TX_init_23 : decode c_TX_init 23 = .ok (.getstatic 21, 3) := by decide +kernel
theorem d_TX_init_26 : decode c_TX_init 26 = .ok (.putfield 27, 3) := by decide +kernel
theorem d_TX_init_29 : decode c_TX_init 29 = .ok (.iconst 0, 1) := by decide +kernel
theorem d_TX_init_30 : decode c_TX_init 30 = .ok (.istore_n 1, 1) := by decide +kernel
theorem d_TX_init_31 : decode c_TX_init 31 = .ok (.iload_n 1, 1) := by decide +kernel
theorem d_TX_init_32 : decode c_TX_init 32 = .ok (.bipush 24, 2) := by decide +kernel
theorem d_TX_init_34 : decode c_TX_init 34 = .ok (.if_icmp .ge 22, 3) := by decide +kernel
theorem d_TX_init_37 : decode c_TX_init 37 = .ok (.aload_n 0, 1) := by decide +kernel
theorem d_TX_init_38 : decode c_TX_init 38 = .ok (.getfield 17, 3) := by decide +kernel
theorem d_TX_init_41 : decode c_TX_init 41 = .ok (.iload_n 1, 1) := by decide +kernel
theorem d_TX_init_42 : decode c_TX_init 42 = .ok (.new 15, 3) := by decide +kernel
theorem d_TX_init_45 : decode c_TX_init 45 = .ok (.dup, 1) := by decide +kernel
theorem d_TX_init_46 : decode c_TX_init 46 = .ok (.invokespecial 30, 3) := by decide +kernel
theorem d_TX_init_49 : decode c_TX_init 49 = .ok (.aastore, 1) := by decide +kernel
theorem d_TX_init_50 : decode c_TX_init 50 = .ok (.iinc 1 1, 3) := by decide +kernel
theorem d_TX_init_53 : decode c_TX_init 53 = .ok (.goto (-22), 3) := by decide +kernel
theorem d_TX_init_56 : decode c_TX_init 56 = .ok (.return_, 1) := by decide +kernel
theorem d_TX_collect_0 : decode c_TX_collect 0 = .ok (.aload_n 0, 1) := by decide +kernel
theorem d_TX_collect_1 : decode c_TX_collect 1 = .ok (.getfield 31, 3) := by decide +kernel
theorem d_TX_collect_4 : decode c_TX_collect 4 = .ok (.sipush 400, 3) := by decide +kernel
theorem d_TX_collect_7 : decode c_TX_collect 7 = .ok (.if_icmp .lt 5, 3) := by decide +kernel
theorem d_TX_collect_10 : decode c_TX_collect 10 = .ok (.iconst (-1), 1) := by decide +kernel
theorem d_TX_collect_11 : decode c_TX_collect 11 = .ok (.ireturn, 1) := by decide +kernel
theorem d_TX_collect_12 : decode c_TX_collect 12 = .ok (.aload_n 0, 1) := by decide +kernel
theorem d_TX_collect_13 : decode c_TX_collect 13 = .ok (.getfield 9, 3) := by decide +kernel
theorem d_TX_collect_16 : decode c_TX_collect 16 = .ok (.aload_n 0, 1) := by decide +kernel
theorem d_TX_collect_17 : decode c_TX_collect 17 = .ok (.getfield 31, 3) := by decide +kernel
theorem d_TX_collect_20 : decode c_TX_collect 20 = .ok (.iload_n 1, 1) := by decide +kernel
theorem d_TX_collect_21 : decode c_TX_collect 21 = .ok (.iastore, 1) := by decide +kernel
theorem d_TX_collect_22 : decode c_TX_collect 22 = .ok (.aload_n 0, 1) := by decide +kernel
theorem d_TX_collect_23 : decode c_TX_collect 23 = .ok (.dup, 1) := by decide +kernel
theorem d_TX_collect_24 : decode c_TX_collect 24 = .ok (.getfield 31, 3) := by decide +kernel
theorem d_TX_collect_27 : decode c_TX_collect 27 = .ok (.iconst 1, 1) := by decide +kernel
theorem d_TX_collect_28 : decode c_TX_collect 28 = .ok (.iadd, 1) := by decide +kernel
theorem d_TX_collect_29 : decode c_TX_collect 29 = .ok (.putfield 31, 3) := by decide +kernel
theorem d_TX_collect_32 : decode c_TX_collect 32 = .ok (.aload_n 0, 1) := by decide +kernel
theorem d_TX_collect_33 : decode c_TX_collect 33 = .ok (.getfield 31, 3) := by decide +kernel
theorem d_TX_collect_36 : decode c_TX_collect 36 = .ok (.ireturn, 1) := by decide +kernel
theorem d_TX_forget_0 : decode c_TX_forget 0 = .ok (.aload_n 0, 1) := by decide +kernel
theorem d_TX_forget_1 : decode c_TX_forget 1 = .ok (.iconst 0, 1) := by decide +kernel
theorem d_TX_forget_2 : decode c_TX_forget 2 = .ok (.putfield 31, 3) := by decide +kernel
theorem d_TX_forget_5 : decode c_TX_forget 5 = .ok (.return_, 1) := by decide +kernel
theorem d_TX_readLines_0 : decode c_TX_readLines 0 = .ok (.aload_n 0, 1) := by decide +kernel
theorem d_TX_readLines_1 : decode c_TX_readLines 1 = .ok (.iconst 0, 1) := by decide +kernel
theorem d_TX_readLines_2 : decode c_TX_readLines 2 = .ok (.putfield 35, 3) := by decide +kernel
theorem d_TX_readLines_5 : decode c_TX_readLines 5 = .ok (.iconst 0, 1) := by decide +kernel
theorem d_TX_readLines_6 : decode c_TX_readLines 6 = .ok (.istore_n 2, 1) := by decide +kernel
theorem d_TX_readLines_7 : decode c_TX_readLines 7 = .ok (.iload_n 2, 1) := by decide +kernel
theorem d_TX_readLines_8 : decode c_TX_readLines 8 = .ok (.iload_n 1, 1) := by decide +kernel
theorem d_TX_readLines_9 : decode c_TX_readLines 9 = .ok (.if_icmp .ge 46, 3) := by decide +kernel
theorem d_TX_readLines_12 : decode c_TX_readLines 12 = .ok (.iload_n 2, 1) := by decide +kernel
theorem d_TX_readLines_13 : decode c_TX_readLines 13 = .ok (.bipush 24, 2) := by decide +kernel
theorem d_TX_readLines_15 : decode c_TX_readLines 15 = .ok (.if_icmp .ge 40, 3) := by decide +kernel
theorem d_TX_readLines_18 : decode c_TX_readLines 18 = .ok (.aload_n 0, 1) := by decide +kernel
theorem d_TX_readLines_19 : decode c_TX_readLines 19 = .ok (.getfield 35, 3) := by decide +kernel
theorem d_TX_readLines_22 : decode c_TX_readLines 22 = .ok (.aload_n 0, 1) := by decide +kernel
theorem d_TX_readLines_23 : decode c_TX_readLines 23 = .ok (.getfield 31, 3) := by decide +kernel
theorem d_TX_readLines_26 : decode c_TX_readLines 26 = .ok (.if_icmp .ge 29, 3) := by decide +kernel
theorem d_TX_readLines_29 : decode c_TX_readLines 29 = .ok (.aload_n 0, 1) := by decide +kernel
theorem d_TX_readLines_30 : decode c_TX_readLines 30 = .ok (.aload_n 0, 1) := by decide +kernel
theorem d_TX_readLines_31 : decode c_TX_readLines 31 = .ok (.getfield 17, 3) := by decide +kernel
theorem d_TX_readLines_34 : decode c_TX_readLines 34 = .ok (.iload_n 2, 1) := by decide +kernel
theorem d_TX_readLines_35 : decode c_TX_readLines 35 = .ok (.aaload, 1) := by decide +kernel
theorem d_TX_readLines_36 : decode c_TX_readLines 36 = .ok (.invokevirtual 38, 3) := by decide +kernel
theorem d_TX_readLines_39 : decode c_TX_readLines 39 = .ok (.ifCond .ne 10, 3) := by decide +kernel
theorem d_TX_readLines_42 : decode c_TX_readLines 42 = .ok (.iconst (-1), 1) := by decide +kernel
theorem d_TX_readLines_43 : decode c_TX_readLines 43 = .ok (.aload_n 0, 1) := by decide +kernel
theorem d_TX_readLines_44 : decode c_TX_readLines 44 = .ok (.getfield 42, 3) := by decide +kernel
theorem d_TX_readLines_47 : decode c_TX_readLines 47 = .ok (.isub, 1) := by decide +kernel
theorem d_TX_readLines_48 : decode c_TX_readLines 48 = .ok (.ireturn, 1) := by decide +kernel
theorem d_TX_readLines_49 : decode c_TX_readLines 49 = .ok (.iinc 2 1, 3) := by decide +kernel
theorem d_TX_readLines_52 : decode c_TX_readLines 52 = .ok (.goto (-45), 3) := by decide +kernel
theorem d_TX_readLines_55 : decode c_TX_readLines 55 = .ok (.aload_n 0, 1) := by decide +kernel
theorem d_TX_readLines_56 : decode c_TX_readLines 56 = .ok (.getfield 35, 3) := by decide +kernel
theorem d_TX_readLines_59 : decode c_TX_readLines 59 = .ok (.aload_n 0, 1) := by decide +kernel
theorem d_TX_readLines_60 : decode c_TX_readLines 60 = .ok (.getfield 31, 3) := by decide +kernel
theorem d_TX_readLines_63 : decode c_TX_readLines 63 = .ok (.if_icmp .ge 12, 3) := by decide +kernel
theorem d_TX_readLines_66 : decode c_TX_readLines 66 = .ok (.iconst (-1), 1) := by decide +kernel
theorem d_TX_readLines_67 : decode c_TX_readLines 67 = .ok (.aload_n 0, 1) := by decide +kernel
theorem d_TX_readLines_68 : decode c_TX_readLines 68 = .ok (.getfield 35, 3) := by decide +kernel
theorem d_TX_readLines_71 : decode c_TX_readLines 71 = .ok (.isub, 1) := by decide +kernel
theorem d_TX_readLines_72 : decode c_TX_readLines 72 = .ok (.goto 4, 3) := by decide +kernel
theorem d_TX_readLines_75 : decode c_TX_readLines 75 = .ok (.iload_n 2, 1) := by decide +kernel
theorem d_TX_readLines_76 : decode c_TX_readLines 76 = .ok (.ireturn, 1) := by decide +kernel
theorem d_TX_readLine_0 : decode c_TX_readLine 0 = .ok (.aload_n 0, 1) := by decide +kernel
theorem d_TX_readLine_1 : decode c_TX_readLine 1 = .ok (.iconst 1, 1) := by decide +kernel
theorem d_TX_readLine_2 : decode c_TX_readLine 2 = .ok (.bipush 100, 2) := by decide +kernel
theorem d_TX_readLine_4 : decode c_TX_readLine 4 = .ok (.invokevirtual 45, 3) := by decide +kernel
theorem d_TX_readLine_7 : decode c_TX_readLine 7 = .ok (.ifCond .ne 5, 3) := by decide +kernel
theorem d_TX_readLine_10 : decode c_TX_readLine 10 = .ok (.iconst 0, 1) := by decide +kernel
theorem d_TX_readLine_11 : decode c_TX_readLine 11 = .ok (.ireturn, 1) := by decide +kernel
theorem d_TX_readLine_12 : decode c_TX_readLine 12 = .ok (.aload_n 1, 1) := by decide +kernel
theorem d_TX_readLine_13 : decode c_TX_readLine 13 = .ok (.aload_n 0, 1) := by decide +kernel
theorem d_TX_readLine_14 : decode c_TX_readLine 14 = .ok (.getfield 49, 3) := by decide +kernel
theorem d_TX_readLine_17 : decode c_TX_readLine 17 = .ok (.putfield 52, 3) := by decide +kernel
theorem d_TX_readLine_20 : decode c_TX_readLine 20 = .ok (.aload_n 0, 1) := by decide +kernel
theorem d_TX_readLine_21 : decode c_TX_readLine 21 = .ok (.invokevirtual 55, 3) := by decide +kernel
theorem d_TX_readLine_24 : decode c_TX_readLine 24 = .ok (.ifCond .eq 10, 3) := by decide +kernel
theorem d_TX_readLine_27 : decode c_TX_readLine 27 = .ok (.aload_n 0, 1) := by decide +kernel
theorem d_TX_readLine_28 : decode c_TX_readLine 28 = .ok (.invokevirtual 59, 3) := by decide +kernel
theorem d_TX_readLine_31 : decode c_TX_readLine 31 = .ok (.ifCond .ne 5, 3) := by decide +kernel
theorem d_TX_readLine_34 : decode c_TX_readLine 34 = .ok (.iconst 0, 1) := by decide +kernel
theorem d_TX_readLine_35 : decode c_TX_readLine 35 = .ok (.ireturn, 1) := by decide +kernel
theorem d_TX_readLine_36 : decode c_TX_readLine 36 = .ok (.aload_n 1, 1) := by decide +kernel
theorem d_TX_readLine_37 : decode c_TX_readLine 37 = .ok (.aload_n 0, 1) := by decide +kernel
theorem d_TX_readLine_38 : decode c_TX_readLine 38 = .ok (.getfield 27, 3) := by decide +kernel
theorem d_TX_readLine_41 : decode c_TX_readLine 41 = .ok (.putfield 62, 3) := by decide +kernel
theorem d_TX_readLine_44 : decode c_TX_readLine 44 = .ok (.aload_n 0, 1) := by decide +kernel
theorem d_TX_readLine_45 : decode c_TX_readLine 45 = .ok (.invokevirtual 55, 3) := by decide +kernel
theorem d_TX_readLine_48 : decode c_TX_readLine 48 = .ok (.ifCond .eq 24, 3) := by decide +kernel
theorem d_TX_readLine_51 : decode c_TX_readLine 51 = .ok (.aload_n 0, 1) := by decide +kernel
theorem d_TX_readLine_52 : decode c_TX_readLine 52 = .ok (.aload_n 0, 1) := by decide +kernel
theorem d_TX_readLine_53 : decode c_TX_readLine 53 = .ok (.getfield 27, 3) := by decide +kernel
theorem d_TX_readLine_56 : decode c_TX_readLine 56 = .ok (.getfield 63, 3) := by decide +kernel
theorem d_TX_readLine_59 : decode c_TX_readLine 59 = .ok (.aload_n 0, 1) := by decide +kernel
theorem d_TX_readLine_60 : decode c_TX_readLine 60 = .ok (.getfield 27, 3) := by decide +kernel
theorem d_TX_readLine_63 : decode c_TX_readLine 63 = .ok (.getfield 66, 3) := by decide +kernel
theorem d_TX_readLine_66 : decode c_TX_readLine 66 = .ok (.invokevirtual 45, 3) := by decide +kernel
theorem d_TX_readLine_69 : decode c_TX_readLine 69 = .ok (.ifCond .ne 5, 3) := by decide +kernel
theorem d_TX_readLine_72 : decode c_TX_readLine 72 = .ok (.iconst 0, 1) := by decide +kernel
theorem d_TX_readLine_73 : decode c_TX_readLine 73 = .ok (.ireturn, 1) := by decide +kernel
theorem d_TX_readLine_74 : decode c_TX_readLine 74 = .ok (.aload_n 1, 1) := by decide +kernel
theorem d_TX_readLine_75 : decode c_TX_readLine 75 = .ok (.aload_n 0, 1) := by decide +kernel
theorem d_TX_readLine_76 : decode c_TX_readLine 76 = .ok (.getfield 49, 3) := by decide +kernel
theorem d_TX_readLine_79 : decode c_TX_readLine 79 = .ok (.putfield 69, 3) := by decide +kernel
theorem d_TX_readLine_82 : decode c_TX_readLine 82 = .ok (.aload_n 1, 1) := by decide +kernel
theorem d_TX_readLine_83 : decode c_TX_readLine 83 = .ok (.iconst 0, 1) := by decide +kernel
theorem d_TX_readLine_84 : decode c_TX_readLine 84 = .ok (.putfield 72, 3) := by decide +kernel
theorem d_TX_readLine_87 : decode c_TX_readLine 87 = .ok (.aload_n 0, 1) := by decide +kernel
theorem d_TX_readLine_88 : decode c_TX_readLine 88 = .ok (.getfield 27, 3) := by decide +kernel
theorem d_TX_readLine_91 : decode c_TX_readLine 91 = .ok (.invokevirtual 75, 3) := by decide +kernel
theorem d_TX_readLine_94 : decode c_TX_readLine 94 = .ok (.ifCond .eq 41, 3) := by decide +kernel
theorem d_TX_readLine_97 : decode c_TX_readLine 97 = .ok (.aload_n 0, 1) := by decide +kernel
theorem d_TX_readLine_98 : decode c_TX_readLine 98 = .ok (.invokevirtual 55, 3) := by decide +kernel
theorem d_TX_readLine_101 : decode c_TX_readLine 101 = .ok (.ifCond .eq 24, 3) := by decide +kernel
theorem d_TX_readLine_104 : decode c_TX_readLine 104 = .ok (.aload_n 0, 1) := by decide +kernel
theorem d_TX_readLine_105 : decode c_TX_readLine 105 = .ok (.aload_n 0, 1) := by decide +kernel
theorem d_TX_readLine_106 : decode c_TX_readLine 106 = .ok (.getfield 27, 3) := by decide +kernel
theorem d_TX_readLine_109 : decode c_TX_readLine 109 = .ok (.invokevirtual 78, 3) := by decide +kernel
theorem d_TX_readLine_112 : decode c_TX_readLine 112 = .ok (.aload_n 0, 1) := by decide +kernel
theorem d_TX_readLine_113 : decode c_TX_readLine 113 = .ok (.getfield 27, 3) := by decide +kernel
theorem d_TX_readLine_116 : decode c_TX_readLine 116 = .ok (.invokevirtual 82, 3) := by decide +kernel
theorem d_TX_readLine_119 : decode c_TX_readLine 119 = .ok (.invokevirtual 45, 3) := by decide +kernel
theorem d_TX_readLine_122 : decode c_TX_readLine 122 = .ok (.ifCond .ne 5, 3) := by decide +kernel
theorem d_TX_readLine_125 : decode c_TX_readLine 125 = .ok (.iconst 0, 1) := by decide +kernel
theorem d_TX_readLine_126 : decode c_TX_readLine 126 = .ok (.ireturn, 1) := by decide +kernel
theorem d_TX_readLine_127 : decode c_TX_readLine 127 = .ok (.aload_n 1, 1) := by decide +kernel
theorem d_TX_readLine_128 : decode c_TX_readLine 128 = .ok (.aload_n 0, 1) := by decide +kernel
theorem d_TX_readLine_129 : decode c_TX_readLine 129 = .ok (.getfield 49, 3) := by decide +kernel
theorem d_TX_readLine_132 : decode c_TX_readLine 132 = .ok (.putfield 72, 3) := by decide +kernel
theorem d_TX_readLine_135 : decode c_TX_readLine 135 = .ok (.aload_n 0, 1) := by decide +kernel
theorem d_TX_readLine_136 : decode c_TX_readLine 136 = .ok (.getfield 35, 3) := by decide +kernel
theorem d_TX_readLine_139 : decode c_TX_readLine 139 = .ok (.aload_n 0, 1) := by decide +kernel
theorem d_TX_readLine_140 : decode c_TX_readLine 140 = .ok (.getfield 31, 3) := by decide +kernel
theorem d_TX_readLine_143 : decode c_TX_readLine 143 = .ok (.if_icmp .ge 12, 3) := by decide +kernel
theorem d_TX_readLine_146 : decode c_TX_readLine 146 = .ok (.aload_n 0, 1) := by decide +kernel
theorem d_TX_readLine_147 : decode c_TX_readLine 147 = .ok (.bipush 10, 2) := by decide +kernel
theorem d_TX_readLine_149 : decode c_TX_readLine 149 = .ok (.invokevirtual 85, 3) := by decide +kernel
theorem d_TX_readLine_152 : decode c_TX_readLine 152 = .ok (.ifCond .eq 7, 3) := by decide +kernel
theorem d_TX_readLine_155 : decode c_TX_readLine 155 = .ok (.iconst 1, 1) := by decide +kernel
theorem d_TX_readLine_156 : decode c_TX_readLine 156 = .ok (.goto 4, 3) := by decide +kernel
theorem d_TX_readLine_159 : decode c_TX_readLine 159 = .ok (.iconst 0, 1) := by decide +kernel
theorem d_TX_readLine_160 : decode c_TX_readLine 160 = .ok (.ireturn, 1) := by decide +kernel
theorem d_TX_readNumber_0 : decode c_TX_readNumber 0 = .ok (.aload_n 0, 1) := by decide +kernel
theorem d_TX_readNumber_1 : decode c_TX_readNumber 1 = .ok (.getfield 35, 3) := by decide +kernel
theorem d_TX_readNumber_4 : decode c_TX_readNumber 4 = .ok (.istore_n 3, 1) := by decide +kernel
theorem d_TX_readNumber_5 : decode c_TX_readNumber 5 = .ok (.aload_n 0, 1) := by decide +kernel
theorem d_TX_readNumber_6 : decode c_TX_readNumber 6 = .ok (.iconst 0, 1) := by decide +kernel
theorem d_TX_readNumber_7 : decode c_TX_readNumber 7 = .ok (.putfield 49, 3) := by decide +kernel
theorem d_TX_readNumber_10 : decode c_TX_readNumber 10 = .ok (.iconst 0, 1) := by decide +kernel
theorem d_TX_readNumber_11 : decode c_TX_readNumber 11 = .ok (.istore 4, 2) := by decide +kernel
theorem d_TX_readNumber_13 : decode c_TX_readNumber 13 = .ok (.iload 4, 2) := by decide +kernel
theorem d_TX_readNumber_15 : decode c_TX_readNumber 15 = .ok (.bipush 6, 2) := by decide +kernel
theorem d_TX_readNumber_17 : decode c_TX_readNumber 17 = .ok (.if_icmp .gt 88, 3) := by decide +kernel
theorem d_TX_readNumber_20 : decode c_TX_readNumber 20 = .ok (.aload_n 0, 1) := by decide +kernel
theorem d_TX_readNumber_21 : decode c_TX_readNumber 21 = .ok (.invokevirtual 89, 3) := by decide +kernel
theorem d_TX_readNumber_24 : decode c_TX_readNumber 24 = .ok (.invokestatic 92, 3) := by decide +kernel
theorem d_TX_readNumber_27 : decode c_TX_readNumber 27 = .ok (.ifCond .eq 78, 3) := by decide +kernel
theorem d_TX_readNumber_30 : decode c_TX_readNumber 30 = .ok (.iload 4, 2) := by decide +kernel
theorem d_TX_readNumber_32 : decode c_TX_readNumber 32 = .ok (.ifCond .le 14, 3) := by decide +kernel
theorem d_TX_readNumber_35 : decode c_TX_readNumber 35 = .ok (.aload_n 0, 1) := by decide +kernel
theorem d_TX_readNumber_36 : decode c_TX_readNumber 36 = .ok (.getfield 49, 3) := by decide +kernel
theorem d_TX_readNumber_39 : decode c_TX_readNumber 39 = .ok (.ifCond .ne 7, 3) := by decide +kernel
theorem d_TX_readNumber_42 : decode c_TX_readNumber 42 = .ok (.iconst 1, 1) := by decide +kernel
theorem d_TX_readNumber_43 : decode c_TX_readNumber 43 = .ok (.goto 4, 3) := by decide +kernel
theorem d_TX_readNumber_46 : decode c_TX_readNumber 46 = .ok (.iconst 0, 1) := by decide +kernel
theorem d_TX_readNumber_47 : decode c_TX_readNumber 47 = .ok (.istore 5, 2) := by decide +kernel
theorem d_TX_readNumber_49 : decode c_TX_readNumber 49 = .ok (.iload 5, 2) := by decide +kernel
theorem d_TX_readNumber_51 : decode c_TX_readNumber 51 = .ok (.ifCond .ne 10, 3) := by decide +kernel
theorem d_TX_readNumber_54 : decode c_TX_readNumber 54 = .ok (.iload 4, 2) := by decide +kernel
theorem d_TX_readNumber_56 : decode c_TX_readNumber 56 = .ok (.bipush 6, 2) := by decide +kernel
theorem d_TX_readNumber_58 : decode c_TX_readNumber 58 = .ok (.if_icmp .ne 12, 3) := by decide +kernel
theorem d_TX_readNumber_61 : decode c_TX_readNumber 61 = .ok (.aload_n 0, 1) := by decide +kernel
theorem d_TX_readNumber_62 : decode c_TX_readNumber 62 = .ok (.aload_n 0, 1) := by decide +kernel
theorem d_TX_readNumber_63 : decode c_TX_readNumber 63 = .ok (.getfield 35, 3) := by decide +kernel
theorem d_TX_readNumber_66 : decode c_TX_readNumber 66 = .ok (.invokevirtual 95, 3) := by decide +kernel
theorem d_TX_readNumber_69 : decode c_TX_readNumber 69 = .ok (.ireturn, 1) := by decide +kernel
theorem d_TX_readNumber_70 : decode c_TX_readNumber 70 = .ok (.aload_n 0, 1) := by decide +kernel
theorem d_TX_readNumber_71 : decode c_TX_readNumber 71 = .ok (.aload_n 0, 1) := by decide +kernel
theorem d_TX_readNumber_72 : decode c_TX_readNumber 72 = .ok (.getfield 49, 3) := by decide +kernel
theorem d_TX_readNumber_75 : decode c_TX_readNumber 75 = .ok (.bipush 10, 2) := by decide +kernel
theorem d_TX_readNumber_77 : decode c_TX_readNumber 77 = .ok (.imul, 1) := by decide +kernel
theorem d_TX_readNumber_78 : decode c_TX_readNumber 78 = .ok (.aload_n 0, 1) := by decide +kernel
theorem d_TX_readNumber_79 : decode c_TX_readNumber 79 = .ok (.invokevirtual 89, 3) := by decide +kernel
theorem d_TX_readNumber_82 : decode c_TX_readNumber 82 = .ok (.iadd, 1) := by decide +kernel
theorem d_TX_readNumber_83 : decode c_TX_readNumber 83 = .ok (.bipush 48, 2) := by decide +kernel
theorem d_TX_readNumber_85 : decode c_TX_readNumber 85 = .ok (.isub, 1) := by decide +kernel
theorem d_TX_readNumber_86 : decode c_TX_readNumber 86 = .ok (.putfield 49, 3) := by decide +kernel
theorem d_TX_readNumber_89 : decode c_TX_readNumber 89 = .ok (.aload_n 0, 1) := by decide +kernel
theorem d_TX_readNumber_90 : decode c_TX_readNumber 90 = .ok (.dup, 1) := by decide +kernel
theorem d_TX_readNumber_91 : decode c_TX_readNumber 91 = .ok (.getfield 35, 3) := by decide +kernel
theorem d_TX_readNumber_94 : decode c_TX_readNumber 94 = .ok (.iconst 1, 1) := by decide +kernel
theorem d_TX_readNumber_95 : decode c_TX_readNumber 95 = .ok (.iadd, 1) := by decide +kernel
theorem d_TX_readNumber_96 : decode c_TX_readNumber 96 = .ok (.putfield 35, 3) := by decide +kernel
theorem d_TX_readNumber_99 : decode c_TX_readNumber 99 = .ok (.iinc 4 1, 3) := by decide +kernel
theorem d_TX_readNumber_102 : decode c_TX_readNumber 102 = .ok (.goto (-89), 3) := by decide +kernel
theorem d_TX_readNumber_105 : decode c_TX_readNumber 105 = .ok (.aload_n 0, 1) := by decide +kernel
theorem d_TX_readNumber_106 : decode c_TX_readNumber 106 = .ok (.getfield 35, 3) := by decide +kernel
theorem d_TX_readNumber_109 : decode c_TX_readNumber 109 = .ok (.iload_n 3, 1) := by decide +kernel
theorem d_TX_readNumber_110 : decode c_TX_readNumber 110 = .ok (.if_icmp .ne 12, 3) := by decide +kernel
theorem d_TX_readNumber_113 : decode c_TX_readNumber 113 = .ok (.aload_n 0, 1) := by decide +kernel
theorem d_TX_readNumber_114 : decode c_TX_readNumber 114 = .ok (.aload_n 0, 1) := by decide +kernel
theorem d_TX_readNumber_115 : decode c_TX_readNumber 115 = .ok (.getfield 35, 3) := by decide +kernel
theorem d_TX_readNumber_118 : decode c_TX_readNumber 118 = .ok (.invokevirtual 95, 3) := by decide +kernel
theorem d_TX_readNumber_121 : decode c_TX_readNumber 121 = .ok (.ireturn, 1) := by decide +kernel
theorem d_TX_readNumber_122 : decode c_TX_readNumber 122 = .ok (.aload_n 0, 1) := by decide +kernel
theorem d_TX_readNumber_123 : decode c_TX_readNumber 123 = .ok (.getfield 49, 3) := by decide +kernel
theorem d_TX_readNumber_126 : decode c_TX_readNumber 126 = .ok (.iload_n 1, 1) := by decide +kernel
theorem d_TX_readNumber_127 : decode c_TX_readNumber 127 = .ok (.if_icmp .lt 11, 3) := by decide +kernel
theorem d_TX_readNumber_130 : decode c_TX_readNumber 130 = .ok (.aload_n 0, 1) := by decide +kernel
theorem d_TX_readNumber_131 : decode c_TX_readNumber 131 = .ok (.getfield 49, 3) := by decide +kernel
theorem d_TX_readNumber_134 : decode c_TX_readNumber 134 = .ok (.iload_n 2, 1) := by decide +kernel
theorem d_TX_readNumber_135 : decode c_TX_readNumber 135 = .ok (.if_icmp .le 11, 3) := by decide +kernel
theorem d_TX_readNumber_138 : decode c_TX_readNumber 138 = .ok (.aload_n 0, 1) := by decide +kernel
theorem d_TX_readNumber_139 : decode c_TX_readNumber 139 = .ok (.iload_n 3, 1) := by decide +kernel
theorem d_TX_readNumber_140 : decode c_TX_readNumber 140 = .ok (.invokevirtual 95, 3) := by decide +kernel
theorem d_TX_readNumber_143 : decode c_TX_readNumber 143 = .ok (.ifCond .eq 7, 3) := by decide +kernel
theorem d_TX_readNumber_146 : decode c_TX_readNumber 146 = .ok (.iconst 1, 1) := by decide +kernel
theorem d_TX_readNumber_147 : decode c_TX_readNumber 147 = .ok (.goto 4, 3) := by decide +kernel
theorem d_TX_readNumber_150 : decode c_TX_readNumber 150 = .ok (.iconst 0, 1) := by decide +kernel
theorem d_TX_readNumber_151 : decode c_TX_readNumber 151 = .ok (.ireturn, 1) := by decide +kernel
theorem d_TX_readKind_0 : decode c_TX_readKind 0 = .ok (.iconst (-1), 1) := by decide +kernel
theorem d_TX_readKind_1 : decode c_TX_readKind 1 = .ok (.istore_n 1, 1) := by decide +kernel
theorem d_TX_readKind_2 : decode c_TX_readKind 2 = .ok (.iconst 0, 1) := by decide +kernel
theorem d_TX_readKind_3 : decode c_TX_readKind 3 = .ok (.istore_n 2, 1) := by decide +kernel
theorem d_TX_readKind_4 : decode c_TX_readKind 4 = .ok (.iload_n 2, 1) := by decide +kernel
theorem d_TX_readKind_5 : decode c_TX_readKind 5 = .ok (.getstatic 98, 3) := by decide +kernel
theorem d_TX_readKind_8 : decode c_TX_readKind 8 = .ok (.arraylength, 1) := by decide +kernel
theorem d_TX_readKind_9 : decode c_TX_readKind 9 = .ok (.if_icmp .ge 58, 3) := by decide +kernel
theorem d_TX_readKind_12 : decode c_TX_readKind 12 = .ok (.aload_n 0, 1) := by decide +kernel
theorem d_TX_readKind_13 : decode c_TX_readKind 13 = .ok (.getstatic 98, 3) := by decide +kernel
theorem d_TX_readKind_16 : decode c_TX_readKind 16 = .ok (.iload_n 2, 1) := by decide +kernel
theorem d_TX_readKind_17 : decode c_TX_readKind 17 = .ok (.aaload, 1) := by decide +kernel
theorem d_TX_readKind_18 : decode c_TX_readKind 18 = .ok (.getfield 102, 3) := by decide +kernel
theorem d_TX_readKind_21 : decode c_TX_readKind 21 = .ok (.invokevirtual 106, 3) := by decide +kernel
theorem d_TX_readKind_24 : decode c_TX_readKind 24 = .ok (.istore_n 3, 1) := by decide +kernel
theorem d_TX_readKind_25 : decode c_TX_readKind 25 = .ok (.iload_n 3, 1) := by decide +kernel
theorem d_TX_readKind_26 : decode c_TX_readKind 26 = .ok (.iload_n 1, 1) := by decide +kernel
theorem d_TX_readKind_27 : decode c_TX_readKind 27 = .ok (.if_icmp .gt 23, 3) := by decide +kernel
theorem d_TX_readKind_30 : decode c_TX_readKind 30 = .ok (.iload_n 3, 1) := by decide +kernel
theorem d_TX_readKind_31 : decode c_TX_readKind 31 = .ok (.iload_n 1, 1) := by decide +kernel
theorem d_TX_readKind_32 : decode c_TX_readKind 32 = .ok (.if_icmp .ne 29, 3) := by decide +kernel
theorem d_TX_readKind_35 : decode c_TX_readKind 35 = .ok (.iload_n 3, 1) := by decide +kernel
theorem d_TX_readKind_36 : decode c_TX_readKind 36 = .ok (.getstatic 98, 3) := by decide +kernel
theorem d_TX_readKind_39 : decode c_TX_readKind 39 = .ok (.iload_n 2, 1) := by decide +kernel
theorem d_TX_readKind_40 : decode c_TX_readKind 40 = .ok (.aaload, 1) := by decide +kernel
theorem d_TX_readKind_41 : decode c_TX_readKind 41 = .ok (.getfield 102, 3) := by decide +kernel
theorem d_TX_readKind_44 : decode c_TX_readKind 44 = .ok (.invokevirtual 110, 3) := by decide +kernel
theorem d_TX_readKind_47 : decode c_TX_readKind 47 = .ok (.if_icmp .ne 14, 3) := by decide +kernel
theorem d_TX_readKind_50 : decode c_TX_readKind 50 = .ok (.iload_n 3, 1) := by decide +kernel
theorem d_TX_readKind_51 : decode c_TX_readKind 51 = .ok (.istore_n 1, 1) := by decide +kernel
theorem d_TX_readKind_52 : decode c_TX_readKind 52 = .ok (.aload_n 0, 1) := by decide +kernel
theorem d_TX_readKind_53 : decode c_TX_readKind 53 = .ok (.getstatic 98, 3) := by decide +kernel
theorem d_TX_readKind_56 : decode c_TX_readKind 56 = .ok (.iload_n 2, 1) := by decide +kernel
theorem d_TX_readKind_57 : decode c_TX_readKind 57 = .ok (.aaload, 1) := by decide +kernel
theorem d_TX_readKind_58 : decode c_TX_readKind 58 = .ok (.putfield 27, 3) := by decide +kernel
theorem d_TX_readKind_61 : decode c_TX_readKind 61 = .ok (.iinc 2 1, 3) := by decide +kernel
theorem d_TX_readKind_64 : decode c_TX_readKind 64 = .ok (.goto (-60), 3) := by decide +kernel
theorem d_TX_readKind_67 : decode c_TX_readKind 67 = .ok (.aload_n 0, 1) := by decide +kernel
theorem d_TX_readKind_68 : decode c_TX_readKind 68 = .ok (.dup, 1) := by decide +kernel
theorem d_TX_readKind_69 : decode c_TX_readKind 69 = .ok (.getfield 35, 3) := by decide +kernel
theorem d_TX_readKind_72 : decode c_TX_readKind 72 = .ok (.iload_n 1, 1) := by decide +kernel
theorem d_TX_readKind_73 : decode c_TX_readKind 73 = .ok (.iadd, 1) := by decide +kernel
theorem d_TX_readKind_74 : decode c_TX_readKind 74 = .ok (.putfield 35, 3) := by decide +kernel
theorem d_TX_readKind_77 : decode c_TX_readKind 77 = .ok (.iload_n 1, 1) := by decide +kernel
theorem d_TX_readKind_78 : decode c_TX_readKind 78 = .ok (.aload_n 0, 1) := by decide +kernel
theorem d_TX_readKind_79 : decode c_TX_readKind 79 = .ok (.getfield 27, 3) := by decide +kernel
theorem d_TX_readKind_82 : decode c_TX_readKind 82 = .ok (.getfield 102, 3) := by decide +kernel
theorem d_TX_readKind_85 : decode c_TX_readKind 85 = .ok (.invokevirtual 110, 3) := by decide +kernel
theorem d_TX_readKind_88 : decode c_TX_readKind 88 = .ok (.if_icmp .eq 14, 3) := by decide +kernel
theorem d_TX_readKind_91 : decode c_TX_readKind 91 = .ok (.aload_n 0, 1) := by decide +kernel
theorem d_TX_readKind_92 : decode c_TX_readKind 92 = .ok (.aload_n 0, 1) := by decide +kernel
theorem d_TX_readKind_93 : decode c_TX_readKind 93 = .ok (.getfield 35, 3) := by decide +kernel
theorem d_TX_readKind_96 : decode c_TX_readKind 96 = .ok (.invokevirtual 95, 3) := by decide +kernel
theorem d_TX_readKind_99 : decode c_TX_readKind 99 = .ok (.ifCond .eq 7, 3) := by decide +kernel
theorem d_TX_readKind_102 : decode c_TX_readKind 102 = .ok (.iconst 1, 1) := by decide +kernel
theorem d_TX_readKind_103 : decode c_TX_readKind 103 = .ok (.goto 4, 3) := by decide +kernel
theorem d_TX_readKind_106 : decode c_TX_readKind 106 = .ok (.iconst 0, 1) := by decide +kernel
theorem d_TX_readKind_107 : decode c_TX_readKind 107 = .ok (.ireturn, 1) := by decide +kernel
theorem d_TX_sharedSigns_0 : decode c_TX_sharedSigns 0 = .ok (.iconst 0, 1) := by decide +kernel
theorem d_TX_sharedSigns_1 : decode c_TX_sharedSigns 1 = .ok (.istore_n 2, 1) := by decide +kernel
theorem d_TX_sharedSigns_2 : decode c_TX_sharedSigns 2 = .ok (.iload_n 2, 1) := by decide +kernel
theorem d_TX_sharedSigns_3 : decode c_TX_sharedSigns 3 = .ok (.aload_n 1, 1) := by decide +kernel
theorem d_TX_sharedSigns_4 : decode c_TX_sharedSigns 4 = .ok (.invokevirtual 110, 3) := by decide +kernel
theorem d_TX_sharedSigns_7 : decode c_TX_sharedSigns 7 = .ok (.if_icmp .ge 41, 3) := by decide +kernel
theorem d_TX_sharedSigns_10 : decode c_TX_sharedSigns 10 = .ok (.aload_n 0, 1) := by decide +kernel
theorem d_TX_sharedSigns_11 : decode c_TX_sharedSigns 11 = .ok (.getfield 35, 3) := by decide +kernel
theorem d_TX_sharedSigns_14 : decode c_TX_sharedSigns 14 = .ok (.iload_n 2, 1) := by decide +kernel
theorem d_TX_sharedSigns_15 : decode c_TX_sharedSigns 15 = .ok (.iadd, 1) := by decide +kernel
theorem d_TX_sharedSigns_16 : decode c_TX_sharedSigns 16 = .ok (.aload_n 0, 1) := by decide +kernel
theorem d_TX_sharedSigns_17 : decode c_TX_sharedSigns 17 = .ok (.getfield 31, 3) := by decide +kernel
theorem d_TX_sharedSigns_20 : decode c_TX_sharedSigns 20 = .ok (.if_icmp .ge 28, 3) := by decide +kernel
theorem d_TX_sharedSigns_23 : decode c_TX_sharedSigns 23 = .ok (.aload_n 0, 1) := by decide +kernel
theorem d_TX_sharedSigns_24 : decode c_TX_sharedSigns 24 = .ok (.getfield 9, 3) := by decide +kernel
theorem d_TX_sharedSigns_27 : decode c_TX_sharedSigns 27 = .ok (.aload_n 0, 1) := by decide +kernel
theorem d_TX_sharedSigns_28 : decode c_TX_sharedSigns 28 = .ok (.getfield 35, 3) := by decide +kernel
theorem d_TX_sharedSigns_31 : decode c_TX_sharedSigns 31 = .ok (.iload_n 2, 1) := by decide +kernel
theorem d_TX_sharedSigns_32 : decode c_TX_sharedSigns 32 = .ok (.iadd, 1) := by decide +kernel
theorem d_TX_sharedSigns_33 : decode c_TX_sharedSigns 33 = .ok (.iaload, 1) := by decide +kernel
theorem d_TX_sharedSigns_34 : decode c_TX_sharedSigns 34 = .ok (.aload_n 1, 1) := by decide +kernel
theorem d_TX_sharedSigns_35 : decode c_TX_sharedSigns 35 = .ok (.iload_n 2, 1) := by decide +kernel
theorem d_TX_sharedSigns_36 : decode c_TX_sharedSigns 36 = .ok (.invokevirtual 115, 3) := by decide +kernel
theorem d_TX_sharedSigns_39 : decode c_TX_sharedSigns 39 = .ok (.if_icmp .ne 9, 3) := by decide +kernel
theorem d_TX_sharedSigns_42 : decode c_TX_sharedSigns 42 = .ok (.iinc 2 1, 3) := by decide +kernel
theorem d_TX_sharedSigns_45 : decode c_TX_sharedSigns 45 = .ok (.goto (-43), 3) := by decide +kernel
theorem d_TX_sharedSigns_48 : decode c_TX_sharedSigns 48 = .ok (.iload_n 2, 1) := by decide +kernel
theorem d_TX_sharedSigns_49 : decode c_TX_sharedSigns 49 = .ok (.ireturn, 1) := by decide +kernel
theorem d_TX_readBlank_0 : decode c_TX_readBlank 0 = .ok (.aload_n 0, 1) := by decide +kernel
theorem d_TX_readBlank_1 : decode c_TX_readBlank 1 = .ok (.bipush 32, 2) := by decide +kernel
theorem d_TX_readBlank_3 : decode c_TX_readBlank 3 = .ok (.invokevirtual 85, 3) := by decide +kernel
theorem d_TX_readBlank_6 : decode c_TX_readBlank 6 = .ok (.ireturn, 1) := by decide +kernel
theorem d_TX_readSign_0 : decode c_TX_readSign 0 = .ok (.aload_n 0, 1) := by decide +kernel
theorem d_TX_readSign_1 : decode c_TX_readSign 1 = .ok (.invokevirtual 89, 3) := by decide +kernel
theorem d_TX_readSign_4 : decode c_TX_readSign 4 = .ok (.iload_n 1, 1) := by decide +kernel
theorem d_TX_readSign_5 : decode c_TX_readSign 5 = .ok (.if_icmp .eq 12, 3) := by decide +kernel
theorem d_TX_readSign_8 : decode c_TX_readSign 8 = .ok (.aload_n 0, 1) := by decide +kernel
theorem d_TX_readSign_9 : decode c_TX_readSign 9 = .ok (.aload_n 0, 1) := by decide +kernel
theorem d_TX_readSign_10 : decode c_TX_readSign 10 = .ok (.getfield 35, 3) := by decide +kernel
theorem d_TX_readSign_13 : decode c_TX_readSign 13 = .ok (.invokevirtual 95, 3) := by decide +kernel
theorem d_TX_readSign_16 : decode c_TX_readSign 16 = .ok (.ireturn, 1) := by decide +kernel
theorem d_TX_readSign_17 : decode c_TX_readSign 17 = .ok (.aload_n 0, 1) := by decide +kernel
theorem d_TX_readSign_18 : decode c_TX_readSign 18 = .ok (.dup, 1) := by decide +kernel
theorem d_TX_readSign_19 : decode c_TX_readSign 19 = .ok (.getfield 35, 3) := by decide +kernel
theorem d_TX_readSign_22 : decode c_TX_readSign 22 = .ok (.iconst 1, 1) := by decide +kernel
theorem d_TX_readSign_23 : decode c_TX_readSign 23 = .ok (.iadd, 1) := by decide +kernel
theorem d_TX_readSign_24 : decode c_TX_readSign 24 = .ok (.putfield 35, 3) := by decide +kernel
theorem d_TX_readSign_27 : decode c_TX_readSign 27 = .ok (.iconst 1, 1) := by decide +kernel
theorem d_TX_readSign_28 : decode c_TX_readSign 28 = .ok (.ireturn, 1) := by decide +kernel
theorem d_TX_nextSign_0 : decode c_TX_nextSign 0 = .ok (.aload_n 0, 1) := by decide +kernel
theorem d_TX_nextSign_1 : decode c_TX_nextSign 1 = .ok (.getfield 35, 3) := by decide +kernel
theorem d_TX_nextSign_4 : decode c_TX_nextSign 4 = .ok (.aload_n 0, 1) := by decide +kernel
theorem d_TX_nextSign_5 : decode c_TX_nextSign 5 = .ok (.getfield 31, 3) := by decide +kernel
theorem d_TX_nextSign_8 : decode c_TX_nextSign 8 = .ok (.if_icmp .ge 15, 3) := by decide +kernel
theorem d_TX_nextSign_11 : decode c_TX_nextSign 11 = .ok (.aload_n 0, 1) := by decide +kernel
theorem d_TX_nextSign_12 : decode c_TX_nextSign 12 = .ok (.getfield 9, 3) := by decide +kernel
theorem d_TX_nextSign_15 : decode c_TX_nextSign 15 = .ok (.aload_n 0, 1) := by decide +kernel
theorem d_TX_nextSign_16 : decode c_TX_nextSign 16 = .ok (.getfield 35, 3) := by decide +kernel
theorem d_TX_nextSign_19 : decode c_TX_nextSign 19 = .ok (.iaload, 1) := by decide +kernel
theorem d_TX_nextSign_20 : decode c_TX_nextSign 20 = .ok (.goto 4, 3) := by decide +kernel
theorem d_TX_nextSign_23 : decode c_TX_nextSign 23 = .ok (.iconst (-1), 1) := by decide +kernel
theorem d_TX_nextSign_24 : decode c_TX_nextSign 24 = .ok (.ireturn, 1) := by decide +kernel
theorem d_TX_isDigit_0 : decode c_TX_isDigit 0 = .ok (.iload_n 0, 1) := by decide +kernel
theorem d_TX_isDigit_1 : decode c_TX_isDigit 1 = .ok (.bipush 48, 2) := by decide +kernel
theorem d_TX_isDigit_3 : decode c_TX_isDigit 3 = .ok (.if_icmp .lt 13, 3) := by decide +kernel
theorem d_TX_isDigit_6 : decode c_TX_isDigit 6 = .ok (.iload_n 0, 1) := by decide +kernel
theorem d_TX_isDigit_7 : decode c_TX_isDigit 7 = .ok (.bipush 57, 2) := by decide +kernel
theorem d_TX_isDigit_9 : decode c_TX_isDigit 9 = .ok (.if_icmp .gt 7, 3) := by decide +kernel
theorem d_TX_isDigit_12 : decode c_TX_isDigit 12 = .ok (.iconst 1, 1) := by decide +kernel
theorem d_TX_isDigit_13 : decode c_TX_isDigit 13 = .ok (.goto 4, 3) := by decide +kernel
theorem d_TX_isDigit_16 : decode c_TX_isDigit 16 = .ok (.iconst 0, 1) := by decide +kernel
theorem d_TX_isDigit_17 : decode c_TX_isDigit 17 = .ok (.ireturn, 1) := by decide +kernel
theorem d_TX_fail_0 : decode c_TX_fail 0 = .ok (.aload_n 0, 1) := by decide +kernel
theorem d_TX_fail_1 : decode c_TX_fail 1 = .ok (.iload_n 1, 1) := by decide +kernel
theorem d_TX_fail_2 : decode c_TX_fail 2 = .ok (.putfield 42, 3) := by decide +kernel
theorem d_TX_fail_5 : decode c_TX_fail 5 = .ok (.iconst 0, 1) := by decide +kernel
theorem d_TX_fail_6 : decode c_TX_fail 6 = .ok (.ireturn, 1) := by decide +kernel
theorem d_UN_init_0 : decode c_UN_init 0 = .ok (.aload_n 0, 1) := by decide +kernel
theorem d_UN_init_1 : decode c_UN_init 1 = .ok (.invokespecial 3, 3) := by decide +kernel
theorem d_UN_init_4 : decode c_UN_init 4 = .ok (.aload_n 0, 1) := by decide +kernel
theorem d_UN_init_5 : decode c_UN_init 5 = .ok (.bipush 100, 2) := by decide +kernel
theorem d_UN_init_7 : decode c_UN_init 7 = .ok (.putfield 9, 3) := by decide +kernel
theorem d_UN_init_10 : decode c_UN_init 10 = .ok (.aload_n 0, 1) := by decide +kernel
theorem d_UN_init_11 : decode c_UN_init 11 = .ok (.bipush 100, 2) := by decide +kernel
theorem d_UN_init_13 : decode c_UN_init 13 = .ok (.putfield 15, 3) := by decide +kernel
theorem d_UN_init_16 : decode c_UN_init 16 = .ok (.aload_n 0, 1) := by decide +kernel
theorem d_UN_init_17 : decode c_UN_init 17 = .ok (.bipush 100, 2) := by decide +kernel
theorem d_UN_init_19 : decode c_UN_init 19 = .ok (.putfield 18, 3) := by decide +kernel
theorem d_UN_init_22 : decode c_UN_init 22 = .ok (.aload_n 0, 1) := by decide +kernel
theorem d_UN_init_23 : decode c_UN_init 23 = .ok (.sipush 1000, 3) := by decide +kernel
theorem d_UN_init_26 : decode c_UN_init 26 = .ok (.putfield 21, 3) := by decide +kernel
theorem d_UN_init_29 : decode c_UN_init 29 = .ok (.aload_n 0, 1) := by decide +kernel
theorem d_UN_init_30 : decode c_UN_init 30 = .ok (.sipush 1000, 3) := by decide +kernel
theorem d_UN_init_33 : decode c_UN_init 33 = .ok (.putfield 24, 3) := by decide +kernel
theorem d_UN_init_36 : decode c_UN_init 36 = .ok (.aload_n 0, 1) := by decide +kernel
theorem d_UN_init_37 : decode c_UN_init 37 = .ok (.iconst (-1), 1) := by decide +kernel
theorem d_UN_init_38 : decode c_UN_init 38 = .ok (.putfield 27, 3) := by decide +kernel
theorem d_UN_init_41 : decode c_UN_init 41 = .ok (.return_, 1) := by decide +kernel
theorem d_WV_init_0 : decode c_WV_init 0 = .ok (.aload_n 0, 1) := by decide +kernel
theorem d_WV_init_1 : decode c_WV_init 1 = .ok (.invokespecial 3, 3) := by decide +kernel
theorem d_WV_init_4 : decode c_WV_init 4 = .ok (.return_, 1) := by decide +kernel
theorem d_WV_covers_0 : decode c_WV_covers 0 = .ok (.aload_n 0, 1) := by decide +kernel
theorem d_WV_covers_1 : decode c_WV_covers 1 = .ok (.getfield 9, 3) := by decide +kernel
theorem d_WV_covers_4 : decode c_WV_covers 4 = .ok (.iload_n 1, 1) := by decide +kernel
theorem d_WV_covers_5 : decode c_WV_covers 5 = .ok (.if_icmp .ne 48, 3) := by decide +kernel
theorem d_WV_covers_8 : decode c_WV_covers 8 = .ok (.aload_n 0, 1) := by decide +kernel
theorem d_WV_covers_9 : decode c_WV_covers 9 = .ok (.getfield 15, 3) := by decide +kernel
theorem d_WV_covers_12 : decode c_WV_covers 12 = .ok (.iconst (-1), 1) := by decide +kernel
theorem d_WV_covers_13 : decode c_WV_covers 13 = .ok (.if_icmp .eq 11, 3) := by decide +kernel
theorem d_WV_covers_16 : decode c_WV_covers 16 = .ok (.aload_n 0, 1) := by decide +kernel
theorem d_WV_covers_17 : decode c_WV_covers 17 = .ok (.getfield 15, 3) := by decide +kernel
theorem d_WV_covers_20 : decode c_WV_covers 20 = .ok (.iload_n 2, 1) := by decide +kernel
theorem d_WV_covers_21 : decode c_WV_covers 21 = .ok (.if_icmp .ne 32, 3) := by decide +kernel
theorem d_WV_covers_24 : decode c_WV_covers 24 = .ok (.aload_n 0, 1) := by decide +kernel
theorem d_WV_covers_25 : decode c_WV_covers 25 = .ok (.getfield 18, 3) := by decide +kernel
theorem d_WV_covers_28 : decode c_WV_covers 28 = .ok (.iconst (-1), 1) := by decide +kernel
theorem d_WV_covers_29 : decode c_WV_covers 29 = .ok (.if_icmp .eq 11, 3) := by decide +kernel
theorem d_WV_covers_32 : decode c_WV_covers 32 = .ok (.aload_n 0, 1) := by decide +kernel
theorem d_WV_covers_33 : decode c_WV_covers 33 = .ok (.getfield 18, 3) := by decide +kernel
theorem d_WV_covers_36 : decode c_WV_covers 36 = .ok (.iload_n 3, 1) := by decide +kernel
theorem d_WV_covers_37 : decode c_WV_covers 37 = .ok (.if_icmp .ne 16, 3) := by decide +kernel
theorem d_WV_covers_40 : decode c_WV_covers 40 = .ok (.iload 4, 2) := by decide +kernel
theorem d_WV_covers_42 : decode c_WV_covers 42 = .ok (.aload_n 0, 1) := by decide +kernel
theorem d_WV_covers_43 : decode c_WV_covers 43 = .ok (.getfield 21, 3) := by decide +kernel
theorem d_WV_covers_46 : decode c_WV_covers 46 = .ok (.if_icmp .gt 7, 3) := by decide +kernel
theorem d_WV_covers_49 : decode c_WV_covers 49 = .ok (.iconst 1, 1) := by decide +kernel
theorem d_WV_covers_50 : decode c_WV_covers 50 = .ok (.goto 4, 3) := by decide +kernel
theorem d_WV_covers_53 : decode c_WV_covers 53 = .ok (.iconst 0, 1) := by decide +kernel
theorem d_WV_covers_54 : decode c_WV_covers 54 = .ok (.ireturn, 1) := by decide +kernel
